/-! THE CLASS: its face (written by wip/whole/gen72.py) -/
section FACE2
variable {h : aH} {w : Nat → Int} {ps : List (Nat → Int)} {kp : Option (Nat → Int)} {T : Nat} {bu : Nat → Int} {ek eo : Int} {rl : Nat} {rp : Nat → Int}
theorem x_131 (C : CR h w ps kp T bu ek eo rl rp) (hI : Inv0 w) (x : Int) (hx : inR x) (g : isPl w x = true) : Ct 2 131 [aR 0, aI x] h (.inl none, h) := by
  obtain ⟨h0, hR, hK, hT, hH, hS, hB⟩ := id C
  obtain ⟨c, ⟨o0, o1, o2, o3, o4, o5, o6, o7, o8, o9, o10, o11, o12, o13, o14, o15, o16, o17⟩, a0, a1, a2, a3, a4, a5, a6, a7, a8, a9, a10, a11, a12, a13, a14⟩ := id hR
  have hbn := hI.bNe
  have hpn := hI.pNe
  have x0 := hI.len
  have x1 := hI.hour
  have x2 := hI.gas
  have x3 := hI.leak
  have x4 := hI.gn
  have x5 := hI.bn
  have x6 := hI.pn
  refine Ct.of [aR 0, aI x] rfl ?_
  refine r_aldR cd_131_0 rfl rfl ?_
  refine r_get cd_131_1 rfl h0 rfl ?_
  refine r_get cd_131_4 rfl o0 rfl ?_
  refine r_ild cd_131_7 rfl rfl ?_
  refine r_cI (k_51 hR hI x hx) cd_131_8 rfl rfl rfl (rc0 o1 rfl) rfl rfl rfl ?_
  refine r_if52b cd_131_11 rfl (fun n1 => ?_) (fun n1 => ?_)
  · exact Bool.noConfusion (n1.symm.trans g)
  · exact r_void cd_131_25 rfl (rfl)
theorem x_140 (C : CR h w ps kp T bu ek eo rl rp) (hI : Inv0 w) (x : Int) (hx : inR x) (g : isBa w x = true) : Ct 2 140 [aR 0, aI x] h (.inl none, h) := by
  obtain ⟨h0, hR, hK, hT, hH, hS, hB⟩ := id C
  obtain ⟨c, ⟨o0, o1, o2, o3, o4, o5, o6, o7, o8, o9, o10, o11, o12, o13, o14, o15, o16, o17⟩, a0, a1, a2, a3, a4, a5, a6, a7, a8, a9, a10, a11, a12, a13, a14⟩ := id hR
  have hbn := hI.bNe
  have hpn := hI.pNe
  have x0 := hI.len
  have x1 := hI.hour
  have x2 := hI.gas
  have x3 := hI.leak
  have x4 := hI.gn
  have x5 := hI.bn
  have x6 := hI.pn
  refine Ct.of [aR 0, aI x] rfl ?_
  refine r_aldR cd_140_0 rfl rfl ?_
  refine r_get cd_140_1 rfl h0 rfl ?_
  refine r_get cd_140_4 rfl o0 rfl ?_
  refine r_ild cd_140_7 rfl rfl ?_
  refine r_cI (k_3 hR hI x hx) cd_140_8 rfl rfl rfl (rc0 o5 rfl) rfl rfl rfl ?_
  refine r_if52b cd_140_11 rfl (fun n1 => ?_) (fun n1 => ?_)
  · exact Bool.noConfusion (n1.symm.trans g)
  · exact r_void cd_140_25 rfl (rfl)
theorem x_139 (C : CR h w ps kp T bu ek eo rl rp) (hI : Inv0 w) (x : Int) (hx : inR x) (g : isPa w x = true) : Ct 2 139 [aR 0, aI x] h (.inl none, h) := by
  obtain ⟨h0, hR, hK, hT, hH, hS, hB⟩ := id C
  obtain ⟨c, ⟨o0, o1, o2, o3, o4, o5, o6, o7, o8, o9, o10, o11, o12, o13, o14, o15, o16, o17⟩, a0, a1, a2, a3, a4, a5, a6, a7, a8, a9, a10, a11, a12, a13, a14⟩ := id hR
  have hbn := hI.bNe
  have hpn := hI.pNe
  have x0 := hI.len
  have x1 := hI.hour
  have x2 := hI.gas
  have x3 := hI.leak
  have x4 := hI.gn
  have x5 := hI.bn
  have x6 := hI.pn
  refine Ct.of [aR 0, aI x] rfl ?_
  refine r_aldR cd_139_0 rfl rfl ?_
  refine r_get cd_139_1 rfl h0 rfl ?_
  refine r_get cd_139_4 rfl o0 rfl ?_
  refine r_ild cd_139_7 rfl rfl ?_
  refine r_cI (k_26 hR hI x hx) cd_139_8 rfl rfl rfl (rc0 o10 rfl) rfl rfl rfl ?_
  refine r_if52b cd_139_11 rfl (fun n1 => ?_) (fun n1 => ?_)
  · exact Bool.noConfusion (n1.symm.trans g)
  · exact r_void cd_139_25 rfl (rfl)
theorem x_129 (x : Int) (hx : inR x) (l : Int) (hl : inR l) (m : Int) (hm : inR m) (g : inB x l m = true) : Ct 1 129 [aI x, aI l, aI m] h (.inl none, h) := by
  have gg := inB_iff.mp g
  refine Ct.of [aI x, aI l, aI m] rfl ?_
  refine r_ild cd_129_0 rfl rfl ?_
  refine r_ild cd_129_1 rfl rfl ?_
  refine r_ic63 cd_129_2 rfl hx hl (fun n1 => ?_) (fun n1 => ?_)
  · exact absurd gg (by omega)
  · refine r_ild cd_129_5 rfl rfl ?_
    refine r_ild cd_129_6 rfl rfl ?_
    refine r_ic66 cd_129_7 rfl hx hm (fun n2 => ?_) (fun n2 => ?_)
    · exact absurd gg (by omega)
    · exact r_void cd_129_21 rfl (rfl)
theorem x_114 (C : CR h w ps kp T bu ek eo rl rp) (hI : Inv0 w)  : Ct 1 114 [aR 0] h (.inl (some (aI (w 0))), h) := by
  obtain ⟨h0, hR, hK, hT, hH, hS, hB⟩ := id C
  obtain ⟨c, ⟨o0, o1, o2, o3, o4, o5, o6, o7, o8, o9, o10, o11, o12, o13, o14, o15, o16, o17⟩, a0, a1, a2, a3, a4, a5, a6, a7, a8, a9, a10, a11, a12, a13, a14⟩ := id hR
  have hbn := hI.bNe
  have hpn := hI.pNe
  have x0 := hI.len
  have x1 := hI.hour
  have x2 := hI.gas
  have x3 := hI.leak
  have x4 := hI.gn
  have x5 := hI.bn
  have x6 := hI.pn
  refine Ct.of [aR 0] rfl ?_
  refine r_aldR cd_114_0 rfl rfl ?_
  refine r_get cd_114_1 rfl h0 rfl ?_
  refine r_get cd_114_4 rfl o0 rfl ?_
  refine r_get cd_114_7 rfl o1 rfl ?_
  exact r_ret cd_114_10 True.intro (rfl)
theorem x_115 (C : CR h w ps kp T bu ek eo rl rp) (hI : Inv0 w)  : Ct 1 115 [aR 0] h (.inl (some (aI (w 1))), h) := by
  obtain ⟨h0, hR, hK, hT, hH, hS, hB⟩ := id C
  obtain ⟨c, ⟨o0, o1, o2, o3, o4, o5, o6, o7, o8, o9, o10, o11, o12, o13, o14, o15, o16, o17⟩, a0, a1, a2, a3, a4, a5, a6, a7, a8, a9, a10, a11, a12, a13, a14⟩ := id hR
  have hbn := hI.bNe
  have hpn := hI.pNe
  have x0 := hI.len
  have x1 := hI.hour
  have x2 := hI.gas
  have x3 := hI.leak
  have x4 := hI.gn
  have x5 := hI.bn
  have x6 := hI.pn
  refine Ct.of [aR 0] rfl ?_
  refine r_aldR cd_115_0 rfl rfl ?_
  refine r_get cd_115_1 rfl h0 rfl ?_
  refine r_get cd_115_4 rfl o0 rfl ?_
  exact r_ret cd_115_7 True.intro (rfl)
theorem x_116 (C : CR h w ps kp T bu ek eo rl rp) (hI : Inv0 w)  : Ct 1 116 [aR 0] h (.inl (some (aI (w 2))), h) := by
  obtain ⟨h0, hR, hK, hT, hH, hS, hB⟩ := id C
  obtain ⟨c, ⟨o0, o1, o2, o3, o4, o5, o6, o7, o8, o9, o10, o11, o12, o13, o14, o15, o16, o17⟩, a0, a1, a2, a3, a4, a5, a6, a7, a8, a9, a10, a11, a12, a13, a14⟩ := id hR
  have hbn := hI.bNe
  have hpn := hI.pNe
  have x0 := hI.len
  have x1 := hI.hour
  have x2 := hI.gas
  have x3 := hI.leak
  have x4 := hI.gn
  have x5 := hI.bn
  have x6 := hI.pn
  refine Ct.of [aR 0] rfl ?_
  refine r_aldR cd_116_0 rfl rfl ?_
  refine r_get cd_116_1 rfl h0 rfl ?_
  refine r_get cd_116_4 rfl o0 rfl ?_
  exact r_ret cd_116_7 True.intro (rfl)
theorem x_117 (C : CR h w ps kp T bu ek eo rl rp) (hI : Inv0 w)  : Ct 1 117 [aR 0] h (.inl (some (aI (w 5))), h) := by
  obtain ⟨h0, hR, hK, hT, hH, hS, hB⟩ := id C
  obtain ⟨c, ⟨o0, o1, o2, o3, o4, o5, o6, o7, o8, o9, o10, o11, o12, o13, o14, o15, o16, o17⟩, a0, a1, a2, a3, a4, a5, a6, a7, a8, a9, a10, a11, a12, a13, a14⟩ := id hR
  have hbn := hI.bNe
  have hpn := hI.pNe
  have x0 := hI.len
  have x1 := hI.hour
  have x2 := hI.gas
  have x3 := hI.leak
  have x4 := hI.gn
  have x5 := hI.bn
  have x6 := hI.pn
  refine Ct.of [aR 0] rfl ?_
  refine r_aldR cd_117_0 rfl rfl ?_
  refine r_get cd_117_1 rfl h0 rfl ?_
  refine r_get cd_117_4 rfl o0 rfl ?_
  refine r_get cd_117_7 rfl o5 rfl ?_
  exact r_ret cd_117_10 True.intro (rfl)
theorem x_118 (C : CR h w ps kp T bu ek eo rl rp) (hI : Inv0 w)  : Ct 1 118 [aR 0] h (.inl (some (aI (w 6))), h) := by
  obtain ⟨h0, hR, hK, hT, hH, hS, hB⟩ := id C
  obtain ⟨c, ⟨o0, o1, o2, o3, o4, o5, o6, o7, o8, o9, o10, o11, o12, o13, o14, o15, o16, o17⟩, a0, a1, a2, a3, a4, a5, a6, a7, a8, a9, a10, a11, a12, a13, a14⟩ := id hR
  have hbn := hI.bNe
  have hpn := hI.pNe
  have x0 := hI.len
  have x1 := hI.hour
  have x2 := hI.gas
  have x3 := hI.leak
  have x4 := hI.gn
  have x5 := hI.bn
  have x6 := hI.pn
  refine Ct.of [aR 0] rfl ?_
  refine r_aldR cd_118_0 rfl rfl ?_
  refine r_get cd_118_1 rfl h0 rfl ?_
  refine r_get cd_118_4 rfl o0 rfl ?_
  refine r_get cd_118_7 rfl o10 rfl ?_
  exact r_ret cd_118_10 True.intro (rfl)
theorem x_121 (C : CR h w ps kp T bu ek eo rl rp) (hI : Inv0 w)  : Ct 1 121 [aR 0] h (.inl (some (aI (w 7))), h) := by
  obtain ⟨h0, hR, hK, hT, hH, hS, hB⟩ := id C
  obtain ⟨c, ⟨o0, o1, o2, o3, o4, o5, o6, o7, o8, o9, o10, o11, o12, o13, o14, o15, o16, o17⟩, a0, a1, a2, a3, a4, a5, a6, a7, a8, a9, a10, a11, a12, a13, a14⟩ := id hR
  have hbn := hI.bNe
  have hpn := hI.pNe
  have x0 := hI.len
  have x1 := hI.hour
  have x2 := hI.gas
  have x3 := hI.leak
  have x4 := hI.gn
  have x5 := hI.bn
  have x6 := hI.pn
  refine Ct.of [aR 0] rfl ?_
  refine r_aldR cd_121_0 rfl rfl ?_
  refine r_get cd_121_1 rfl h0 rfl ?_
  refine r_get cd_121_4 rfl o0 rfl ?_
  exact r_ret cd_121_7 True.intro (rfl)
theorem x_122 (C : CR h w ps kp T bu ek eo rl rp) (hI : Inv0 w)  : Ct 1 122 [aR 0] h (.inl (some (aI (w 8))), h) := by
  obtain ⟨h0, hR, hK, hT, hH, hS, hB⟩ := id C
  obtain ⟨c, ⟨o0, o1, o2, o3, o4, o5, o6, o7, o8, o9, o10, o11, o12, o13, o14, o15, o16, o17⟩, a0, a1, a2, a3, a4, a5, a6, a7, a8, a9, a10, a11, a12, a13, a14⟩ := id hR
  have hbn := hI.bNe
  have hpn := hI.pNe
  have x0 := hI.len
  have x1 := hI.hour
  have x2 := hI.gas
  have x3 := hI.leak
  have x4 := hI.gn
  have x5 := hI.bn
  have x6 := hI.pn
  refine Ct.of [aR 0] rfl ?_
  refine r_aldR cd_122_0 rfl rfl ?_
  refine r_get cd_122_1 rfl h0 rfl ?_
  refine r_get cd_122_4 rfl o0 rfl ?_
  exact r_ret cd_122_7 True.intro (rfl)
theorem x_119 (C : CR h w ps kp T bu ek eo rl rp) (hI : Inv0 w)  : Ct 3 119 [aR 0] h (.inl (some (aI (setF (flyF w) (nB w)))), h) := by
  obtain ⟨h0, hR, hK, hT, hH, hS, hB⟩ := id C
  obtain ⟨c, ⟨o0, o1, o2, o3, o4, o5, o6, o7, o8, o9, o10, o11, o12, o13, o14, o15, o16, o17⟩, a0, a1, a2, a3, a4, a5, a6, a7, a8, a9, a10, a11, a12, a13, a14⟩ := id hR
  have hbn := hI.bNe
  have hpn := hI.pNe
  have x0 := hI.len
  have x1 := hI.hour
  have x2 := hI.gas
  have x3 := hI.leak
  have x4 := hI.gn
  have x5 := hI.bn
  have x6 := hI.pn
  refine Ct.of [aR 0] rfl ?_
  refine r_aldR cd_119_0 rfl rfl ?_
  refine r_get cd_119_1 rfl h0 rfl ?_
  refine r_get cd_119_4 rfl o0 rfl ?_
  refine r_cI (k_8 hR hI ) cd_119_7 rfl rfl rfl (rc0 o5 rfl) rfl rfl rfl ?_
  exact r_ret cd_119_10 True.intro (rfl)
theorem x_120 (C : CR h w ps kp T bu ek eo rl rp) (hI : Inv0 w) (x : Int) (hx : inR x)  : Ct 2 120 [aR 0, aI x] h (.inl (some (aI (numbd w x))), h) := by
  obtain ⟨h0, hR, hK, hT, hH, hS, hB⟩ := id C
  obtain ⟨c, ⟨o0, o1, o2, o3, o4, o5, o6, o7, o8, o9, o10, o11, o12, o13, o14, o15, o16, o17⟩, a0, a1, a2, a3, a4, a5, a6, a7, a8, a9, a10, a11, a12, a13, a14⟩ := id hR
  have hbn := hI.bNe
  have hpn := hI.pNe
  have x0 := hI.len
  have x1 := hI.hour
  have x2 := hI.gas
  have x3 := hI.leak
  have x4 := hI.gn
  have x5 := hI.bn
  have x6 := hI.pn
  refine Ct.of [aR 0, aI x] rfl ?_
  refine r_aldR cd_120_0 rfl rfl ?_
  refine r_get cd_120_1 rfl h0 rfl ?_
  refine r_get cd_120_4 rfl o0 rfl ?_
  refine r_ild cd_120_7 rfl rfl ?_
  refine r_cI (k_18 hR hI x hx) cd_120_8 rfl rfl rfl (rc0 o10 rfl) rfl rfl rfl ?_
  exact r_ret cd_120_11 True.intro (rfl)
theorem x_150 (C : CR h w ps kp T bu ek eo rl rp) (hI : Inv0 w) (x : Nat)  (g0 : isPl w ((x : Nat) : Int) = true) : Ct 3 150 [aR 0, aI ((x : Nat) : Int)] h (.inl (some (aI (w (23 + x)))), h) := by
  obtain ⟨h0, hR, hK, hT, hH, hS, hB⟩ := id C
  obtain ⟨c, ⟨o0, o1, o2, o3, o4, o5, o6, o7, o8, o9, o10, o11, o12, o13, o14, o15, o16, o17⟩, a0, a1, a2, a3, a4, a5, a6, a7, a8, a9, a10, a11, a12, a13, a14⟩ := id hR
  have hbn := hI.bNe
  have hpn := hI.pNe
  have x0 := hI.len
  have x1 := hI.hour
  have x2 := hI.gas
  have x3 := hI.leak
  have x4 := hI.gn
  have x5 := hI.bn
  have x6 := hI.pn
  have e0 := isPl_iff.mp g0
  refine Ct.of [aR 0, aI ((x : Nat) : Int)] rfl ?_
  refine r_aldR cd_150_0 rfl rfl ?_
  refine r_ild cd_150_1 rfl rfl ?_
  refine r_dV (k1 := 0) (k2 := 0) (kc' := 0) (ks' := 0) (x_131 C hI ((x : Nat) : Int) ⟨by omega, by omega⟩ g0) cd_150_2 rfl rfl rfl (rc0 h0 rfl) rfl rfl rfl rfl (Nat.le_of_ble_eq_true rfl) (Nat.le_of_ble_eq_true rfl) rfl ?_
  refine r_aldR cd_150_5 rfl rfl ?_
  refine r_get cd_150_6 rfl h0 rfl ?_
  refine r_get cd_150_9 rfl o0 rfl ?_
  refine r_get cd_150_12 rfl o1 rfl ?_
  refine r_ild cd_150_15 rfl rfl ?_
  refine r_arr (i := x) cd_150_16 rfl o2 rfl (by omega) rfl ?_
  rw [a0 (x) (by omega)]
  exact r_ret cd_150_17 True.intro (rfl)
theorem x_151 (C : CR h w ps kp T bu ek eo rl rp) (hI : Inv0 w) (x : Nat)  (g0 : isPl w ((x : Nat) : Int) = true) : Ct 3 151 [aR 0, aI ((x : Nat) : Int)] h (.inl (some (aI (w (53 + x)))), h) := by
  obtain ⟨h0, hR, hK, hT, hH, hS, hB⟩ := id C
  obtain ⟨c, ⟨o0, o1, o2, o3, o4, o5, o6, o7, o8, o9, o10, o11, o12, o13, o14, o15, o16, o17⟩, a0, a1, a2, a3, a4, a5, a6, a7, a8, a9, a10, a11, a12, a13, a14⟩ := id hR
  have hbn := hI.bNe
  have hpn := hI.pNe
  have x0 := hI.len
  have x1 := hI.hour
  have x2 := hI.gas
  have x3 := hI.leak
  have x4 := hI.gn
  have x5 := hI.bn
  have x6 := hI.pn
  have e0 := isPl_iff.mp g0
  refine Ct.of [aR 0, aI ((x : Nat) : Int)] rfl ?_
  refine r_aldR cd_151_0 rfl rfl ?_
  refine r_ild cd_151_1 rfl rfl ?_
  refine r_dV (k1 := 0) (k2 := 0) (kc' := 0) (ks' := 0) (x_131 C hI ((x : Nat) : Int) ⟨by omega, by omega⟩ g0) cd_151_2 rfl rfl rfl (rc0 h0 rfl) rfl rfl rfl rfl (Nat.le_of_ble_eq_true rfl) (Nat.le_of_ble_eq_true rfl) rfl ?_
  refine r_aldR cd_151_5 rfl rfl ?_
  refine r_get cd_151_6 rfl h0 rfl ?_
  refine r_get cd_151_9 rfl o0 rfl ?_
  refine r_get cd_151_12 rfl o1 rfl ?_
  refine r_ild cd_151_15 rfl rfl ?_
  refine r_arr (i := x) cd_151_16 rfl o3 rfl (by omega) rfl ?_
  rw [a1 (x) (by omega)]
  exact r_ret cd_151_17 True.intro (rfl)
theorem x_153 (C : CR h w ps kp T bu ek eo rl rp) (hI : Inv0 w) (x : Int) (hx : inR x)  (g0 : isPl w x = true) : Ct 3 153 [aR 0, aI x] h (.inl (some (aI (setF (fun p => lies w p x) (nP w)))), h) := by
  obtain ⟨h0, hR, hK, hT, hH, hS, hB⟩ := id C
  obtain ⟨c, ⟨o0, o1, o2, o3, o4, o5, o6, o7, o8, o9, o10, o11, o12, o13, o14, o15, o16, o17⟩, a0, a1, a2, a3, a4, a5, a6, a7, a8, a9, a10, a11, a12, a13, a14⟩ := id hR
  have hbn := hI.bNe
  have hpn := hI.pNe
  have x0 := hI.len
  have x1 := hI.hour
  have x2 := hI.gas
  have x3 := hI.leak
  have x4 := hI.gn
  have x5 := hI.bn
  have x6 := hI.pn
  have e0 := isPl_iff.mp g0
  refine Ct.of [aR 0, aI x] rfl ?_
  refine r_aldR cd_153_0 rfl rfl ?_
  refine r_ild cd_153_1 rfl rfl ?_
  refine r_dV (k1 := 0) (k2 := 0) (kc' := 0) (ks' := 0) (x_131 C hI x hx g0) cd_153_2 rfl rfl rfl (rc0 h0 rfl) rfl rfl rfl rfl (Nat.le_of_ble_eq_true rfl) (Nat.le_of_ble_eq_true rfl) rfl ?_
  refine r_aldR cd_153_5 rfl rfl ?_
  refine r_get cd_153_6 rfl h0 rfl ?_
  refine r_get cd_153_9 rfl o0 rfl ?_
  refine r_ild cd_153_12 rfl rfl ?_
  refine r_cI (k_32 hR hI x hx) cd_153_13 rfl rfl rfl (rc0 o10 rfl) rfl rfl rfl ?_
  exact r_ret cd_153_16 True.intro (rfl)
theorem x_154 (C : CR h w ps kp T bu ek eo rl rp) (hI : Inv0 w) (b : Nat)  (g0 : isBa w ((b : Nat) : Int) = true) : Ct 3 154 [aR 0, aI ((b : Nat) : Int)] h (.inl (some (aI (bo w b 0))), h) := by
  obtain ⟨h0, hR, hK, hT, hH, hS, hB⟩ := id C
  obtain ⟨c, ⟨o0, o1, o2, o3, o4, o5, o6, o7, o8, o9, o10, o11, o12, o13, o14, o15, o16, o17⟩, a0, a1, a2, a3, a4, a5, a6, a7, a8, a9, a10, a11, a12, a13, a14⟩ := id hR
  have hbn := hI.bNe
  have hpn := hI.pNe
  have x0 := hI.len
  have x1 := hI.hour
  have x2 := hI.gas
  have x3 := hI.leak
  have x4 := hI.gn
  have x5 := hI.bn
  have x6 := hI.pn
  have e0 := isBa_iff.mp g0
  refine Ct.of [aR 0, aI ((b : Nat) : Int)] rfl ?_
  refine r_aldR cd_154_0 rfl rfl ?_
  refine r_ild cd_154_1 rfl rfl ?_
  refine r_dV (k1 := 0) (k2 := 0) (kc' := 0) (ks' := 0) (x_140 C hI ((b : Nat) : Int) ⟨by omega, by omega⟩ g0) cd_154_2 rfl rfl rfl (rc0 h0 rfl) rfl rfl rfl rfl (Nat.le_of_ble_eq_true rfl) (Nat.le_of_ble_eq_true rfl) rfl ?_
  refine r_aldR cd_154_5 rfl rfl ?_
  refine r_get cd_154_6 rfl h0 rfl ?_
  refine r_get cd_154_9 rfl o0 rfl ?_
  refine r_get cd_154_12 rfl o5 rfl ?_
  refine r_ild cd_154_15 rfl rfl ?_
  refine r_arr (i := b) cd_154_16 rfl o6 rfl (by omega) rfl ?_
  rw [a3 (b) (by omega)]
  exact r_ret cd_154_17 True.intro (rfl)
theorem x_155 (C : CR h w ps kp T bu ek eo rl rp) (hI : Inv0 w) (b : Nat)  (g0 : isBa w ((b : Nat) : Int) = true) : Ct 3 155 [aR 0, aI ((b : Nat) : Int)] h (.inl (some (aI (bo w b 1))), h) := by
  obtain ⟨h0, hR, hK, hT, hH, hS, hB⟩ := id C
  obtain ⟨c, ⟨o0, o1, o2, o3, o4, o5, o6, o7, o8, o9, o10, o11, o12, o13, o14, o15, o16, o17⟩, a0, a1, a2, a3, a4, a5, a6, a7, a8, a9, a10, a11, a12, a13, a14⟩ := id hR
  have hbn := hI.bNe
  have hpn := hI.pNe
  have x0 := hI.len
  have x1 := hI.hour
  have x2 := hI.gas
  have x3 := hI.leak
  have x4 := hI.gn
  have x5 := hI.bn
  have x6 := hI.pn
  have e0 := isBa_iff.mp g0
  refine Ct.of [aR 0, aI ((b : Nat) : Int)] rfl ?_
  refine r_aldR cd_155_0 rfl rfl ?_
  refine r_ild cd_155_1 rfl rfl ?_
  refine r_dV (k1 := 0) (k2 := 0) (kc' := 0) (ks' := 0) (x_140 C hI ((b : Nat) : Int) ⟨by omega, by omega⟩ g0) cd_155_2 rfl rfl rfl (rc0 h0 rfl) rfl rfl rfl rfl (Nat.le_of_ble_eq_true rfl) (Nat.le_of_ble_eq_true rfl) rfl ?_
  refine r_aldR cd_155_5 rfl rfl ?_
  refine r_get cd_155_6 rfl h0 rfl ?_
  refine r_get cd_155_9 rfl o0 rfl ?_
  refine r_get cd_155_12 rfl o5 rfl ?_
  refine r_ild cd_155_15 rfl rfl ?_
  refine r_arr (i := b) cd_155_16 rfl o7 rfl (by omega) rfl ?_
  rw [a4 (b) (by omega)]
  exact r_ret cd_155_17 True.intro (rfl)
theorem x_156 (C : CR h w ps kp T bu ek eo rl rp) (hI : Inv0 w) (b : Nat)  (g0 : isBa w ((b : Nat) : Int) = true) : Ct 3 156 [aR 0, aI ((b : Nat) : Int)] h (.inl (some (aI (bo w b 2))), h) := by
  obtain ⟨h0, hR, hK, hT, hH, hS, hB⟩ := id C
  obtain ⟨c, ⟨o0, o1, o2, o3, o4, o5, o6, o7, o8, o9, o10, o11, o12, o13, o14, o15, o16, o17⟩, a0, a1, a2, a3, a4, a5, a6, a7, a8, a9, a10, a11, a12, a13, a14⟩ := id hR
  have hbn := hI.bNe
  have hpn := hI.pNe
  have x0 := hI.len
  have x1 := hI.hour
  have x2 := hI.gas
  have x3 := hI.leak
  have x4 := hI.gn
  have x5 := hI.bn
  have x6 := hI.pn
  have e0 := isBa_iff.mp g0
  refine Ct.of [aR 0, aI ((b : Nat) : Int)] rfl ?_
  refine r_aldR cd_156_0 rfl rfl ?_
  refine r_ild cd_156_1 rfl rfl ?_
  refine r_dV (k1 := 0) (k2 := 0) (kc' := 0) (ks' := 0) (x_140 C hI ((b : Nat) : Int) ⟨by omega, by omega⟩ g0) cd_156_2 rfl rfl rfl (rc0 h0 rfl) rfl rfl rfl rfl (Nat.le_of_ble_eq_true rfl) (Nat.le_of_ble_eq_true rfl) rfl ?_
  refine r_aldR cd_156_5 rfl rfl ?_
  refine r_get cd_156_6 rfl h0 rfl ?_
  refine r_get cd_156_9 rfl o0 rfl ?_
  refine r_get cd_156_12 rfl o5 rfl ?_
  refine r_ild cd_156_15 rfl rfl ?_
  refine r_arr (i := b) cd_156_16 rfl o8 rfl (by omega) rfl ?_
  rw [a5 (b) (by omega)]
  exact r_ret cd_156_17 True.intro (rfl)
theorem x_157 (C : CR h w ps kp T bu ek eo rl rp) (hI : Inv0 w) (b : Nat)  (g0 : isBa w ((b : Nat) : Int) = true) : Ct 3 157 [aR 0, aI ((b : Nat) : Int)] h (.inl (some (aI (loadOf w b))), h) := by
  obtain ⟨h0, hR, hK, hT, hH, hS, hB⟩ := id C
  obtain ⟨c, ⟨o0, o1, o2, o3, o4, o5, o6, o7, o8, o9, o10, o11, o12, o13, o14, o15, o16, o17⟩, a0, a1, a2, a3, a4, a5, a6, a7, a8, a9, a10, a11, a12, a13, a14⟩ := id hR
  have hbn := hI.bNe
  have hpn := hI.pNe
  have x0 := hI.len
  have x1 := hI.hour
  have x2 := hI.gas
  have x3 := hI.leak
  have x4 := hI.gn
  have x5 := hI.bn
  have x6 := hI.pn
  have e0 := isBa_iff.mp g0
  refine Ct.of [aR 0, aI ((b : Nat) : Int)] rfl ?_
  refine r_aldR cd_157_0 rfl rfl ?_
  refine r_ild cd_157_1 rfl rfl ?_
  refine r_dV (k1 := 0) (k2 := 0) (kc' := 0) (ks' := 0) (x_140 C hI ((b : Nat) : Int) ⟨by omega, by omega⟩ g0) cd_157_2 rfl rfl rfl (rc0 h0 rfl) rfl rfl rfl rfl (Nat.le_of_ble_eq_true rfl) (Nat.le_of_ble_eq_true rfl) rfl ?_
  refine r_aldR cd_157_5 rfl rfl ?_
  refine r_get cd_157_6 rfl h0 rfl ?_
  refine r_get cd_157_9 rfl o0 rfl ?_
  refine r_ild cd_157_12 rfl rfl ?_
  refine r_cI (k_21 hR hI b (by omega)) cd_157_13 rfl rfl rfl (rc0 o10 rfl) rfl rfl rfl ?_
  exact r_ret cd_157_16 True.intro (rfl)
theorem x_158 (C : CR h w ps kp T bu ek eo rl rp) (hI : Inv0 w) (b : Nat)  (g0 : isBa w ((b : Nat) : Int) = true) : Ct 3 158 [aR 0, aI ((b : Nat) : Int)] h (.inl (some (aI (hOf w b))), h) := by
  obtain ⟨h0, hR, hK, hT, hH, hS, hB⟩ := id C
  obtain ⟨c, ⟨o0, o1, o2, o3, o4, o5, o6, o7, o8, o9, o10, o11, o12, o13, o14, o15, o16, o17⟩, a0, a1, a2, a3, a4, a5, a6, a7, a8, a9, a10, a11, a12, a13, a14⟩ := id hR
  have hbn := hI.bNe
  have hpn := hI.pNe
  have x0 := hI.len
  have x1 := hI.hour
  have x2 := hI.gas
  have x3 := hI.leak
  have x4 := hI.gn
  have x5 := hI.bn
  have x6 := hI.pn
  have e0 := isBa_iff.mp g0
  refine Ct.of [aR 0, aI ((b : Nat) : Int)] rfl ?_
  refine r_aldR cd_158_0 rfl rfl ?_
  refine r_ild cd_158_1 rfl rfl ?_
  refine r_dV (k1 := 0) (k2 := 0) (kc' := 0) (ks' := 0) (x_140 C hI ((b : Nat) : Int) ⟨by omega, by omega⟩ g0) cd_158_2 rfl rfl rfl (rc0 h0 rfl) rfl rfl rfl rfl (Nat.le_of_ble_eq_true rfl) (Nat.le_of_ble_eq_true rfl) rfl ?_
  refine r_aldR cd_158_5 rfl rfl ?_
  refine r_get cd_158_6 rfl h0 rfl ?_
  refine r_ild cd_158_9 rfl rfl ?_
  refine r_cI (k_81 hR hI b (by omega)) cd_158_10 rfl rfl rfl (rc0 o0 rfl) rfl rfl rfl ?_
  exact r_ret cd_158_13 True.intro (rfl)
theorem x_159 (C : CR h w ps kp T bu ek eo rl rp) (hI : Inv0 w) (b : Nat)  (g0 : isBa w ((b : Nat) : Int) = true) : Ct 3 159 [aR 0, aI ((b : Nat) : Int)] h (.inl (some (aI (bo w b 3))), h) := by
  obtain ⟨h0, hR, hK, hT, hH, hS, hB⟩ := id C
  obtain ⟨c, ⟨o0, o1, o2, o3, o4, o5, o6, o7, o8, o9, o10, o11, o12, o13, o14, o15, o16, o17⟩, a0, a1, a2, a3, a4, a5, a6, a7, a8, a9, a10, a11, a12, a13, a14⟩ := id hR
  have hbn := hI.bNe
  have hpn := hI.pNe
  have x0 := hI.len
  have x1 := hI.hour
  have x2 := hI.gas
  have x3 := hI.leak
  have x4 := hI.gn
  have x5 := hI.bn
  have x6 := hI.pn
  have e0 := isBa_iff.mp g0
  refine Ct.of [aR 0, aI ((b : Nat) : Int)] rfl ?_
  refine r_aldR cd_159_0 rfl rfl ?_
  refine r_ild cd_159_1 rfl rfl ?_
  refine r_dV (k1 := 0) (k2 := 0) (kc' := 0) (ks' := 0) (x_140 C hI ((b : Nat) : Int) ⟨by omega, by omega⟩ g0) cd_159_2 rfl rfl rfl (rc0 h0 rfl) rfl rfl rfl rfl (Nat.le_of_ble_eq_true rfl) (Nat.le_of_ble_eq_true rfl) rfl ?_
  refine r_aldR cd_159_5 rfl rfl ?_
  refine r_get cd_159_6 rfl h0 rfl ?_
  refine r_get cd_159_9 rfl o0 rfl ?_
  refine r_get cd_159_12 rfl o5 rfl ?_
  refine r_ild cd_159_15 rfl rfl ?_
  refine r_arr (i := b) cd_159_16 rfl o9 rfl (by omega) rfl ?_
  rw [a6 (b) (by omega)]
  exact r_ret cd_159_17 True.intro (rfl)
theorem x_160 (C : CR h w ps kp T bu ek eo rl rp) (hI : Inv0 w) (b : Nat)  (g0 : isBa w ((b : Nat) : Int) = true) : Ct 3 160 [aR 0, aI ((b : Nat) : Int)] h (.inl (some (aI (setF (fun p => tied w p b) (nP w)))), h) := by
  obtain ⟨h0, hR, hK, hT, hH, hS, hB⟩ := id C
  obtain ⟨c, ⟨o0, o1, o2, o3, o4, o5, o6, o7, o8, o9, o10, o11, o12, o13, o14, o15, o16, o17⟩, a0, a1, a2, a3, a4, a5, a6, a7, a8, a9, a10, a11, a12, a13, a14⟩ := id hR
  have hbn := hI.bNe
  have hpn := hI.pNe
  have x0 := hI.len
  have x1 := hI.hour
  have x2 := hI.gas
  have x3 := hI.leak
  have x4 := hI.gn
  have x5 := hI.bn
  have x6 := hI.pn
  have e0 := isBa_iff.mp g0
  refine Ct.of [aR 0, aI ((b : Nat) : Int)] rfl ?_
  refine r_aldR cd_160_0 rfl rfl ?_
  refine r_ild cd_160_1 rfl rfl ?_
  refine r_dV (k1 := 0) (k2 := 0) (kc' := 0) (ks' := 0) (x_140 C hI ((b : Nat) : Int) ⟨by omega, by omega⟩ g0) cd_160_2 rfl rfl rfl (rc0 h0 rfl) rfl rfl rfl rfl (Nat.le_of_ble_eq_true rfl) (Nat.le_of_ble_eq_true rfl) rfl ?_
  refine r_aldR cd_160_5 rfl rfl ?_
  refine r_get cd_160_6 rfl h0 rfl ?_
  refine r_get cd_160_9 rfl o0 rfl ?_
  refine r_ild cd_160_12 rfl rfl ?_
  refine r_cI (k_20 hR hI b (by omega)) cd_160_13 rfl rfl rfl (rc0 o10 rfl) rfl rfl rfl ?_
  exact r_ret cd_160_16 True.intro (rfl)
theorem x_161 (C : CR h w ps kp T bu ek eo rl rp) (hI : Inv0 w) (p : Nat)  (g0 : isPa w ((p : Nat) : Int) = true) : Ct 3 161 [aR 0, aI ((p : Nat) : Int)] h (.inl (some (aI (pa w p 0))), h) := by
  obtain ⟨h0, hR, hK, hT, hH, hS, hB⟩ := id C
  obtain ⟨c, ⟨o0, o1, o2, o3, o4, o5, o6, o7, o8, o9, o10, o11, o12, o13, o14, o15, o16, o17⟩, a0, a1, a2, a3, a4, a5, a6, a7, a8, a9, a10, a11, a12, a13, a14⟩ := id hR
  have hbn := hI.bNe
  have hpn := hI.pNe
  have x0 := hI.len
  have x1 := hI.hour
  have x2 := hI.gas
  have x3 := hI.leak
  have x4 := hI.gn
  have x5 := hI.bn
  have x6 := hI.pn
  have e0 := isPa_iff.mp g0
  refine Ct.of [aR 0, aI ((p : Nat) : Int)] rfl ?_
  refine r_aldR cd_161_0 rfl rfl ?_
  refine r_ild cd_161_1 rfl rfl ?_
  refine r_dV (k1 := 0) (k2 := 0) (kc' := 0) (ks' := 0) (x_139 C hI ((p : Nat) : Int) ⟨by omega, by omega⟩ g0) cd_161_2 rfl rfl rfl (rc0 h0 rfl) rfl rfl rfl rfl (Nat.le_of_ble_eq_true rfl) (Nat.le_of_ble_eq_true rfl) rfl ?_
  refine r_aldR cd_161_5 rfl rfl ?_
  refine r_get cd_161_6 rfl h0 rfl ?_
  refine r_get cd_161_9 rfl o0 rfl ?_
  refine r_get cd_161_12 rfl o10 rfl ?_
  refine r_ild cd_161_15 rfl rfl ?_
  refine r_arr (i := p) cd_161_16 rfl o11 rfl (by omega) rfl ?_
  rw [a7 (p) (by omega)]
  exact r_ret cd_161_17 True.intro (rfl)
theorem x_163 (C : CR h w ps kp T bu ek eo rl rp) (hI : Inv0 w) (p : Nat)  (g0 : isPa w ((p : Nat) : Int) = true) : Ct 3 163 [aR 0, aI ((p : Nat) : Int)] h (.inl (some (aI (pa w p 4))), h) := by
  obtain ⟨h0, hR, hK, hT, hH, hS, hB⟩ := id C
  obtain ⟨c, ⟨o0, o1, o2, o3, o4, o5, o6, o7, o8, o9, o10, o11, o12, o13, o14, o15, o16, o17⟩, a0, a1, a2, a3, a4, a5, a6, a7, a8, a9, a10, a11, a12, a13, a14⟩ := id hR
  have hbn := hI.bNe
  have hpn := hI.pNe
  have x0 := hI.len
  have x1 := hI.hour
  have x2 := hI.gas
  have x3 := hI.leak
  have x4 := hI.gn
  have x5 := hI.bn
  have x6 := hI.pn
  have e0 := isPa_iff.mp g0
  refine Ct.of [aR 0, aI ((p : Nat) : Int)] rfl ?_
  refine r_aldR cd_163_0 rfl rfl ?_
  refine r_ild cd_163_1 rfl rfl ?_
  refine r_dV (k1 := 0) (k2 := 0) (kc' := 0) (ks' := 0) (x_139 C hI ((p : Nat) : Int) ⟨by omega, by omega⟩ g0) cd_163_2 rfl rfl rfl (rc0 h0 rfl) rfl rfl rfl rfl (Nat.le_of_ble_eq_true rfl) (Nat.le_of_ble_eq_true rfl) rfl ?_
  refine r_aldR cd_163_5 rfl rfl ?_
  refine r_get cd_163_6 rfl h0 rfl ?_
  refine r_get cd_163_9 rfl o0 rfl ?_
  refine r_get cd_163_12 rfl o10 rfl ?_
  refine r_ild cd_163_15 rfl rfl ?_
  refine r_arr (i := p) cd_163_16 rfl o15 rfl (by omega) rfl ?_
  rw [a11 (p) (by omega)]
  exact r_ret cd_163_17 True.intro (rfl)
theorem x_164 (C : CR h w ps kp T bu ek eo rl rp) (hI : Inv0 w) (p : Nat)  (g0 : isPa w ((p : Nat) : Int) = true) : Ct 3 164 [aR 0, aI ((p : Nat) : Int)] h (.inl (some (aI (carr w p))), h) := by
  obtain ⟨h0, hR, hK, hT, hH, hS, hB⟩ := id C
  obtain ⟨c, ⟨o0, o1, o2, o3, o4, o5, o6, o7, o8, o9, o10, o11, o12, o13, o14, o15, o16, o17⟩, a0, a1, a2, a3, a4, a5, a6, a7, a8, a9, a10, a11, a12, a13, a14⟩ := id hR
  have hbn := hI.bNe
  have hpn := hI.pNe
  have x0 := hI.len
  have x1 := hI.hour
  have x2 := hI.gas
  have x3 := hI.leak
  have x4 := hI.gn
  have x5 := hI.bn
  have x6 := hI.pn
  have e0 := isPa_iff.mp g0
  refine Ct.of [aR 0, aI ((p : Nat) : Int)] rfl ?_
  refine r_aldR cd_164_0 rfl rfl ?_
  refine r_ild cd_164_1 rfl rfl ?_
  refine r_dV (k1 := 0) (k2 := 0) (kc' := 0) (ks' := 0) (x_139 C hI ((p : Nat) : Int) ⟨by omega, by omega⟩ g0) cd_164_2 rfl rfl rfl (rc0 h0 rfl) rfl rfl rfl rfl (Nat.le_of_ble_eq_true rfl) (Nat.le_of_ble_eq_true rfl) rfl ?_
  refine r_aldR cd_164_5 rfl rfl ?_
  refine r_get cd_164_6 rfl h0 rfl ?_
  refine r_get cd_164_9 rfl o0 rfl ?_
  refine r_get cd_164_12 rfl o10 rfl ?_
  refine r_ild cd_164_15 rfl rfl ?_
  refine r_arr (i := p) cd_164_16 rfl o16 rfl (by omega) rfl ?_
  rw [a12 (p) (by omega)]
  exact r_ret cd_164_17 True.intro (rfl)
theorem x_165 (C : CR h w ps kp T bu ek eo rl rp) (hI : Inv0 w) (p : Nat)  (g0 : isPa w ((p : Nat) : Int) = true) : Ct 3 165 [aR 0, aI ((p : Nat) : Int)] h (.inl (some (aI (plOf w p))), h) := by
  obtain ⟨h0, hR, hK, hT, hH, hS, hB⟩ := id C
  obtain ⟨c, ⟨o0, o1, o2, o3, o4, o5, o6, o7, o8, o9, o10, o11, o12, o13, o14, o15, o16, o17⟩, a0, a1, a2, a3, a4, a5, a6, a7, a8, a9, a10, a11, a12, a13, a14⟩ := id hR
  have hbn := hI.bNe
  have hpn := hI.pNe
  have x0 := hI.len
  have x1 := hI.hour
  have x2 := hI.gas
  have x3 := hI.leak
  have x4 := hI.gn
  have x5 := hI.bn
  have x6 := hI.pn
  have e0 := isPa_iff.mp g0
  refine Ct.of [aR 0, aI ((p : Nat) : Int)] rfl ?_
  refine r_aldR cd_165_0 rfl rfl ?_
  refine r_ild cd_165_1 rfl rfl ?_
  refine r_dV (k1 := 0) (k2 := 0) (kc' := 0) (ks' := 0) (x_139 C hI ((p : Nat) : Int) ⟨by omega, by omega⟩ g0) cd_165_2 rfl rfl rfl (rc0 h0 rfl) rfl rfl rfl rfl (Nat.le_of_ble_eq_true rfl) (Nat.le_of_ble_eq_true rfl) rfl ?_
  refine r_aldR cd_165_5 rfl rfl ?_
  refine r_get cd_165_6 rfl h0 rfl ?_
  refine r_ild cd_165_9 rfl rfl ?_
  refine r_cI (k_88 hR hI p (by omega)) cd_165_10 rfl rfl rfl (rc0 o0 rfl) rfl rfl rfl ?_
  exact r_ret cd_165_13 True.intro (rfl)
theorem x_168 (C : CR h w ps kp T bu ek eo rl rp) (hI : Inv0 w) (b : Nat)  (g0 : isBa w ((b : Nat) : Int) = true) : Ct 4 168 [aR 0, aI ((b : Nat) : Int)] h (.inl (some (aI (whyL w b))), h) := by
  obtain ⟨h0, hR, hK, hT, hH, hS, hB⟩ := id C
  obtain ⟨c, ⟨o0, o1, o2, o3, o4, o5, o6, o7, o8, o9, o10, o11, o12, o13, o14, o15, o16, o17⟩, a0, a1, a2, a3, a4, a5, a6, a7, a8, a9, a10, a11, a12, a13, a14⟩ := id hR
  have hbn := hI.bNe
  have hpn := hI.pNe
  have x0 := hI.len
  have x1 := hI.hour
  have x2 := hI.gas
  have x3 := hI.leak
  have x4 := hI.gn
  have x5 := hI.bn
  have x6 := hI.pn
  have e0 := isBa_iff.mp g0
  refine Ct.of [aR 0, aI ((b : Nat) : Int)] rfl ?_
  refine r_aldR cd_168_0 rfl rfl ?_
  refine r_ild cd_168_1 rfl rfl ?_
  refine r_dV (k1 := 0) (k2 := 0) (kc' := 0) (ks' := 0) (x_140 C hI ((b : Nat) : Int) ⟨by omega, by omega⟩ g0) cd_168_2 rfl rfl rfl (rc0 h0 rfl) rfl rfl rfl rfl (Nat.le_of_ble_eq_true rfl) (Nat.le_of_ble_eq_true rfl) rfl ?_
  refine r_aldR cd_168_5 rfl rfl ?_
  refine r_get cd_168_6 rfl h0 rfl ?_
  refine r_ild cd_168_9 rfl rfl ?_
  refine r_cI (k_80 hR hI b (by omega)) cd_168_10 rfl rfl rfl (rc0 o0 rfl) rfl rfl rfl ?_
  exact r_ret cd_168_13 True.intro (rfl)
theorem x_167 (C : CR h w ps kp T bu ek eo rl rp) (hI : Inv0 w) (hL : ∀ b, b < nB w → knots w b ≤ 4) (p : Nat) (b : Nat)  (g0 : isPa w ((p : Nat) : Int) = true) (g1 : isBa w ((b : Nat) : Int) = true) : Ct 4 167 [aR 0, aI ((p : Nat) : Int), aI ((b : Nat) : Int)] h (.inl (some (aI (whyT w p b))), h) := by
  obtain ⟨h0, hR, hK, hT, hH, hS, hB⟩ := id C
  obtain ⟨c, ⟨o0, o1, o2, o3, o4, o5, o6, o7, o8, o9, o10, o11, o12, o13, o14, o15, o16, o17⟩, a0, a1, a2, a3, a4, a5, a6, a7, a8, a9, a10, a11, a12, a13, a14⟩ := id hR
  have hbn := hI.bNe
  have hpn := hI.pNe
  have x0 := hI.len
  have x1 := hI.hour
  have x2 := hI.gas
  have x3 := hI.leak
  have x4 := hI.gn
  have x5 := hI.bn
  have x6 := hI.pn
  have e0 := isPa_iff.mp g0
  have e1 := isBa_iff.mp g1
  have g5 := hL b (by omega)
  refine Ct.of [aR 0, aI ((p : Nat) : Int), aI ((b : Nat) : Int)] rfl ?_
  refine r_aldR cd_167_0 rfl rfl ?_
  refine r_ild cd_167_1 rfl rfl ?_
  refine r_dV (k1 := 0) (k2 := 0) (kc' := 0) (ks' := 0) (x_139 C hI ((p : Nat) : Int) ⟨by omega, by omega⟩ g0) cd_167_2 rfl rfl rfl (rc0 h0 rfl) rfl rfl rfl rfl (Nat.le_of_ble_eq_true rfl) (Nat.le_of_ble_eq_true rfl) rfl ?_
  refine r_aldR cd_167_5 rfl rfl ?_
  refine r_ild cd_167_6 rfl rfl ?_
  refine r_dV (k1 := 0) (k2 := 0) (kc' := 0) (ks' := 0) (x_140 C hI ((b : Nat) : Int) ⟨by omega, by omega⟩ g1) cd_167_7 rfl rfl rfl (rc0 h0 rfl) rfl rfl rfl rfl (Nat.le_of_ble_eq_true rfl) (Nat.le_of_ble_eq_true rfl) rfl ?_
  refine r_aldR cd_167_10 rfl rfl ?_
  refine r_get cd_167_11 rfl h0 rfl ?_
  refine r_ild cd_167_14 rfl rfl ?_
  refine r_ild cd_167_15 rfl rfl ?_
  refine r_cI (k_77 hR hI p b (by omega) (by omega) (by omega)) cd_167_16 rfl rfl rfl (rc0 o0 rfl) rfl rfl rfl ?_
  exact r_ret cd_167_19 True.intro (rfl)
theorem x_170 (C : CR h w ps kp T bu ek eo rl rp) (hI : Inv0 w) (hL : ∀ b, b < nB w → knots w b ≤ 4) (p : Nat)  (g0 : isPa w ((p : Nat) : Int) = true) : Ct 5 170 [aR 0, aI ((p : Nat) : Int)] h (.inl (some (aI (bstB w p))), h) := by
  obtain ⟨h0, hR, hK, hT, hH, hS, hB⟩ := id C
  obtain ⟨c, ⟨o0, o1, o2, o3, o4, o5, o6, o7, o8, o9, o10, o11, o12, o13, o14, o15, o16, o17⟩, a0, a1, a2, a3, a4, a5, a6, a7, a8, a9, a10, a11, a12, a13, a14⟩ := id hR
  have hbn := hI.bNe
  have hpn := hI.pNe
  have x0 := hI.len
  have x1 := hI.hour
  have x2 := hI.gas
  have x3 := hI.leak
  have x4 := hI.gn
  have x5 := hI.bn
  have x6 := hI.pn
  have e0 := isPa_iff.mp g0
  refine Ct.of [aR 0, aI ((p : Nat) : Int)] rfl ?_
  refine r_aldR cd_170_0 rfl rfl ?_
  refine r_ild cd_170_1 rfl rfl ?_
  refine r_dV (k1 := 0) (k2 := 0) (kc' := 0) (ks' := 0) (x_139 C hI ((p : Nat) : Int) ⟨by omega, by omega⟩ g0) cd_170_2 rfl rfl rfl (rc0 h0 rfl) rfl rfl rfl rfl (Nat.le_of_ble_eq_true rfl) (Nat.le_of_ble_eq_true rfl) rfl ?_
  refine r_aldR cd_170_5 rfl rfl ?_
  refine r_get cd_170_6 rfl h0 rfl ?_
  refine r_ild cd_170_9 rfl rfl ?_
  refine r_cI (k_104 hR hI hL p (by omega)) cd_170_10 rfl rfl rfl (rc0 o0 rfl) rfl rfl rfl ?_
  exact r_ret cd_170_13 True.intro (rfl)
end FACE2
