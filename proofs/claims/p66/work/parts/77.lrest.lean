section LREST
variable {h : aH} {t : Int} {g : Nat → Int64} {w : Nat → Int} {ps : List (Nat → Int)} {kp : Option (Nat → Int)} {T : Nat} {bu : Nat → Int} {ek eo : Int} {rl : Nat} {rp : Nat → Int} {s b0 as P kd tx nu : Nat → Int} {Kw yw Km ym : Nat} {ar : List aV}
theorem x_125 (C : CR h w ps kp T bu ek eo rl rp) (hI : Inv0 w) : Ct 4 125 [aR 0] h (.inl (some (aI (viol w))), h) := by
  obtain ⟨h0, hR, hK, hT, hH, hS, hB⟩ := id C
  obtain ⟨c, ⟨o0, o1, o2, o3, o4, o5, o6, o7, o8, o9, o10, o11, o12, o13, o14, o15, o16, o17⟩, a0, a1, a2, a3, a4, a5, a6, a7, a8, a9, a10, a11, a12, a13, a14⟩ := id hR
  have hbn := hI.bNe
  have hpn := hI.pNe
  have x0 := hI.len
  have x1 := hI.hour
  have x2 := hI.gas
  have x3 := hI.leak
  have x4 := hI.gn
  have x5 := hI.bn
  have x6 := hI.pn
  refine Ct.of [aR 0] rfl ?_
  refine r_aldR cd_125_0 rfl rfl ?_
  refine r_get cd_125_1 rfl h0 rfl ?_
  refine r_cI (k_101 hR hI ) cd_125_4 rfl rfl rfl (rc0 o0 rfl) rfl rfl rfl ?_
  refine r_aldR cd_125_7 rfl rfl ?_
  refine r_get cd_125_8 rfl h0 rfl ?_
  refine r_get cd_125_11 rfl o0 rfl ?_
  refine r_cI (k_31 hR hI ) cd_125_14 rfl rfl rfl (rc0 o10 rfl) rfl rfl rfl ?_
  refine r_add (v := (itF (ovrG w) 0 (nB w) 0) + (itF (dbsG w) 0 (nP w) 0)) cd_125_17 rfl (by rfl) ?_
  refine r_aldR cd_125_18 rfl rfl ?_
  refine r_get cd_125_19 rfl h0 rfl ?_
  refine r_cI (k_102 hR hI ) cd_125_22 rfl rfl rfl (rc0 o0 rfl) rfl rfl rfl ?_
  refine r_add (v := ((itF (ovrG w) 0 (nB w) 0) + (itF (dbsG w) 0 (nP w) 0)) + (absV (w 9 - lftS w - w 10))) cd_125_25 rfl (by rfl) ?_
  exact r_ret cd_125_26 True.intro (by rw [viol_e])
end LREST
