/-! THE CLASS: hours (written by wip/whole/gen51.py) -/
theorem cl_inv {w : Nat → Int} (hI : Inv0 w) {b : Nat} (hb : b < nB w) : Inv0 (clW w b) ∧ Sl w (clW w b) := by
  unfold clW
  split
  · exact leak_inv hI hb
  · exact ⟨hI, Sl.rf⟩
/-- an hour of one balloon alone -/
def ohW (b : Nat) (w : Nat → Int) : Nat → Int := tkW (clW (drG b w) b)
theorem oh_1 {b : Nat} {w : Nat → Int} : ohW b w 1 = clW (drG b w) b 1 + 1 := by unfold ohW tkW; exact vu_at _ _ _
theorem oh_ne {b j : Nat} {w : Nat → Int} (h : ¬ j = 1) : ohW b w j = clW (drG b w) b j := by unfold ohW tkW; exact vu_ne h
theorem v_105 {h : aH} {B : Nat} {w : Nat → Int} (hR : Rp h B w) (hI : Inv0 w) (b : Nat) (g0 : b < nB w) : ∃ h', Ct 4 105 [aR B, aI ((b : Nat) : Int)] h (.inl (none), h') ∧ Rp h' B (ohW b w) ∧ Fr B h h' := by
  obtain ⟨c, W, A⟩ := id hR
  obtain ⟨o0, o1, o2, o3, o4, o5, o6, o7, o8, o9, o10, o11, o12, o13, o14, o15, o16, o17⟩ := id W
  obtain ⟨a0, a1, a2, a3, a4, a5, a6, a7, a8, a9, a10, a11, a12, a13, a14⟩ := id A
  have hbn := hI.bNe
  have hpn := hI.pNe
  have x0 := hI.len
  have x1 := hI.hour
  have x2 := hI.gas
  have x3 := hI.leak
  have x4 := hI.gn
  have x5 := hI.bn
  have x6 := hI.pn
  obtain ⟨h1, d1, R1, F1⟩ := v_98 hR hI b g0
  obtain ⟨hI1, hS1⟩ := dr_inv hI g0
  have hb1 : b < nB (drG b w) := by rw [Sm.eB fun j hj => hS1 j (by omega)]; exact g0
  obtain ⟨h2, d2, R2, F2⟩ := v_99 R1 hI1 b hb1
  obtain ⟨hI2, hS2⟩ := cl_inv hI1 hb1
  obtain ⟨c1, W1, A1⟩ := id R1
  obtain ⟨p1_0, p1_1, p1_2, p1_3, p1_4, p1_5, p1_6, p1_7, p1_8, p1_9, p1_10, p1_11, p1_12, p1_13, p1_14, p1_15, p1_16, p1_17⟩ := id W1
  obtain ⟨q1_0, q1_1, q1_2, q1_3, q1_4, q1_5, q1_6, q1_7, q1_8, q1_9, q1_10, q1_11, q1_12, q1_13, q1_14⟩ := id A1
  obtain ⟨c2, W2, A2⟩ := id R2
  obtain ⟨p2_0, p2_1, p2_2, p2_3, p2_4, p2_5, p2_6, p2_7, p2_8, p2_9, p2_10, p2_11, p2_12, p2_13, p2_14, p2_15, p2_16, p2_17⟩ := id W2
  obtain ⟨q2_0, q2_1, q2_2, q2_3, q2_4, q2_5, q2_6, q2_7, q2_8, q2_9, q2_10, q2_11, q2_12, q2_13, q2_14⟩ := id A2
  refine ⟨_, Ct.of [aR B, aI ((b : Nat) : Int)] rfl ?_, ⟨_, W2.wrk (w' := ohW b w) oh_1 (oh_ne (by decide)) (oh_ne (by decide)) (oh_ne (by decide)) (oh_ne (by decide)) (fun j hj h9 h1 _ _ _ _ => oh_ne h1), by unfold ohW tkW; exact A2.sc2 (by omega)⟩, (F1.tr F2).sw (by omega) (by omega)⟩
  refine r_aldR cd_105_0 rfl rfl ?_
  refine r_ild cd_105_1 rfl rfl ?_
  refine r_cV d1 cd_105_2 rfl rfl rfl (rc0 o0 rfl) rfl rfl rfl ?_
  refine r_aldR cd_105_5 rfl rfl ?_
  refine r_ild cd_105_6 rfl rfl ?_
  refine r_cV d2 cd_105_7 rfl rfl rfl (rc0 p1_0 rfl) rfl rfl rfl ?_
  refine r_aldR cd_105_10 rfl rfl ?_
  refine r_dup cd_105_11 rfl rfl ?_
  refine r_get cd_105_12 rfl p2_0 rfl ?_
  refine r_con (v := 1) cd_105_15 rfl (by decide) ?_
  refine r_add (v := ((clW (drG b w) b) 1) + 1) cd_105_16 rfl (by rfl) ?_
  refine r_put (fs' := [aR (B + 1), aR (B + 5), aR (B + 10), aI (((clW (drG b w) b) 1) + 1), aI ((clW (drG b w) b) 2), aI ((clW (drG b w) b) 7), aI ((clW (drG b w) b) 8), aI (c2 14 0), aI (c2 14 1), aI ((clW (drG b w) b) 10)]) cd_105_17 rfl p2_0 rfl rfl ?_
  exact r_void cd_105_20 rfl (rfl)
