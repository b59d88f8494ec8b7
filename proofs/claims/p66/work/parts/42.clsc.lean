/-! THE CLASS: bits, readers of the World (written by wip/whole/gen42.py) -/
theorem k_377 {h : aH} (n : Nat) (hn : n < 65536) : Ct 1 377 [aI ((n : Nat) : Int)] h (.inl (some (aI ((bcN n : Nat) : Int))), h) := by
  have l1 : n >>> 1 ≤ n := Nat.shiftRight_le _ _
  have l2 : n >>> 1 &&& 1431655765 ≤ n >>> 1 := Nat.and_le_left
  obtain ⟨v1, hv1⟩ : ∃ v, v = n - (n >>> 1 &&& 1431655765) := ⟨_, rfl⟩
  have l3 : v1 >>> 2 ≤ v1 := Nat.shiftRight_le _ _
  have m1 : v1 &&& 858993459 ≤ 858993459 := Nat.and_le_right
  have m2 : v1 >>> 2 &&& 858993459 ≤ 858993459 := Nat.and_le_right
  obtain ⟨v2, hv2⟩ : ∃ v, v = (v1 &&& 858993459) + (v1 >>> 2 &&& 858993459) := ⟨_, rfl⟩
  have l4 : v2 >>> 4 = v2 / 16 := Nat.shiftRight_eq_div_pow _ _
  obtain ⟨u3, hu3⟩ : ∃ v, v = v2 + v2 >>> 4 := ⟨_, rfl⟩
  obtain ⟨v3, hv3⟩ : ∃ v, v = u3 &&& 252645135 := ⟨_, rfl⟩
  have m3 : v3 ≤ 252645135 := by rw [hv3]; exact Nat.and_le_right
  have l5 : v3 >>> 8 ≤ v3 := Nat.shiftRight_le _ _
  obtain ⟨v4, hv4⟩ : ∃ v, v = v3 + v3 >>> 8 := ⟨_, rfl⟩
  have l6 : v4 >>> 16 ≤ v4 := Nat.shiftRight_le _ _
  obtain ⟨v5, hv5⟩ : ∃ v, v = v4 + v4 >>> 16 := ⟨_, rfl⟩
  refine Ct.of [aI ((n : Nat) : Int)] rfl ?_
  refine r_ild cd_377_0 rfl rfl ?_
  refine r_ild cd_377_1 rfl rfl ?_
  refine r_con (v := 1) cd_377_2 rfl (by decide) ?_
  refine r_ushr cd_377_3 rfl ?_
  rw [show ushrI ((n : Nat) : Int) 1 = ((n >>> 1 : Nat) : Int) from ushr_nat (k := 1) (by omega) (by decide)]
  refine r_con (v := 1431655765) cd_377_4 rfl (by decide) ?_
  refine r_and cd_377_7 rfl ?_
  rw [show andI ((n >>> 1 : Nat) : Int) 1431655765 = ((n >>> 1 &&& 1431655765 : Nat) : Int) from and_nat (b := 1431655765) (by omega) (by decide)]
  refine r_sub (v := ((v1 : Nat) : Int)) cd_377_8 rfl (by omega) ?_
  refine r_ist cd_377_9 rfl rfl (L' := [aI ((v1 : Nat) : Int)]) rfl ?_
  refine r_ild cd_377_10 rfl rfl ?_
  refine r_con (v := 858993459) cd_377_11 rfl (by decide) ?_
  refine r_and cd_377_14 rfl ?_
  rw [show andI ((v1 : Nat) : Int) 858993459 = ((v1 &&& 858993459 : Nat) : Int) from and_nat (b := 858993459) (by omega) (by decide)]
  refine r_ild cd_377_15 rfl rfl ?_
  refine r_con (v := 2) cd_377_16 rfl (by decide) ?_
  refine r_ushr cd_377_17 rfl ?_
  rw [show ushrI ((v1 : Nat) : Int) 2 = ((v1 >>> 2 : Nat) : Int) from ushr_nat (k := 2) (by omega) (by decide)]
  refine r_con (v := 858993459) cd_377_18 rfl (by decide) ?_
  refine r_and cd_377_21 rfl ?_
  rw [show andI ((v1 >>> 2 : Nat) : Int) 858993459 = ((v1 >>> 2 &&& 858993459 : Nat) : Int) from and_nat (b := 858993459) (by omega) (by decide)]
  refine r_add (v := ((v2 : Nat) : Int)) cd_377_22 rfl (by rw [hv2]; rfl) ?_
  refine r_ist cd_377_23 rfl rfl (L' := [aI ((v2 : Nat) : Int)]) rfl ?_
  refine r_ild cd_377_24 rfl rfl ?_
  refine r_ild cd_377_25 rfl rfl ?_
  refine r_con (v := 4) cd_377_26 rfl (by decide) ?_
  refine r_ushr cd_377_27 rfl ?_
  rw [show ushrI ((v2 : Nat) : Int) 4 = ((v2 >>> 4 : Nat) : Int) from ushr_nat (k := 4) (by omega) (by decide)]
  refine r_add (v := ((u3 : Nat) : Int)) cd_377_28 rfl (by rw [hu3]; rfl) ?_
  refine r_con (v := 252645135) cd_377_29 rfl (by decide) ?_
  refine r_and cd_377_32 rfl ?_
  rw [show andI ((u3 : Nat) : Int) 252645135 = ((u3 &&& 252645135 : Nat) : Int) from and_nat (b := 252645135) (by omega) (by decide)]
  rw [← hv3]
  refine r_ist cd_377_33 rfl rfl (L' := [aI ((v3 : Nat) : Int)]) rfl ?_
  refine r_ild cd_377_34 rfl rfl ?_
  refine r_ild cd_377_35 rfl rfl ?_
  refine r_con (v := 8) cd_377_36 rfl (by decide) ?_
  refine r_ushr cd_377_38 rfl ?_
  rw [show ushrI ((v3 : Nat) : Int) 8 = ((v3 >>> 8 : Nat) : Int) from ushr_nat (k := 8) (by omega) (by decide)]
  refine r_add (v := ((v4 : Nat) : Int)) cd_377_39 rfl (by rw [hv4]; rfl) ?_
  refine r_ist cd_377_40 rfl rfl (L' := [aI ((v4 : Nat) : Int)]) rfl ?_
  refine r_ild cd_377_41 rfl rfl ?_
  refine r_ild cd_377_42 rfl rfl ?_
  refine r_con (v := 16) cd_377_43 rfl (by decide) ?_
  refine r_ushr cd_377_45 rfl ?_
  rw [show ushrI ((v4 : Nat) : Int) 16 = ((v4 >>> 16 : Nat) : Int) from ushr_nat (k := 16) (by omega) (by decide)]
  refine r_add (v := ((v5 : Nat) : Int)) cd_377_46 rfl (by rw [hv5]; rfl) ?_
  refine r_ist cd_377_47 rfl rfl (L' := [aI ((v5 : Nat) : Int)]) rfl ?_
  refine r_ild cd_377_48 rfl rfl ?_
  refine r_con (v := 63) cd_377_49 rfl (by decide) ?_
  refine r_and cd_377_51 rfl ?_
  rw [show andI ((v5 : Nat) : Int) 63 = ((v5 &&& 63 : Nat) : Int) from and_nat (b := 63) (by omega) (by decide)]
  exact r_ret cd_377_52 True.intro (rI (by rw [hv5, hv4, hv3, hu3, hv2, hv1]; rfl))
theorem k_19 {h : aH} {B : Nat} {w : Nat → Int} (hR : Rp h B w) (hI : Inv0 w) (b : Nat) (g0 : b < 8) : Ct 2 19 [aR (B + 10), aI ((b : Nat) : Int)] h (.inl (some (aI (knots w b))), h) := by
  obtain ⟨c, ⟨o0, o1, o2, o3, o4, o5, o6, o7, o8, o9, o10, o11, o12, o13, o14, o15, o16, o17⟩, a0, a1, a2, a3, a4, a5, a6, a7, a8, a9, a10, a11, a12, a13, a14⟩ := id hR
  have hbn := hI.bNe
  have hpn := hI.pNe
  have x0 := hI.len
  have x1 := hI.hour
  have x2 := hI.gas
  have x3 := hI.leak
  have x4 := hI.gn
  have x5 := hI.bn
  have x6 := hI.pn
  have h16 : 2 ^ nP w ≤ 65536 := Nat.pow_le_pow_right (n := 2) (by decide) hpn.2
  have hvl : valN (fun p => tied w p b) (nP w) < 65536 := Nat.lt_of_lt_of_le val_lt h16
  refine Ct.of [aR (B + 10), aI ((b : Nat) : Int)] rfl ?_
  refine r_aldR cd_19_0 rfl rfl ?_
  refine r_ild cd_19_1 rfl rfl ?_
  refine r_cI (k_20 hR hI b (by omega)) cd_19_2 rfl rfl rfl (rc0 o10 rfl) rfl rfl rfl ?_
  rw [set_val hpn.2]
  refine r_cI (k_377 (valN (fun p => tied w p b) (nP w)) hvl) cd_19_5 rfl rfl rfl True.intro rfl rfl rfl ?_
  exact r_ret cd_19_8 True.intro (rI (bc_knots hpn.2).symm)
theorem k_78 {h : aH} {B : Nat} {w : Nat → Int} (hR : Rp h B w) (hI : Inv0 w) (b : Nat) (g0 : b < nB w) : Ct 2 78 [aR B, aI ((b : Nat) : Int)] h (.inl (some (aI (spare w b))), h) := by
  obtain ⟨c, ⟨o0, o1, o2, o3, o4, o5, o6, o7, o8, o9, o10, o11, o12, o13, o14, o15, o16, o17⟩, a0, a1, a2, a3, a4, a5, a6, a7, a8, a9, a10, a11, a12, a13, a14⟩ := id hR
  have hbn := hI.bNe
  have hpn := hI.pNe
  have x0 := hI.len
  have x1 := hI.hour
  have x2 := hI.gas
  have x3 := hI.leak
  have x4 := hI.gn
  have x5 := hI.bn
  have x6 := hI.pn
  refine Ct.of [aR B, aI ((b : Nat) : Int)] rfl ?_
  refine r_aldR cd_78_0 rfl rfl ?_
  refine r_get cd_78_1 rfl o0 rfl ?_
  refine r_get cd_78_4 rfl o5 rfl ?_
  refine r_ild cd_78_7 rfl rfl ?_
  refine r_arr (i := b) cd_78_8 rfl o7 rfl (by omega) rfl ?_
  rw [a4 (b) (by omega)]
  refine r_aldR cd_78_9 rfl rfl ?_
  refine r_get cd_78_10 rfl o0 rfl ?_
  refine r_ild cd_78_13 rfl rfl ?_
  refine r_cI (k_21 hR hI b (by omega)) cd_78_14 rfl rfl rfl (rc0 o10 rfl) rfl rfl rfl ?_
  refine r_sub (v := (bo w b 1) - (loadOf w b)) cd_78_17 rfl (by rfl) ?_
  exact r_ret cd_78_18 True.intro (rfl)
theorem k_81 {h : aH} {B : Nat} {w : Nat → Int} (hR : Rp h B w) (hI : Inv0 w) (b : Nat) (g0 : b < nB w) : Ct 2 81 [aR B, aI ((b : Nat) : Int)] h (.inl (some (aI (hOf w b))), h) := by
  obtain ⟨c, ⟨o0, o1, o2, o3, o4, o5, o6, o7, o8, o9, o10, o11, o12, o13, o14, o15, o16, o17⟩, a0, a1, a2, a3, a4, a5, a6, a7, a8, a9, a10, a11, a12, a13, a14⟩ := id hR
  have hbn := hI.bNe
  have hpn := hI.pNe
  have x0 := hI.len
  have x1 := hI.hour
  have x2 := hI.gas
  have x3 := hI.leak
  have x4 := hI.gn
  have x5 := hI.bn
  have x6 := hI.pn
  have hb0 := hI.bs b (by omega)
  have hsp := hI.spr (b := b) (by omega)
  refine Ct.of [aR B, aI ((b : Nat) : Int)] rfl ?_
  refine r_aldR cd_81_0 rfl rfl ?_
  refine r_get cd_81_1 rfl o0 rfl ?_
  refine r_get cd_81_4 rfl o5 rfl ?_
  refine r_ild cd_81_7 rfl rfl ?_
  refine r_arr (i := b) cd_81_8 rfl o8 rfl (by omega) rfl ?_
  rw [a5 (b) (by omega)]
  refine r_aldR cd_81_9 rfl rfl ?_
  refine r_get cd_81_10 rfl o0 rfl ?_
  refine r_get cd_81_13 rfl o5 rfl ?_
  refine r_ild cd_81_16 rfl rfl ?_
  refine r_arr (i := b) cd_81_17 rfl o7 rfl (by omega) rfl ?_
  rw [a4 (b) (by omega)]
  refine r_aldR cd_81_18 rfl rfl ?_
  refine r_get cd_81_19 rfl o0 rfl ?_
  refine r_ild cd_81_22 rfl rfl ?_
  refine r_cI (k_21 hR hI b (by omega)) cd_81_23 rfl rfl rfl (rc0 o10 rfl) rfl rfl rfl ?_
  refine r_sub (v := spare w b) cd_81_26 rfl (by rfl) ?_
  refine r_cI (k_373 (bo w b 2) (hI.boR (b := b) (k := 2) (by omega) (by decide)) (spare w b) ⟨by omega, by omega⟩) cd_81_27 rfl rfl rfl True.intro rfl rfl rfl ?_
  exact r_ret cd_81_30 True.intro (rfl)
theorem k_82 {h : aH} {B : Nat} {w : Nat → Int} (hR : Rp h B w) (hI : Inv0 w) (x : Nat) (z : Int) (hz : inR z) (g0 : (x : Int) < w 0) : Ct 2 82 [aR B, aI ((x : Nat) : Int), aI z] h (.inl (some (aI (bz (!decide (w (53 + x) < z))))), h) := by
  obtain ⟨c, ⟨o0, o1, o2, o3, o4, o5, o6, o7, o8, o9, o10, o11, o12, o13, o14, o15, o16, o17⟩, a0, a1, a2, a3, a4, a5, a6, a7, a8, a9, a10, a11, a12, a13, a14⟩ := id hR
  have hbn := hI.bNe
  have hpn := hI.pNe
  have x0 := hI.len
  have x1 := hI.hour
  have x2 := hI.gas
  have x3 := hI.leak
  have x4 := hI.gn
  have x5 := hI.bn
  have x6 := hI.pn
  refine Ct.of [aR B, aI ((x : Nat) : Int), aI z] rfl ?_
  refine r_aldR cd_82_0 rfl rfl ?_
  refine r_get cd_82_1 rfl o0 rfl ?_
  refine r_ild cd_82_4 rfl rfl ?_
  refine r_cI (k_51 hR hI ((x : Nat) : Int) ⟨by omega, by omega⟩) cd_82_5 rfl rfl rfl (rc0 o1 rfl) rfl rfl rfl ?_
  refine r_if51b cd_82_8 rfl (fun n1 => ?_) (fun n1 => ?_)
  · exact Bool.noConfusion (n1.symm.trans (isPl_iff.mpr ⟨by omega, by omega⟩))
  · refine r_aldR cd_82_11 rfl rfl ?_
    refine r_get cd_82_12 rfl o0 rfl ?_
    refine r_get cd_82_15 rfl o1 rfl ?_
    refine r_ild cd_82_18 rfl rfl ?_
    refine r_arr (i := x) cd_82_19 rfl o3 rfl (by omega) rfl ?_
    rw [a1 (x) (by omega)]
    refine r_ild cd_82_20 rfl rfl ?_
    refine r_ic63 cd_82_21 rfl (inR_of (hI.trees (x) (by omega)) (by decide) (by decide)) hz (fun n2 => ?_) (fun n2 => ?_)
    · refine r_con (v := 0) cd_82_28 rfl (by decide) ?_
      exact r_ret cd_82_29 (Or.inl rfl) (rB (by first | rfl | (simp [bz, n1, n2]; done) | (simp [bz, n1, n2]; omega) | (exact bz_f (by simp only [Bool.and_eq_true, Bool.or_eq_true, Bool.not_eq_true', decide_eq_true_eq, decide_eq_false_iff_not]; omega))))
    · refine r_con (v := 1) cd_82_24 rfl (by decide) ?_
      refine r_goto cd_82_25 ?_
      exact r_ret cd_82_29 (Or.inr rfl) (rB (by first | rfl | (simp [bz, n1, n2]; done) | (simp [bz, n1, n2]; omega) | (exact bz_t (by simp only [Bool.and_eq_true, Bool.or_eq_true, Bool.not_eq_true', decide_eq_true_eq, decide_eq_false_iff_not]; omega))))
theorem pl_of {w : Nat → Int} (hI : Inv0 w) {p : Nat} (hp : p < nP w) : (isBa w (carr w p) = true ↔ pa w p 4 = 1) ∧ (isBa w (carr w p) = true → carr w p = pa w p 5) := by
  have h := (hI.ps p hp).2.2.2.2
  have hc : pa w p 4 = 1 → carr w p = pa w p 5 := fun e => by unfold carr; rw [if_pos e]
  have hd : ¬ pa w p 4 = 1 → carr w p = -1 := fun e => by unfold carr; rw [if_neg e]
  rw [isBa_iff]
  by_cases e : pa w p 4 = 1
  · have := hc e
    exact ⟨⟨fun _ => e, fun _ => by omega⟩, fun _ => this⟩
  · have := hd e
    exact ⟨⟨fun g => by omega, fun g => absurd g e⟩, fun g => by omega⟩
theorem k_88 {h : aH} {B : Nat} {w : Nat → Int} (hR : Rp h B w) (hI : Inv0 w) (p : Nat) (g0 : p < nP w) : Ct 2 88 [aR B, aI ((p : Nat) : Int)] h (.inl (some (aI (plOf w p))), h) := by
  obtain ⟨c, ⟨o0, o1, o2, o3, o4, o5, o6, o7, o8, o9, o10, o11, o12, o13, o14, o15, o16, o17⟩, a0, a1, a2, a3, a4, a5, a6, a7, a8, a9, a10, a11, a12, a13, a14⟩ := id hR
  have hbn := hI.bNe
  have hpn := hI.pNe
  have x0 := hI.len
  have x1 := hI.hour
  have x2 := hI.gas
  have x3 := hI.leak
  have x4 := hI.gn
  have x5 := hI.bn
  have x6 := hI.pn
  have hp0 := hI.ps p (by omega)
  have hpl := pl_of hI g0
  refine Ct.of [aR B, aI ((p : Nat) : Int), aU] rfl ?_
  refine r_aldR cd_88_0 rfl rfl ?_
  refine r_get cd_88_1 rfl o0 rfl ?_
  refine r_get cd_88_4 rfl o10 rfl ?_
  refine r_ild cd_88_7 rfl rfl ?_
  refine r_arr (i := p) cd_88_8 rfl o16 rfl (by omega) rfl ?_
  rw [a12 (p) (by omega)]
  refine r_ist cd_88_9 rfl rfl (L' := [aR B, aI ((p : Nat) : Int), aI (carr w p)]) rfl ?_
  refine r_aldR cd_88_10 rfl rfl ?_
  refine r_get cd_88_11 rfl o0 rfl ?_
  refine r_ild cd_88_14 rfl rfl ?_
  refine r_cI (k_3 hR hI (carr w p) (hI.caR (p := p) (by omega))) cd_88_15 rfl rfl rfl (rc0 o5 rfl) rfl rfl rfl ?_
  refine r_if51b cd_88_18 rfl (fun n1 => ?_) (fun n1 => ?_)
  · have e4 : ¬ pa w p 4 = 1 := fun e => Bool.noConfusion (n1.symm.trans (hpl.1.mpr e))
    refine r_aldR cd_88_33 rfl rfl ?_
    refine r_get cd_88_34 rfl o0 rfl ?_
    refine r_get cd_88_37 rfl o10 rfl ?_
    refine r_ild cd_88_40 rfl rfl ?_
    refine r_arr (i := p) cd_88_41 rfl o17 rfl (by omega) rfl ?_
    rw [a13 (p) (by omega)]
    exact r_ret cd_88_42 True.intro (rI (by unfold plOf plc; by_cases e0 : pa w p 4 = 0 <;> simp [e0, e4]))
  · have e4 := hpl.1.mp n1
    have e5 := hpl.2 n1
    obtain ⟨q, hq⟩ : ∃ q : Nat, pa w p 5 = ((q : Nat) : Int) := ⟨(pa w p 5).toNat, by omega⟩
    have hqb : q < nB w := by omega
    rw [e5, hq]
    refine r_aldR cd_88_21 rfl rfl ?_
    refine r_get cd_88_22 rfl o0 rfl ?_
    refine r_get cd_88_25 rfl o5 rfl ?_
    refine r_ild cd_88_28 rfl rfl ?_
    refine r_arr (i := q) cd_88_29 rfl o6 rfl (by omega) rfl ?_
    rw [a3 (q) (by omega)]
    refine r_goto cd_88_30 ?_
    exact r_ret cd_88_42 True.intro (rI (by unfold plOf; rw [if_neg (by omega), if_pos e4, hq, Int.toNat_natCast]))
theorem k_79 {h : aH} {B : Nat} {w : Nat → Int} (hR : Rp h B w) (hI : Inv0 w) (p : Nat) (g0 : p < nP w) : Ct 2 79 [aR B, aI ((p : Nat) : Int)] h (.inl (some (aI (bz (canU w p)))), h) := by
  obtain ⟨c, ⟨o0, o1, o2, o3, o4, o5, o6, o7, o8, o9, o10, o11, o12, o13, o14, o15, o16, o17⟩, a0, a1, a2, a3, a4, a5, a6, a7, a8, a9, a10, a11, a12, a13, a14⟩ := id hR
  have hbn := hI.bNe
  have hpn := hI.pNe
  have x0 := hI.len
  have x1 := hI.hour
  have x2 := hI.gas
  have x3 := hI.leak
  have x4 := hI.gn
  have x5 := hI.bn
  have x6 := hI.pn
  have hp0 := hI.ps p (by omega)
  have hpl := pl_of hI g0
  refine Ct.of [aR B, aI ((p : Nat) : Int), aU] rfl ?_
  refine r_aldR cd_79_0 rfl rfl ?_
  refine r_get cd_79_1 rfl o0 rfl ?_
  refine r_get cd_79_4 rfl o10 rfl ?_
  refine r_ild cd_79_7 rfl rfl ?_
  refine r_arr (i := p) cd_79_8 rfl o16 rfl (by omega) rfl ?_
  rw [a12 (p) (by omega)]
  refine r_ist cd_79_9 rfl rfl (L' := [aR B, aI ((p : Nat) : Int), aI (carr w p)]) rfl ?_
  refine r_aldR cd_79_10 rfl rfl ?_
  refine r_get cd_79_11 rfl o0 rfl ?_
  refine r_ild cd_79_14 rfl rfl ?_
  refine r_cI (k_3 hR hI (carr w p) (hI.caR (p := p) (by omega))) cd_79_15 rfl rfl rfl (rc0 o5 rfl) rfl rfl rfl ?_
  refine r_if51b cd_79_18 rfl (fun n1 => ?_) (fun n1 => ?_)
  · have e4 : ¬ pa w p 4 = 1 := fun e => Bool.noConfusion (n1.symm.trans (hpl.1.mpr e))
    refine r_con (v := 0) cd_79_36 rfl (by decide) ?_
    exact r_ret cd_79_37 (Or.inl rfl) (rB (by unfold canU; simp [e4, bz]))
  · have e4 := hpl.1.mp n1
    have e5 := hpl.2 n1
    obtain ⟨q, hq⟩ : ∃ q : Nat, pa w p 5 = ((q : Nat) : Int) := ⟨(pa w p 5).toNat, by omega⟩
    have hqb : q < nB w := by omega
    rw [e5, hq]
    refine r_aldR cd_79_21 rfl rfl ?_
    refine r_get cd_79_22 rfl o0 rfl ?_
    refine r_ild cd_79_25 rfl rfl ?_
    refine r_cI (k_2 hR hI q (by omega)) cd_79_26 rfl rfl rfl (rc0 o5 rfl) rfl rfl rfl ?_
    refine r_if51b cd_79_29 rfl (fun n2 => ?_) (fun n2 => ?_)
    · refine r_con (v := 0) cd_79_36 rfl (by decide) ?_
      exact r_ret cd_79_37 (Or.inl rfl) (rB (by unfold canU; simp [hq, e4, bz, n2]))
    · refine r_con (v := 1) cd_79_32 rfl (by decide) ?_
      refine r_goto cd_79_33 ?_
      exact r_ret cd_79_37 (Or.inr rfl) (rB (by unfold canU; simp [hq, e4, bz, n2]))
theorem k_83 {h : aH} {B : Nat} {w : Nat → Int} (hR : Rp h B w) (hI : Inv0 w) (b : Nat) (g : Nat) (g0 : b < nB w) (g1 : g ≤ 29) : Ct 2 83 [aR B, aI ((b : Nat) : Int), aI ((g : Nat) : Int)] h (.inl (some (aI (bz (canF w b ((g : Nat) : Int))))), h) := by
  obtain ⟨c, ⟨o0, o1, o2, o3, o4, o5, o6, o7, o8, o9, o10, o11, o12, o13, o14, o15, o16, o17⟩, a0, a1, a2, a3, a4, a5, a6, a7, a8, a9, a10, a11, a12, a13, a14⟩ := id hR
  have hbn := hI.bNe
  have hpn := hI.pNe
  have x0 := hI.len
  have x1 := hI.hour
  have x2 := hI.gas
  have x3 := hI.leak
  have x4 := hI.gn
  have x5 := hI.bn
  have x6 := hI.pn
  have hb0 := hI.bs b (by omega)
  refine Ct.of [aR B, aI ((b : Nat) : Int), aI ((g : Nat) : Int)] rfl ?_
  refine r_aldR cd_83_0 rfl rfl ?_
  refine r_get cd_83_1 rfl o0 rfl ?_
  refine r_ild cd_83_4 rfl rfl ?_
  refine r_cI (k_2 hR hI b (by omega)) cd_83_5 rfl rfl rfl (rc0 o5 rfl) rfl rfl rfl ?_
  refine r_if51b cd_83_8 rfl (fun n1 => ?_) (fun n1 => ?_)
  · simp only [decide_eq_true_eq, decide_eq_false_iff_not, Bool.not_eq_true', Bool.not_eq_false'] at n1
    refine r_con (v := 0) cd_83_39 rfl (by decide) ?_
    exact r_ret cd_83_40 (Or.inl rfl) (rB (by first | rfl | (simp [canF, bz, n1]; done) | (simp [canF, bz, n1]; omega) | (exact bz_f (by simp only [canF, Bool.and_eq_true, Bool.or_eq_true, Bool.not_eq_true', decide_eq_true_eq, decide_eq_false_iff_not]; omega))))
  · simp only [decide_eq_true_eq, decide_eq_false_iff_not, Bool.not_eq_true', Bool.not_eq_false'] at n1
    refine r_ild cd_83_11 rfl rfl ?_
    refine r_aldR cd_83_12 rfl rfl ?_
    refine r_get cd_83_13 rfl o0 rfl ?_
    refine r_ic65 cd_83_16 rfl ⟨by omega, by omega⟩ (inR_of hI.gas (by decide) (by decide)) (fun n2 => ?_) (fun n2 => ?_)
    · refine r_con (v := 0) cd_83_39 rfl (by decide) ?_
      exact r_ret cd_83_40 (Or.inl rfl) (rB (by first | rfl | (simp [canF, bz, n1, n2]; done) | (simp [canF, bz, n1, n2]; omega) | (exact bz_f (by simp only [canF, Bool.and_eq_true, Bool.or_eq_true, Bool.not_eq_true', decide_eq_true_eq, decide_eq_false_iff_not]; omega))))
    · refine r_aldR cd_83_19 rfl rfl ?_
      refine r_get cd_83_20 rfl o0 rfl ?_
      refine r_get cd_83_23 rfl o5 rfl ?_
      refine r_ild cd_83_26 rfl rfl ?_
      refine r_arr (i := b) cd_83_27 rfl o7 rfl (by omega) rfl ?_
      rw [a4 (b) (by omega)]
      refine r_ild cd_83_28 rfl rfl ?_
      refine r_add (v := (bo w b 1) + ((g : Nat) : Int)) cd_83_29 rfl (by rfl) ?_
      refine r_con (v := 30) cd_83_30 rfl (by decide) ?_
      refine r_ic65 cd_83_32 rfl ⟨by omega, by omega⟩ ⟨by omega, by omega⟩ (fun n3 => ?_) (fun n3 => ?_)
      · refine r_con (v := 0) cd_83_39 rfl (by decide) ?_
        exact r_ret cd_83_40 (Or.inl rfl) (rB (by first | rfl | (simp [canF, bz, n1, n2, n3]; done) | (simp [canF, bz, n1, n2, n3]; omega) | (exact bz_f (by simp only [canF, Bool.and_eq_true, Bool.or_eq_true, Bool.not_eq_true', decide_eq_true_eq, decide_eq_false_iff_not]; omega))))
      · refine r_con (v := 1) cd_83_35 rfl (by decide) ?_
        refine r_goto cd_83_36 ?_
        exact r_ret cd_83_40 (Or.inr rfl) (rB (by first | rfl | (simp [canF, bz, n1, n2, n3]; done) | (simp [canF, bz, n1, n2, n3]; omega) | (exact bz_t (by simp only [canF, Bool.and_eq_true, Bool.or_eq_true, Bool.not_eq_true', decide_eq_true_eq, decide_eq_false_iff_not]; omega))))
theorem k_77 {h : aH} {B : Nat} {w : Nat → Int} (hR : Rp h B w) (hI : Inv0 w) (p : Nat) (b : Nat) (g0 : p < nP w) (g1 : b < nB w) (g2 : knots w b ≤ 4) : Ct 3 77 [aR B, aI ((p : Nat) : Int), aI ((b : Nat) : Int)] h (.inl (some (aI (whyT w p b))), h) := by
  obtain ⟨c, ⟨o0, o1, o2, o3, o4, o5, o6, o7, o8, o9, o10, o11, o12, o13, o14, o15, o16, o17⟩, a0, a1, a2, a3, a4, a5, a6, a7, a8, a9, a10, a11, a12, a13, a14⟩ := id hR
  have hbn := hI.bNe
  have hpn := hI.pNe
  have x0 := hI.len
  have x1 := hI.hour
  have x2 := hI.gas
  have x3 := hI.leak
  have x4 := hI.gn
  have x5 := hI.bn
  have x6 := hI.pn
  have hb0 := hI.bs b (by omega)
  have hp0 := hI.ps p (by omega)
  have hkn := hI.knot b
  have hsp := hI.spr (b := b) (by omega)
  refine Ct.of [aR B, aI ((p : Nat) : Int), aI ((b : Nat) : Int)] rfl ?_
  refine r_aldR cd_77_0 rfl rfl ?_
  refine r_get cd_77_1 rfl o0 rfl ?_
  refine r_get cd_77_4 rfl o10 rfl ?_
  refine r_ild cd_77_7 rfl rfl ?_
  refine r_arr (i := p) cd_77_8 rfl o15 rfl (by omega) rfl ?_
  rw [a11 (p) (by omega)]
  refine r_if51 cd_77_9 rfl (hI.paR (p := p) (k := 4) (by omega) (by decide)) (fun n1 => ?_) (fun n1 => ?_)
  · refine r_aldR cd_77_14 rfl rfl ?_
    refine r_get cd_77_15 rfl o0 rfl ?_
    refine r_ild cd_77_18 rfl rfl ?_
    refine r_cI (k_2 hR hI b (by omega)) cd_77_19 rfl rfl rfl (rc0 o5 rfl) rfl rfl rfl ?_
    refine r_if52b cd_77_22 rfl (fun n2 => ?_) (fun n2 => ?_)
    · simp only [decide_eq_true_eq, decide_eq_false_iff_not, Bool.not_eq_true', Bool.not_eq_false'] at n2
      refine r_con (v := 2) cd_77_25 rfl (by decide) ?_
      exact r_ret cd_77_26 True.intro (rI (by unfold whyT; rw [if_neg (by omega)]; rw [if_pos (by omega)]))
    · simp only [decide_eq_true_eq, decide_eq_false_iff_not, Bool.not_eq_true', Bool.not_eq_false'] at n2
      refine r_aldR cd_77_27 rfl rfl ?_
      refine r_get cd_77_28 rfl o0 rfl ?_
      refine r_get cd_77_31 rfl o10 rfl ?_
      refine r_ild cd_77_34 rfl rfl ?_
      refine r_arr (i := p) cd_77_35 rfl o17 rfl (by omega) rfl ?_
      rw [a13 p (by omega), show plc w p = pa w p 5 from if_pos n1]
      refine r_aldR cd_77_36 rfl rfl ?_
      refine r_get cd_77_37 rfl o0 rfl ?_
      refine r_get cd_77_40 rfl o5 rfl ?_
      refine r_ild cd_77_43 rfl rfl ?_
      refine r_arr (i := b) cd_77_44 rfl o6 rfl (by omega) rfl ?_
      rw [a3 (b) (by omega)]
      refine r_ic61 cd_77_45 rfl (hI.paR (p := p) (k := 5) (by omega) (by decide)) (hI.boR (b := b) (k := 0) (by omega) (by decide)) (fun n3 => ?_) (fun n3 => ?_)
      · refine r_aldR cd_77_50 rfl rfl ?_
        refine r_get cd_77_51 rfl o0 rfl ?_
        refine r_ild cd_77_54 rfl rfl ?_
        refine r_cI (k_19 hR hI b (by omega)) cd_77_55 rfl rfl rfl (rc0 o10 rfl) rfl rfl rfl ?_
        refine r_con (v := 4) cd_77_58 rfl (by decide) ?_
        refine r_ic63 cd_77_59 rfl (inR_of (hI.knot _) (by decide) (by decide)) ⟨by omega, by omega⟩ (fun n4 => ?_) (fun n4 => ?_)
        · refine r_aldR cd_77_64 rfl rfl ?_
          refine r_get cd_77_65 rfl o0 rfl ?_
          refine r_get cd_77_68 rfl o10 rfl ?_
          refine r_ild cd_77_71 rfl rfl ?_
          refine r_arr (i := p) cd_77_72 rfl o11 rfl (by omega) rfl ?_
          rw [a7 (p) (by omega)]
          refine r_aldR cd_77_73 rfl rfl ?_
          refine r_ild cd_77_74 rfl rfl ?_
          refine r_cI (k_78 hR hI b (by omega)) cd_77_75 rfl rfl rfl (rc0 o0 rfl) rfl rfl rfl ?_
          refine r_ic63 cd_77_78 rfl (hI.paR (p := p) (k := 0) (by omega) (by decide)) (inR_of (hI.spr (b := b) (by omega)) (by decide) (by decide)) (fun n5 => ?_) (fun n5 => ?_)
          · refine r_con (v := 0) cd_77_85 rfl (by decide) ?_
            exact r_ret cd_77_86 True.intro (rI (by unfold whyT; rw [if_neg (by omega)]; rw [if_neg (by omega)]; rw [if_neg (by omega)]; rw [if_neg (by omega)]; rw [if_pos (by omega)]))
          · refine r_con (v := 5) cd_77_81 rfl (by decide) ?_
            refine r_goto cd_77_82 ?_
            exact r_ret cd_77_86 True.intro (rI (by unfold whyT; rw [if_neg (by omega)]; rw [if_neg (by omega)]; rw [if_neg (by omega)]; rw [if_neg (by omega)]; rw [if_neg (by omega)]))
        · refine r_con (v := 4) cd_77_62 rfl (by decide) ?_
          exact r_ret cd_77_63 True.intro (rI (by unfold whyT; rw [if_neg (by omega)]; rw [if_neg (by omega)]; rw [if_neg (by omega)]; rw [if_pos (by omega)]))
      · refine r_con (v := 3) cd_77_48 rfl (by decide) ?_
        exact r_ret cd_77_49 True.intro (rI (by unfold whyT; rw [if_neg (by omega)]; rw [if_neg (by omega)]; rw [if_pos (by omega)]))
  · refine r_con (v := 1) cd_77_12 rfl (by decide) ?_
    exact r_ret cd_77_13 True.intro (rI (by unfold whyT; rw [if_pos (by omega)]))
theorem k_80 {h : aH} {B : Nat} {w : Nat → Int} (hR : Rp h B w) (hI : Inv0 w) (b : Nat) (g0 : b < nB w) : Ct 3 80 [aR B, aI ((b : Nat) : Int)] h (.inl (some (aI (whyL w b))), h) := by
  obtain ⟨c, ⟨o0, o1, o2, o3, o4, o5, o6, o7, o8, o9, o10, o11, o12, o13, o14, o15, o16, o17⟩, a0, a1, a2, a3, a4, a5, a6, a7, a8, a9, a10, a11, a12, a13, a14⟩ := id hR
  have hbn := hI.bNe
  have hpn := hI.pNe
  have x0 := hI.len
  have x1 := hI.hour
  have x2 := hI.gas
  have x3 := hI.leak
  have x4 := hI.gn
  have x5 := hI.bn
  have x6 := hI.pn
  have hb0 := hI.bs b (by omega)
  obtain ⟨x, hx⟩ : ∃ x : Nat, bo w b 0 = ((x : Nat) : Int) := ⟨(bo w b 0).toNat, by omega⟩
  refine Ct.of [aR B, aI ((b : Nat) : Int)] rfl ?_
  refine r_aldR cd_80_0 rfl rfl ?_
  refine r_get cd_80_1 rfl o0 rfl ?_
  refine r_ild cd_80_4 rfl rfl ?_
  refine r_cI (k_2 hR hI b (by omega)) cd_80_5 rfl rfl rfl (rc0 o5 rfl) rfl rfl rfl ?_
  refine r_if52b cd_80_8 rfl (fun n1 => ?_) (fun n1 => ?_)
  · refine r_con (v := 2) cd_80_11 rfl (by decide) ?_
    exact r_ret cd_80_12 True.intro (rI (by first | rfl | (simp [whyL, hx, bz, n1]; done) | (simp [whyL, hx, bz, n1]; omega) | (unfold whyL; split <;> simp_all <;> omega)))
  · refine r_aldR cd_80_13 rfl rfl ?_
    refine r_aldR cd_80_14 rfl rfl ?_
    refine r_get cd_80_15 rfl o0 rfl ?_
    refine r_get cd_80_18 rfl o5 rfl ?_
    refine r_ild cd_80_21 rfl rfl ?_
    refine r_arr (i := b) cd_80_22 rfl o6 rfl (by omega) rfl ?_
    rw [a3 b (by omega), hx]
    refine r_aldR cd_80_23 rfl rfl ?_
    refine r_ild cd_80_24 rfl rfl ?_
    refine r_cI (k_81 hR hI b (by omega)) cd_80_25 rfl rfl rfl (rc0 o0 rfl) rfl rfl rfl ?_
    refine r_cI (k_82 hR hI x (hOf w b) (inR_of (hI.hgt (b := b) (by omega)) (by decide) (by decide)) (by omega)) cd_80_28 rfl rfl rfl (rc0 o0 rfl) rfl rfl rfl ?_
    refine r_if51b cd_80_31 rfl (fun n2 => ?_) (fun n2 => ?_)
    · refine r_con (v := 0) cd_80_39 rfl (by decide) ?_
      exact r_ret cd_80_40 True.intro (rI (by first | rfl | (simp [whyL, hx, bz, n1, n2]; done) | (simp [whyL, hx, bz, n1, n2]; omega) | (unfold whyL; split <;> simp_all <;> omega)))
    · refine r_con (v := 6) cd_80_34 rfl (by decide) ?_
      refine r_goto cd_80_36 ?_
      exact r_ret cd_80_40 True.intro (rI (by first | rfl | (simp [whyL, hx, bz, n1, n2]; done) | (simp [whyL, hx, bz, n1, n2]; omega) | (unfold whyL; split <;> simp_all <;> omega)))
