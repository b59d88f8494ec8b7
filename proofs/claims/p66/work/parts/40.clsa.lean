/-! THE CLASS: a World at base B; readers (written by wip/whole/gen40.py) -/
/-! the class's lay-out -/
def carr (w : Nat → Int) (p : Nat) : Int := if pa w p 4 = 1 then pa w p 5 else -1
def plc (w : Nat → Int) (p : Nat) : Int := if pa w p 4 = 0 then pa w p 5 else -1
/-- a World at base B: its cells -/
def Wo (h : aH) (B : Nat) (w : Nat → Int) (c : Nat → Nat → Int) : Prop :=
  h.2.2 B = .inr (6, [aR (B + 1), aR (B + 5), aR (B + 10), aI (w 1), aI (w 2), aI (w 7), aI (w 8), aI (c 14 0), aI (c 14 1), aI (w 10)]) ∧
  h.2.2 (B + 1) = .inr (4, [aR (B + 2), aR (B + 3), aR (B + 4), aI (w 0), aI (w 4), aI (w 3)]) ∧
  h.2.2 (B + 2) = .inl (0, 30, .inl (c 0)) ∧ h.2.2 (B + 3) = .inl (0, 30, .inl (c 1)) ∧ h.2.2 (B + 4) = .inl (0, 12, .inl (c 2)) ∧
  h.2.2 (B + 5) = .inr (0, [aR (B + 6), aR (B + 7), aR (B + 8), aR (B + 9), aI (w 5)]) ∧
  h.2.2 (B + 6) = .inl (0, 8, .inl (c 3)) ∧ h.2.2 (B + 7) = .inl (0, 8, .inl (c 4)) ∧ h.2.2 (B + 8) = .inl (0, 8, .inl (c 5)) ∧ h.2.2 (B + 9) = .inl (0, 8, .inl (c 6)) ∧
  h.2.2 (B + 10) = .inr (2, [aR (B + 11), aR (B + 12), aR (B + 13), aR (B + 14), aR (B + 15), aR (B + 16), aR (B + 17), aI (w 6)]) ∧
  h.2.2 (B + 11) = .inl (0, 16, .inl (c 7)) ∧ h.2.2 (B + 12) = .inl (0, 16, .inl (c 8)) ∧ h.2.2 (B + 13) = .inl (0, 16, .inl (c 9)) ∧ h.2.2 (B + 14) = .inl (0, 16, .inl (c 10)) ∧
  h.2.2 (B + 15) = .inl (0, 16, .inl (c 11)) ∧ h.2.2 (B + 16) = .inl (0, 16, .inl (c 12)) ∧ h.2.2 (B + 17) = .inl (0, 16, .inl (c 13))
/-- what its arrays say of w -/
def Ab (c : Nat → Nat → Int) (w : Nat → Int) : Prop :=
  (∀ i, i < 30 → c 0 i = w (23 + i)) ∧ (∀ i, i < 30 → c 1 i = w (53 + i)) ∧ (∀ i : Nat, (i : Int) < w 4 → c 2 i = w (11 + i)) ∧
  (∀ b, b < nB w → c 3 b = bo w b 0) ∧ (∀ b, b < nB w → c 4 b = bo w b 1) ∧ (∀ b, b < nB w → c 5 b = bo w b 2) ∧ (∀ b, b < nB w → c 6 b = bo w b 3) ∧
  (∀ p, p < nP w → c 7 p = pa w p 0) ∧ (∀ p, p < nP w → c 8 p = pa w p 1) ∧ (∀ p, p < nP w → c 9 p = pa w p 2) ∧ (∀ p, p < nP w → c 10 p = pa w p 3) ∧
  (∀ p, p < nP w → c 11 p = pa w p 4) ∧ (∀ p, p < nP w → c 12 p = carr w p) ∧ (∀ p, p < nP w → c 13 p = plc w p) ∧ c 14 0 + c 14 1 = w 9
def Rp (h : aH) (B : Nat) (w : Nat → Int) : Prop := ∃ c, Wo h B w c ∧ Ab c w
theorem Inv0.caR {w : Nat → Int} (hI : Inv0 w) {p : Nat} (hp : p < nP w) : inR (carr w p) := by
  unfold carr
  split
  · exact hI.paR hp (by decide)
  · exact ⟨by decide, by decide⟩
theorem Inv0.plR {w : Nat → Int} (hI : Inv0 w) {p : Nat} (hp : p < nP w) : inR (plc w p) := by
  unfold plc
  split
  · exact hI.paR hp (by decide)
  · exact ⟨by decide, by decide⟩
theorem carr_iff {w : Nat → Int} {p b : Nat} : carr w p = ((b : Nat) : Int) ↔ tied w p b = true := by
  rw [tied_iff]
  unfold carr
  split
  · rename_i h; simp [h]
  · rename_i h
    constructor
    · intro e; omega
    · intro e; exact absurd e.1 h
theorem carr_f {w : Nat → Int} {p b : Nat} (h : ¬ carr w p = ((b : Nat) : Int)) : tied w p b = false := by
  cases e : tied w p b
  · rfl
  · exact absurd (carr_iff.mpr e) h
theorem lies_t {w : Nat → Int} {p : Nat} {x : Int} (h1 : pa w p 4 = 0) (h2 : plc w p = x) : lies w p x = true := by
  unfold plc at h2
  rw [if_pos h1] at h2
  unfold lies
  simp [h1, h2]
theorem lies_f1 {w : Nat → Int} {p : Nat} {x : Int} (h1 : ¬ pa w p 4 = 0) : lies w p x = false := by
  unfold lies
  simp [h1]
theorem lies_f2 {w : Nat → Int} {p : Nat} {x : Int} (h1 : pa w p 4 = 0) (h2 : ¬ plc w p = x) : lies w p x = false := by
  unfold plc at h2
  rw [if_pos h1] at h2
  unfold lies
  simp [h2]
theorem k_373 {h : aH} (x : Int) (hx : inR x) (z : Int) (hz : inR z) : Ct 1 373 [aI x, aI z] h (.inl (some (aI (minI x z))), h) := by
  refine Ct.of [aI x, aI z] rfl ?_
  refine r_ild cd_373_0 rfl rfl ?_
  refine r_ild cd_373_1 rfl rfl ?_
  refine r_ic65 cd_373_2 rfl hx hz (fun n1 => ?_) (fun n1 => ?_)
  · refine r_ild cd_373_9 rfl rfl ?_
    exact r_ret cd_373_10 True.intro (rI (by unfold minI; first | rw [if_pos (by omega)] | rw [if_neg (by omega)]))
  · refine r_ild cd_373_5 rfl rfl ?_
    refine r_goto cd_373_6 ?_
    exact r_ret cd_373_10 True.intro (rI (by unfold minI; first | rw [if_pos (by omega)] | rw [if_neg (by omega)]))
theorem k_374 {h : aH} (x : Int) (hx : inR x) : Ct 1 374 [aI x] h (.inl (some (aI (absI x))), h) := by
  refine Ct.of [aI x] rfl ?_
  refine r_ild cd_374_0 rfl rfl ?_
  refine r_if54 cd_374_1 rfl hx (fun n1 => ?_) (fun n1 => ?_)
  · refine r_ild cd_374_4 rfl rfl ?_
    refine r_neg (v := -x) cd_374_5 rfl (by rfl) ?_
    refine r_goto cd_374_6 ?_
    exact r_ret cd_374_10 True.intro (rI (by unfold absI; first | rw [if_pos (by omega)] | rw [if_neg (by omega)]))
  · refine r_ild cd_374_9 rfl rfl ?_
    exact r_ret cd_374_10 True.intro (rI (by unfold absI; first | rw [if_pos (by omega)] | rw [if_neg (by omega)]))
theorem xor_nn {x z : Int} (h1 : 0 ≤ x) (h2 : x < 2147483648) (h3 : 0 ≤ z) (h4 : z < 2147483648) : 0 ≤ xorI x z ∧ xorI x z < 2147483648 := by
  have hm : ∀ v : Int, 0 ≤ v → v < 2147483648 → (i32 v).toBitVec.msb = false := fun v g1 g2 => by
    rw [BitVec.msb_eq_toInt]
    have e : (i32 v).toBitVec.toInt = v := i32_toInt (by omega) g2
    rw [e]
    simp
    omega
  have e : (xorI x z) = ((i32 x).toBitVec ^^^ (i32 z).toBitVec).toInt := rfl
  have h5 : ((i32 x).toBitVec ^^^ (i32 z).toBitVec).msb = false := by rw [BitVec.msb_xor, hm x h1 h2, hm z h3 h4]; rfl
  rw [BitVec.msb_eq_toInt] at h5
  have h6 : ¬ ((i32 x).toBitVec ^^^ (i32 z).toBitVec).toInt < 0 := by simpa using h5
  have h7 := BitVec.toInt_lt (x := ((i32 x).toBitVec ^^^ (i32 z).toBitVec))
  rw [e]
  omega
theorem k_375 {h : aH} (x : Int) (hx : inR x) (z : Int) (hz : inR z) (g0 : 0 ≤ x) (g1 : 0 < z) : Ct 1 375 [aI x, aI z] h (.inl (some (aI (x % z))), h) := by
  have hxz := xor_nn (x := x) (z := z) (by omega) hx.2 (by omega) hz.2
  have hm0 := Int.emod_nonneg x (b := z) (by omega)
  have hm1 := Int.emod_lt_of_pos x (b := z) (by omega)
  have hx1 := hx.1
  have hx2 := hx.2
  have hz2 := hz.2
  refine Ct.of [aI x, aI z, aU] rfl ?_
  refine r_ild cd_375_0 rfl rfl ?_
  refine r_ild cd_375_1 rfl rfl ?_
  refine r_rem cd_375_2 rfl (by omega) (by omega) (by omega) (by omega) ?_
  refine r_ist cd_375_3 rfl rfl (L' := [aI x, aI z, aI (x % z)]) rfl ?_
  refine r_ild cd_375_4 rfl rfl ?_
  refine r_ild cd_375_5 rfl rfl ?_
  refine r_xor cd_375_6 rfl ?_
  refine r_if54 cd_375_7 rfl ⟨by omega, by omega⟩ (fun n1 => ?_) (fun n1 => ?_)
  · exact absurd n1 (by omega)
  · refine r_ild cd_375_18 rfl rfl ?_
    exact r_ret cd_375_19 True.intro (rfl)
theorem k_51 {h : aH} {B : Nat} {w : Nat → Int} (hR : Rp h B w) (hI : Inv0 w) (x : Int) (hx : inR x) : Ct 1 51 [aR (B + 1), aI x] h (.inl (some (aI (bz (isPl w x)))), h) := by
  obtain ⟨c, ⟨o0, o1, o2, o3, o4, o5, o6, o7, o8, o9, o10, o11, o12, o13, o14, o15, o16, o17⟩, a0, a1, a2, a3, a4, a5, a6, a7, a8, a9, a10, a11, a12, a13, a14⟩ := id hR
  have hbn := hI.bNe
  have hpn := hI.pNe
  have x0 := hI.len
  have x1 := hI.hour
  have x2 := hI.gas
  have x3 := hI.leak
  have x4 := hI.gn
  have x5 := hI.bn
  have x6 := hI.pn
  refine Ct.of [aR (B + 1), aI x] rfl ?_
  refine r_ild cd_51_0 rfl rfl ?_
  refine r_if53 cd_51_1 rfl hx (fun n1 => ?_) (fun n1 => ?_)
  · refine r_con (v := 0) cd_51_22 rfl (by decide) ?_
    exact r_ret cd_51_23 (Or.inl rfl) (rB (by first | rfl | (simp [isPl, bz, n1]; done) | (simp [isPl, bz, n1]; omega) | (exact bz_f (by simp only [isPl, Bool.and_eq_true, Bool.or_eq_true, Bool.not_eq_true', decide_eq_true_eq, decide_eq_false_iff_not]; omega))))
  · refine r_ild cd_51_4 rfl rfl ?_
    refine r_aldR cd_51_5 rfl rfl ?_
    refine r_get cd_51_6 rfl o1 rfl ?_
    refine r_ic64 cd_51_9 rfl hx (inR_of hI.len (by decide) (by decide)) (fun n2 => ?_) (fun n2 => ?_)
    · refine r_ild cd_51_12 rfl rfl ?_
      refine r_con (v := 30) cd_51_13 rfl (by decide) ?_
      refine r_ic64 cd_51_15 rfl hx ⟨by omega, by omega⟩ (fun n3 => ?_) (fun n3 => ?_)
      · refine r_con (v := 1) cd_51_18 rfl (by decide) ?_
        refine r_goto cd_51_19 ?_
        exact r_ret cd_51_23 (Or.inr rfl) (rB (by first | rfl | (simp [isPl, bz, n1, n2, n3]; done) | (simp [isPl, bz, n1, n2, n3]; omega) | (exact bz_t (by simp only [isPl, Bool.and_eq_true, Bool.or_eq_true, Bool.not_eq_true', decide_eq_true_eq, decide_eq_false_iff_not]; omega))))
      · refine r_con (v := 0) cd_51_22 rfl (by decide) ?_
        exact r_ret cd_51_23 (Or.inl rfl) (rB (by first | rfl | (simp [isPl, bz, n1, n2, n3]; done) | (simp [isPl, bz, n1, n2, n3]; omega) | (exact bz_f (by simp only [isPl, Bool.and_eq_true, Bool.or_eq_true, Bool.not_eq_true', decide_eq_true_eq, decide_eq_false_iff_not]; omega))))
    · refine r_con (v := 0) cd_51_22 rfl (by decide) ?_
      exact r_ret cd_51_23 (Or.inl rfl) (rB (by first | rfl | (simp [isPl, bz, n1, n2]; done) | (simp [isPl, bz, n1, n2]; omega) | (exact bz_f (by simp only [isPl, Bool.and_eq_true, Bool.or_eq_true, Bool.not_eq_true', decide_eq_true_eq, decide_eq_false_iff_not]; omega))))
theorem k_56 {h : aH} {B : Nat} {w : Nat → Int} (hR : Rp h B w) (hI : Inv0 w) (x : Int) (hx : inR x) (g0 : 0 ≤ x) (g1 : x ≤ 100000) : Ct 2 56 [aR (B + 1), aI x] h (.inl (some (aI (gustI w x))), h) := by
  obtain ⟨c, ⟨o0, o1, o2, o3, o4, o5, o6, o7, o8, o9, o10, o11, o12, o13, o14, o15, o16, o17⟩, a0, a1, a2, a3, a4, a5, a6, a7, a8, a9, a10, a11, a12, a13, a14⟩ := id hR
  have hbn := hI.bNe
  have hpn := hI.pNe
  have x0 := hI.len
  have x1 := hI.hour
  have x2 := hI.gas
  have x3 := hI.leak
  have x4 := hI.gn
  have x5 := hI.bn
  have x6 := hI.pn
  have hgb := gustI_b hI g0
  refine Ct.of [aR (B + 1), aI x] rfl ?_
  refine r_aldR cd_56_0 rfl rfl ?_
  refine r_get cd_56_1 rfl o1 rfl ?_
  refine r_if55 cd_56_4 rfl (inR_of hI.gn (by decide) (by decide)) (fun n1 => ?_) (fun n1 => ?_)
  · refine r_aldR cd_56_11 rfl rfl ?_
    refine r_get cd_56_12 rfl o1 rfl ?_
    refine r_ild cd_56_15 rfl rfl ?_
    refine r_aldR cd_56_16 rfl rfl ?_
    refine r_get cd_56_17 rfl o1 rfl ?_
    refine r_cI (k_375 x hx (w 4) (inR_of hI.gn (by decide) (by decide)) (by omega) (by omega)) cd_56_20 rfl rfl rfl True.intro rfl rfl rfl ?_
    refine r_arr (i := (x % w 4).toNat) cd_56_23 rfl o4 (by have := Int.emod_nonneg x (b := w 4) (by omega); omega) (by have := Int.emod_nonneg x (b := w 4) (by omega); have := Int.emod_lt_of_pos x (b := w 4) (by omega); omega) rfl ?_
    rw [a2 (x % w 4).toNat (by have := Int.emod_nonneg x (b := w 4) (by omega); have := Int.emod_lt_of_pos x (b := w 4) (by omega); omega)]
    exact r_ret cd_56_24 True.intro (rI (by unfold gustI; first | rw [if_pos (by omega)] | rw [if_neg (by omega)]))
  · refine r_con (v := 0) cd_56_7 rfl (by decide) ?_
    refine r_goto cd_56_8 ?_
    exact r_ret cd_56_24 True.intro (rI (by unfold gustI; first | rw [if_pos (by omega)] | rw [if_neg (by omega)]))
theorem k_50 {h : aH} {B : Nat} {w : Nat → Int} (hR : Rp h B w) (hI : Inv0 w)  : Ct 1 50 [aR (B + 1)] h (.inl (some (aI (bz (decide (w 4 = 12))))), h) := by
  obtain ⟨c, ⟨o0, o1, o2, o3, o4, o5, o6, o7, o8, o9, o10, o11, o12, o13, o14, o15, o16, o17⟩, a0, a1, a2, a3, a4, a5, a6, a7, a8, a9, a10, a11, a12, a13, a14⟩ := id hR
  have hbn := hI.bNe
  have hpn := hI.pNe
  have x0 := hI.len
  have x1 := hI.hour
  have x2 := hI.gas
  have x3 := hI.leak
  have x4 := hI.gn
  have x5 := hI.bn
  have x6 := hI.pn
  refine Ct.of [aR (B + 1)] rfl ?_
  refine r_aldR cd_50_0 rfl rfl ?_
  refine r_get cd_50_1 rfl o1 rfl ?_
  refine r_con (v := 12) cd_50_4 rfl (by decide) ?_
  refine r_ic63 cd_50_6 rfl (inR_of hI.gn (by decide) (by decide)) ⟨by omega, by omega⟩ (fun n1 => ?_) (fun n1 => ?_)
  · refine r_con (v := 0) cd_50_13 rfl (by decide) ?_
    exact r_ret cd_50_14 (Or.inl rfl) (rB (by first | rfl | (simp [bz, n1]; done) | (simp [bz, n1]; omega) | (exact bz_f (by simp only [Bool.and_eq_true, Bool.or_eq_true, Bool.not_eq_true', decide_eq_true_eq, decide_eq_false_iff_not]; omega))))
  · refine r_con (v := 1) cd_50_9 rfl (by decide) ?_
    refine r_goto cd_50_10 ?_
    exact r_ret cd_50_14 (Or.inr rfl) (rB (by first | rfl | (simp [bz, n1]; done) | (simp [bz, n1]; omega) | (exact bz_t (by simp only [Bool.and_eq_true, Bool.or_eq_true, Bool.not_eq_true', decide_eq_true_eq, decide_eq_false_iff_not]; omega))))
theorem k_3 {h : aH} {B : Nat} {w : Nat → Int} (hR : Rp h B w) (hI : Inv0 w) (x : Int) (hx : inR x) : Ct 1 3 [aR (B + 5), aI x] h (.inl (some (aI (bz (isBa w x)))), h) := by
  obtain ⟨c, ⟨o0, o1, o2, o3, o4, o5, o6, o7, o8, o9, o10, o11, o12, o13, o14, o15, o16, o17⟩, a0, a1, a2, a3, a4, a5, a6, a7, a8, a9, a10, a11, a12, a13, a14⟩ := id hR
  have hbn := hI.bNe
  have hpn := hI.pNe
  have x0 := hI.len
  have x1 := hI.hour
  have x2 := hI.gas
  have x3 := hI.leak
  have x4 := hI.gn
  have x5 := hI.bn
  have x6 := hI.pn
  refine Ct.of [aR (B + 5), aI x] rfl ?_
  refine r_ild cd_3_0 rfl rfl ?_
  refine r_if53 cd_3_1 rfl hx (fun n1 => ?_) (fun n1 => ?_)
  · refine r_con (v := 0) cd_3_22 rfl (by decide) ?_
    exact r_ret cd_3_23 (Or.inl rfl) (rB (by first | rfl | (simp [isBa, bz, n1]; done) | (simp [isBa, bz, n1]; omega) | (exact bz_f (by simp only [isBa, Bool.and_eq_true, Bool.or_eq_true, Bool.not_eq_true', decide_eq_true_eq, decide_eq_false_iff_not]; omega))))
  · refine r_ild cd_3_4 rfl rfl ?_
    refine r_aldR cd_3_5 rfl rfl ?_
    refine r_get cd_3_6 rfl o5 rfl ?_
    refine r_ic64 cd_3_9 rfl hx (inR_of hI.bn (by decide) (by decide)) (fun n2 => ?_) (fun n2 => ?_)
    · refine r_ild cd_3_12 rfl rfl ?_
      refine r_con (v := 8) cd_3_13 rfl (by decide) ?_
      refine r_ic64 cd_3_15 rfl hx ⟨by omega, by omega⟩ (fun n3 => ?_) (fun n3 => ?_)
      · refine r_con (v := 1) cd_3_18 rfl (by decide) ?_
        refine r_goto cd_3_19 ?_
        exact r_ret cd_3_23 (Or.inr rfl) (rB (by first | rfl | (simp [isBa, bz, n1, n2, n3]; done) | (simp [isBa, bz, n1, n2, n3]; omega) | (exact bz_t (by simp only [isBa, Bool.and_eq_true, Bool.or_eq_true, Bool.not_eq_true', decide_eq_true_eq, decide_eq_false_iff_not]; omega))))
      · refine r_con (v := 0) cd_3_22 rfl (by decide) ?_
        exact r_ret cd_3_23 (Or.inl rfl) (rB (by first | rfl | (simp [isBa, bz, n1, n2, n3]; done) | (simp [isBa, bz, n1, n2, n3]; omega) | (exact bz_f (by simp only [isBa, Bool.and_eq_true, Bool.or_eq_true, Bool.not_eq_true', decide_eq_true_eq, decide_eq_false_iff_not]; omega))))
    · refine r_con (v := 0) cd_3_22 rfl (by decide) ?_
      exact r_ret cd_3_23 (Or.inl rfl) (rB (by first | rfl | (simp [isBa, bz, n1, n2]; done) | (simp [isBa, bz, n1, n2]; omega) | (exact bz_f (by simp only [isBa, Bool.and_eq_true, Bool.or_eq_true, Bool.not_eq_true', decide_eq_true_eq, decide_eq_false_iff_not]; omega))))
theorem k_1 {h : aH} {B : Nat} {w : Nat → Int} (hR : Rp h B w) (hI : Inv0 w)  : Ct 1 1 [aR (B + 5)] h (.inl (some (aI (bz (decide (w 5 = 8))))), h) := by
  obtain ⟨c, ⟨o0, o1, o2, o3, o4, o5, o6, o7, o8, o9, o10, o11, o12, o13, o14, o15, o16, o17⟩, a0, a1, a2, a3, a4, a5, a6, a7, a8, a9, a10, a11, a12, a13, a14⟩ := id hR
  have hbn := hI.bNe
  have hpn := hI.pNe
  have x0 := hI.len
  have x1 := hI.hour
  have x2 := hI.gas
  have x3 := hI.leak
  have x4 := hI.gn
  have x5 := hI.bn
  have x6 := hI.pn
  refine Ct.of [aR (B + 5)] rfl ?_
  refine r_aldR cd_1_0 rfl rfl ?_
  refine r_get cd_1_1 rfl o5 rfl ?_
  refine r_con (v := 8) cd_1_4 rfl (by decide) ?_
  refine r_ic63 cd_1_6 rfl (inR_of hI.bn (by decide) (by decide)) ⟨by omega, by omega⟩ (fun n1 => ?_) (fun n1 => ?_)
  · refine r_con (v := 0) cd_1_13 rfl (by decide) ?_
    exact r_ret cd_1_14 (Or.inl rfl) (rB (by first | rfl | (simp [bz, n1]; done) | (simp [bz, n1]; omega) | (exact bz_f (by simp only [Bool.and_eq_true, Bool.or_eq_true, Bool.not_eq_true', decide_eq_true_eq, decide_eq_false_iff_not]; omega))))
  · refine r_con (v := 1) cd_1_9 rfl (by decide) ?_
    refine r_goto cd_1_10 ?_
    exact r_ret cd_1_14 (Or.inr rfl) (rB (by first | rfl | (simp [bz, n1]; done) | (simp [bz, n1]; omega) | (exact bz_t (by simp only [Bool.and_eq_true, Bool.or_eq_true, Bool.not_eq_true', decide_eq_true_eq, decide_eq_false_iff_not]; omega))))
theorem k_2 {h : aH} {B : Nat} {w : Nat → Int} (hR : Rp h B w) (hI : Inv0 w) (b : Nat) (g0 : b < nB w) : Ct 1 2 [aR (B + 5), aI ((b : Nat) : Int)] h (.inl (some (aI (bz (decide (bo w b 3 = 0))))), h) := by
  obtain ⟨c, ⟨o0, o1, o2, o3, o4, o5, o6, o7, o8, o9, o10, o11, o12, o13, o14, o15, o16, o17⟩, a0, a1, a2, a3, a4, a5, a6, a7, a8, a9, a10, a11, a12, a13, a14⟩ := id hR
  have hbn := hI.bNe
  have hpn := hI.pNe
  have x0 := hI.len
  have x1 := hI.hour
  have x2 := hI.gas
  have x3 := hI.leak
  have x4 := hI.gn
  have x5 := hI.bn
  have x6 := hI.pn
  refine Ct.of [aR (B + 5), aI ((b : Nat) : Int)] rfl ?_
  refine r_aldR cd_2_0 rfl rfl ?_
  refine r_get cd_2_1 rfl o5 rfl ?_
  refine r_ild cd_2_4 rfl rfl ?_
  refine r_arr (i := b) cd_2_5 rfl o9 rfl (by omega) rfl ?_
  rw [a6 (b) (by omega)]
  refine r_if52 cd_2_6 rfl (hI.boR (b := b) (k := 3) (by omega) (by decide)) (fun n1 => ?_) (fun n1 => ?_)
  · refine r_con (v := 1) cd_2_9 rfl (by decide) ?_
    refine r_goto cd_2_10 ?_
    exact r_ret cd_2_14 (Or.inr rfl) (rB (by first | rfl | (simp [bz, n1]; done) | (simp [bz, n1]; omega) | (exact bz_t (by simp only [Bool.and_eq_true, Bool.or_eq_true, Bool.not_eq_true', decide_eq_true_eq, decide_eq_false_iff_not]; omega))))
  · refine r_con (v := 0) cd_2_13 rfl (by decide) ?_
    exact r_ret cd_2_14 (Or.inl rfl) (rB (by first | rfl | (simp [bz, n1]; done) | (simp [bz, n1]; omega) | (exact bz_f (by simp only [Bool.and_eq_true, Bool.or_eq_true, Bool.not_eq_true', decide_eq_true_eq, decide_eq_false_iff_not]; omega))))
theorem k_4 {h : aH} {B : Nat} {w : Nat → Int} (hR : Rp h B w) (hI : Inv0 w) (b : Nat) (g0 : b < nB w) : Ct 1 4 [aR (B + 5), aI ((b : Nat) : Int)] h (.inl (some (aI (bz (decide (bo w b 3 = 1))))), h) := by
  obtain ⟨c, ⟨o0, o1, o2, o3, o4, o5, o6, o7, o8, o9, o10, o11, o12, o13, o14, o15, o16, o17⟩, a0, a1, a2, a3, a4, a5, a6, a7, a8, a9, a10, a11, a12, a13, a14⟩ := id hR
  have hbn := hI.bNe
  have hpn := hI.pNe
  have x0 := hI.len
  have x1 := hI.hour
  have x2 := hI.gas
  have x3 := hI.leak
  have x4 := hI.gn
  have x5 := hI.bn
  have x6 := hI.pn
  refine Ct.of [aR (B + 5), aI ((b : Nat) : Int)] rfl ?_
  refine r_aldR cd_4_0 rfl rfl ?_
  refine r_get cd_4_1 rfl o5 rfl ?_
  refine r_ild cd_4_4 rfl rfl ?_
  refine r_arr (i := b) cd_4_5 rfl o9 rfl (by omega) rfl ?_
  rw [a6 (b) (by omega)]
  refine r_con (v := 1) cd_4_6 rfl (by decide) ?_
  refine r_ic62 cd_4_7 rfl (hI.boR (b := b) (k := 3) (by omega) (by decide)) ⟨by omega, by omega⟩ (fun n1 => ?_) (fun n1 => ?_)
  · refine r_con (v := 1) cd_4_10 rfl (by decide) ?_
    refine r_goto cd_4_11 ?_
    exact r_ret cd_4_15 (Or.inr rfl) (rB (by first | rfl | (simp [bz, n1]; done) | (simp [bz, n1]; omega) | (exact bz_t (by simp only [Bool.and_eq_true, Bool.or_eq_true, Bool.not_eq_true', decide_eq_true_eq, decide_eq_false_iff_not]; omega))))
  · refine r_con (v := 0) cd_4_14 rfl (by decide) ?_
    exact r_ret cd_4_15 (Or.inl rfl) (rB (by first | rfl | (simp [bz, n1]; done) | (simp [bz, n1]; omega) | (exact bz_f (by simp only [Bool.and_eq_true, Bool.or_eq_true, Bool.not_eq_true', decide_eq_true_eq, decide_eq_false_iff_not]; omega))))
theorem k_5 {h : aH} {B : Nat} {w : Nat → Int} (hR : Rp h B w) (hI : Inv0 w) (b : Nat) (g0 : b < nB w) : Ct 1 5 [aR (B + 5), aI ((b : Nat) : Int)] h (.inl (some (aI (bz (decide (bo w b 3 = 2))))), h) := by
  obtain ⟨c, ⟨o0, o1, o2, o3, o4, o5, o6, o7, o8, o9, o10, o11, o12, o13, o14, o15, o16, o17⟩, a0, a1, a2, a3, a4, a5, a6, a7, a8, a9, a10, a11, a12, a13, a14⟩ := id hR
  have hbn := hI.bNe
  have hpn := hI.pNe
  have x0 := hI.len
  have x1 := hI.hour
  have x2 := hI.gas
  have x3 := hI.leak
  have x4 := hI.gn
  have x5 := hI.bn
  have x6 := hI.pn
  refine Ct.of [aR (B + 5), aI ((b : Nat) : Int)] rfl ?_
  refine r_aldR cd_5_0 rfl rfl ?_
  refine r_get cd_5_1 rfl o5 rfl ?_
  refine r_ild cd_5_4 rfl rfl ?_
  refine r_arr (i := b) cd_5_5 rfl o9 rfl (by omega) rfl ?_
  rw [a6 (b) (by omega)]
  refine r_con (v := 2) cd_5_6 rfl (by decide) ?_
  refine r_ic62 cd_5_7 rfl (hI.boR (b := b) (k := 3) (by omega) (by decide)) ⟨by omega, by omega⟩ (fun n1 => ?_) (fun n1 => ?_)
  · refine r_con (v := 1) cd_5_10 rfl (by decide) ?_
    refine r_goto cd_5_11 ?_
    exact r_ret cd_5_15 (Or.inr rfl) (rB (by first | rfl | (simp [bz, n1]; done) | (simp [bz, n1]; omega) | (exact bz_t (by simp only [Bool.and_eq_true, Bool.or_eq_true, Bool.not_eq_true', decide_eq_true_eq, decide_eq_false_iff_not]; omega))))
  · refine r_con (v := 0) cd_5_14 rfl (by decide) ?_
    exact r_ret cd_5_15 (Or.inl rfl) (rB (by first | rfl | (simp [bz, n1]; done) | (simp [bz, n1]; omega) | (exact bz_f (by simp only [Bool.and_eq_true, Bool.or_eq_true, Bool.not_eq_true', decide_eq_true_eq, decide_eq_false_iff_not]; omega))))
theorem k_26 {h : aH} {B : Nat} {w : Nat → Int} (hR : Rp h B w) (hI : Inv0 w) (x : Int) (hx : inR x) : Ct 1 26 [aR (B + 10), aI x] h (.inl (some (aI (bz (isPa w x)))), h) := by
  obtain ⟨c, ⟨o0, o1, o2, o3, o4, o5, o6, o7, o8, o9, o10, o11, o12, o13, o14, o15, o16, o17⟩, a0, a1, a2, a3, a4, a5, a6, a7, a8, a9, a10, a11, a12, a13, a14⟩ := id hR
  have hbn := hI.bNe
  have hpn := hI.pNe
  have x0 := hI.len
  have x1 := hI.hour
  have x2 := hI.gas
  have x3 := hI.leak
  have x4 := hI.gn
  have x5 := hI.bn
  have x6 := hI.pn
  refine Ct.of [aR (B + 10), aI x] rfl ?_
  refine r_ild cd_26_0 rfl rfl ?_
  refine r_if53 cd_26_1 rfl hx (fun n1 => ?_) (fun n1 => ?_)
  · refine r_con (v := 0) cd_26_22 rfl (by decide) ?_
    exact r_ret cd_26_23 (Or.inl rfl) (rB (by first | rfl | (simp [isPa, bz, n1]; done) | (simp [isPa, bz, n1]; omega) | (exact bz_f (by simp only [isPa, Bool.and_eq_true, Bool.or_eq_true, Bool.not_eq_true', decide_eq_true_eq, decide_eq_false_iff_not]; omega))))
  · refine r_ild cd_26_4 rfl rfl ?_
    refine r_aldR cd_26_5 rfl rfl ?_
    refine r_get cd_26_6 rfl o10 rfl ?_
    refine r_ic64 cd_26_9 rfl hx (inR_of hI.pn (by decide) (by decide)) (fun n2 => ?_) (fun n2 => ?_)
    · refine r_ild cd_26_12 rfl rfl ?_
      refine r_con (v := 16) cd_26_13 rfl (by decide) ?_
      refine r_ic64 cd_26_15 rfl hx ⟨by omega, by omega⟩ (fun n3 => ?_) (fun n3 => ?_)
      · refine r_con (v := 1) cd_26_18 rfl (by decide) ?_
        refine r_goto cd_26_19 ?_
        exact r_ret cd_26_23 (Or.inr rfl) (rB (by first | rfl | (simp [isPa, bz, n1, n2, n3]; done) | (simp [isPa, bz, n1, n2, n3]; omega) | (exact bz_t (by simp only [isPa, Bool.and_eq_true, Bool.or_eq_true, Bool.not_eq_true', decide_eq_true_eq, decide_eq_false_iff_not]; omega))))
      · refine r_con (v := 0) cd_26_22 rfl (by decide) ?_
        exact r_ret cd_26_23 (Or.inl rfl) (rB (by first | rfl | (simp [isPa, bz, n1, n2, n3]; done) | (simp [isPa, bz, n1, n2, n3]; omega) | (exact bz_f (by simp only [isPa, Bool.and_eq_true, Bool.or_eq_true, Bool.not_eq_true', decide_eq_true_eq, decide_eq_false_iff_not]; omega))))
    · refine r_con (v := 0) cd_26_22 rfl (by decide) ?_
      exact r_ret cd_26_23 (Or.inl rfl) (rB (by first | rfl | (simp [isPa, bz, n1, n2]; done) | (simp [isPa, bz, n1, n2]; omega) | (exact bz_f (by simp only [isPa, Bool.and_eq_true, Bool.or_eq_true, Bool.not_eq_true', decide_eq_true_eq, decide_eq_false_iff_not]; omega))))
theorem k_17 {h : aH} {B : Nat} {w : Nat → Int} (hR : Rp h B w) (hI : Inv0 w)  : Ct 1 17 [aR (B + 10)] h (.inl (some (aI (bz (decide (w 6 = 16))))), h) := by
  obtain ⟨c, ⟨o0, o1, o2, o3, o4, o5, o6, o7, o8, o9, o10, o11, o12, o13, o14, o15, o16, o17⟩, a0, a1, a2, a3, a4, a5, a6, a7, a8, a9, a10, a11, a12, a13, a14⟩ := id hR
  have hbn := hI.bNe
  have hpn := hI.pNe
  have x0 := hI.len
  have x1 := hI.hour
  have x2 := hI.gas
  have x3 := hI.leak
  have x4 := hI.gn
  have x5 := hI.bn
  have x6 := hI.pn
  refine Ct.of [aR (B + 10)] rfl ?_
  refine r_aldR cd_17_0 rfl rfl ?_
  refine r_get cd_17_1 rfl o10 rfl ?_
  refine r_con (v := 16) cd_17_4 rfl (by decide) ?_
  refine r_ic63 cd_17_6 rfl (inR_of hI.pn (by decide) (by decide)) ⟨by omega, by omega⟩ (fun n1 => ?_) (fun n1 => ?_)
  · refine r_con (v := 0) cd_17_13 rfl (by decide) ?_
    exact r_ret cd_17_14 (Or.inl rfl) (rB (by first | rfl | (simp [bz, n1]; done) | (simp [bz, n1]; omega) | (exact bz_f (by simp only [Bool.and_eq_true, Bool.or_eq_true, Bool.not_eq_true', decide_eq_true_eq, decide_eq_false_iff_not]; omega))))
  · refine r_con (v := 1) cd_17_9 rfl (by decide) ?_
    refine r_goto cd_17_10 ?_
    exact r_ret cd_17_14 (Or.inr rfl) (rB (by first | rfl | (simp [bz, n1]; done) | (simp [bz, n1]; omega) | (exact bz_t (by simp only [Bool.and_eq_true, Bool.or_eq_true, Bool.not_eq_true', decide_eq_true_eq, decide_eq_false_iff_not]; omega))))
