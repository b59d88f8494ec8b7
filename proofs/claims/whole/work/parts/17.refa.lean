/-! THE REFERENCE: readers of the row (written by wip/whole/gen17.py) -/
theorem c_186 {h : aH} (x : Int) (hx : inR x) (l : Int) (hl : inR l) (m : Int) (hm : inR m) : Ct 1 186 [aI x, aI l, aI m] h (.inl (some (aI (bz (inB x l m)))), h) := by
  refine Ct.of [aI x, aI l, aI m] rfl ?_
  refine r_ild cd_186_0 rfl rfl ?_
  refine r_ild cd_186_1 rfl rfl ?_
  refine r_ic63 cd_186_2 rfl hx hl (fun n1 => ?_) (fun n1 => ?_)
  · refine r_con (v := 0) cd_186_14 rfl (by decide) ?_
    exact r_ret cd_186_15 (Or.inl rfl) (rB (by unfold inB bz; cases h1 : decide (l ≤ x) <;> cases h2 : decide (x ≤ m) <;> simp_all <;> omega))
  · refine r_ild cd_186_5 rfl rfl ?_
    refine r_ild cd_186_6 rfl rfl ?_
    refine r_ic65 cd_186_7 rfl hx hm (fun n2 => ?_) (fun n2 => ?_)
    · refine r_con (v := 0) cd_186_14 rfl (by decide) ?_
      exact r_ret cd_186_15 (Or.inl rfl) (rB (by unfold inB bz; cases h1 : decide (l ≤ x) <;> cases h2 : decide (x ≤ m) <;> simp_all <;> omega))
    · refine r_con (v := 1) cd_186_10 rfl (by decide) ?_
      refine r_goto cd_186_11 ?_
      exact r_ret cd_186_15 (Or.inr rfl) (rB (by unfold inB bz; cases h1 : decide (l ≤ x) <;> cases h2 : decide (x ≤ m) <;> simp_all <;> omega))
theorem c_239 {h : aH} (x : Int) (hx : inR x) : Ct 1 239 [aI x] h (.inl (some (aI (absI x))), h) := by
  refine Ct.of [aI x] rfl ?_
  refine r_ild cd_239_0 rfl rfl ?_
  refine r_if54 cd_239_1 rfl hx (fun n1 => ?_) (fun n1 => ?_)
  · refine r_ild cd_239_4 rfl rfl ?_
    refine r_neg (v := -x) cd_239_5 rfl (by rfl) ?_
    refine r_goto cd_239_6 ?_
    exact r_ret cd_239_10 True.intro (rI (by first | rfl | (simp [absI, bz, n1]; done) | (simp [absI, bz, n1]; omega) | (unfold absI; split <;> simp_all <;> omega)))
  · refine r_ild cd_239_9 rfl rfl ?_
    exact r_ret cd_239_10 True.intro (rI (by first | rfl | (simp [absI, bz, n1]; done) | (simp [absI, bz, n1]; omega) | (unfold absI; split <;> simp_all <;> omega)))
theorem c_244 {h : aH} {s w : Nat → Int} (hM : h.2.2 226 = .inr (8, Mo s)) (hw : h.2.2 227 = .inl (0, 211, .inl w)) (hI : Inv0 w) (x : Int) (hx : inR x) : Ct 2 244 [aR 226, aI x] h (.inl (some (aI (bz (isPl w x)))), h) := by
  refine Ct.of [aR 226, aI x] rfl ?_
  have hbn := hI.bNe
  have hpn := hI.pNe
  have x0 := hI.len
  have x1 := hI.hour
  have x2 := hI.gas
  have x3 := hI.leak
  have x4 := hI.gn
  have x5 := hI.bn
  have x6 := hI.pn
  refine r_ild cd_244_0 rfl rfl ?_
  refine r_con (v := 0) cd_244_1 rfl (by decide) ?_
  refine r_aldR cd_244_2 rfl rfl ?_
  refine r_get cd_244_3 rfl hM rfl ?_
  refine r_con (v := 0) cd_244_6 rfl (by decide) ?_
  refine r_arr (i := 0) cd_244_7 rfl hw rfl (by omega) rfl ?_
  refine r_con (v := 1) cd_244_8 rfl (by decide) ?_
  refine r_sub (v := (w 0) - 1) cd_244_9 rfl (by rfl) ?_
  refine r_cI (c_186 x hx 0 ⟨by omega, by omega⟩ ((w 0) - 1) ⟨by omega, by omega⟩) cd_244_10 rfl rfl rfl True.intro rfl rfl rfl ?_
  exact r_ret cd_244_13 (bz_fit _) (rB rfl)
theorem c_265 {h : aH} {s w : Nat → Int} (hM : h.2.2 226 = .inr (8, Mo s)) (hw : h.2.2 227 = .inl (0, 211, .inl w)) (hI : Inv0 w) (x : Int) (hx : inR x) : Ct 2 265 [aR 226, aI x] h (.inl (some (aI (bz (isBa w x)))), h) := by
  refine Ct.of [aR 226, aI x] rfl ?_
  have hbn := hI.bNe
  have hpn := hI.pNe
  have x0 := hI.len
  have x1 := hI.hour
  have x2 := hI.gas
  have x3 := hI.leak
  have x4 := hI.gn
  have x5 := hI.bn
  have x6 := hI.pn
  refine r_ild cd_265_0 rfl rfl ?_
  refine r_con (v := 0) cd_265_1 rfl (by decide) ?_
  refine r_aldR cd_265_2 rfl rfl ?_
  refine r_get cd_265_3 rfl hM rfl ?_
  refine r_con (v := 5) cd_265_6 rfl (by decide) ?_
  refine r_arr (i := 5) cd_265_7 rfl hw rfl (by omega) rfl ?_
  refine r_con (v := 1) cd_265_8 rfl (by decide) ?_
  refine r_sub (v := (w 5) - 1) cd_265_9 rfl (by rfl) ?_
  refine r_cI (c_186 x hx 0 ⟨by omega, by omega⟩ ((w 5) - 1) ⟨by omega, by omega⟩) cd_265_10 rfl rfl rfl True.intro rfl rfl rfl ?_
  exact r_ret cd_265_13 (bz_fit _) (rB rfl)
theorem c_264 {h : aH} {s w : Nat → Int} (hM : h.2.2 226 = .inr (8, Mo s)) (hw : h.2.2 227 = .inl (0, 211, .inl w)) (hI : Inv0 w) (x : Int) (hx : inR x) : Ct 2 264 [aR 226, aI x] h (.inl (some (aI (bz (isPa w x)))), h) := by
  refine Ct.of [aR 226, aI x] rfl ?_
  have hbn := hI.bNe
  have hpn := hI.pNe
  have x0 := hI.len
  have x1 := hI.hour
  have x2 := hI.gas
  have x3 := hI.leak
  have x4 := hI.gn
  have x5 := hI.bn
  have x6 := hI.pn
  refine r_ild cd_264_0 rfl rfl ?_
  refine r_con (v := 0) cd_264_1 rfl (by decide) ?_
  refine r_aldR cd_264_2 rfl rfl ?_
  refine r_get cd_264_3 rfl hM rfl ?_
  refine r_con (v := 6) cd_264_6 rfl (by decide) ?_
  refine r_arr (i := 6) cd_264_8 rfl hw rfl (by omega) rfl ?_
  refine r_con (v := 1) cd_264_9 rfl (by decide) ?_
  refine r_sub (v := (w 6) - 1) cd_264_10 rfl (by rfl) ?_
  refine r_cI (c_186 x hx 0 ⟨by omega, by omega⟩ ((w 6) - 1) ⟨by omega, by omega⟩) cd_264_11 rfl rfl rfl True.intro rfl rfl rfl ?_
  exact r_ret cd_264_14 (bz_fit _) (rB rfl)
theorem c_209 {h : aH} {s w : Nat → Int} (hM : h.2.2 226 = .inr (8, Mo s)) (hw : h.2.2 227 = .inl (0, 211, .inl w)) (b : Nat) (k : Nat) (g0 : 83 + 4 * b + k < 211) : Ct 1 209 [aR 226, aI ((b : Nat) : Int), aI ((k : Nat) : Int)] h (.inl (some (aI (bo w b k))), h) := by
  refine Ct.of [aR 226, aI ((b : Nat) : Int), aI ((k : Nat) : Int)] rfl ?_
  refine r_aldR cd_209_0 rfl rfl ?_
  refine r_get cd_209_1 rfl hM rfl ?_
  refine r_con (v := 83) cd_209_4 rfl (by decide) ?_
  refine r_con (v := 4) cd_209_6 rfl (by decide) ?_
  refine r_ild cd_209_7 rfl rfl ?_
  refine r_mul (v := ((4 * b : Nat) : Int)) cd_209_8 rfl (by omega) ?_
  refine r_add (v := ((83 + 4 * b : Nat) : Int)) cd_209_9 rfl (by omega) ?_
  refine r_ild cd_209_10 rfl rfl ?_
  refine r_add (v := ((83 + 4 * b + k : Nat) : Int)) cd_209_11 rfl (by omega) ?_
  refine r_arr (i := 83 + 4 * b + k) cd_209_12 rfl hw rfl (by omega) rfl ?_
  exact r_ret cd_209_13 True.intro (rI (by first | rfl | (simp [bo, bz]; done) | (simp [bo, bz]; omega) | (unfold bo; split <;> simp_all <;> omega)))
theorem c_203 {h : aH} {s w : Nat → Int} (hM : h.2.2 226 = .inr (8, Mo s)) (hw : h.2.2 227 = .inl (0, 211, .inl w)) (p : Nat) (k : Nat) (g0 : 115 + 6 * p + k < 211) : Ct 1 203 [aR 226, aI ((p : Nat) : Int), aI ((k : Nat) : Int)] h (.inl (some (aI (pa w p k))), h) := by
  refine Ct.of [aR 226, aI ((p : Nat) : Int), aI ((k : Nat) : Int)] rfl ?_
  refine r_aldR cd_203_0 rfl rfl ?_
  refine r_get cd_203_1 rfl hM rfl ?_
  refine r_con (v := 115) cd_203_4 rfl (by decide) ?_
  refine r_con (v := 6) cd_203_6 rfl (by decide) ?_
  refine r_ild cd_203_8 rfl rfl ?_
  refine r_mul (v := ((6 * p : Nat) : Int)) cd_203_9 rfl (by omega) ?_
  refine r_add (v := ((115 + 6 * p : Nat) : Int)) cd_203_10 rfl (by omega) ?_
  refine r_ild cd_203_11 rfl rfl ?_
  refine r_add (v := ((115 + 6 * p + k : Nat) : Int)) cd_203_12 rfl (by omega) ?_
  refine r_arr (i := 115 + 6 * p + k) cd_203_13 rfl hw rfl (by omega) rfl ?_
  exact r_ret cd_203_14 True.intro (rI (by first | rfl | (simp [pa, bz]; done) | (simp [pa, bz]; omega) | (unfold pa; split <;> simp_all <;> omega)))
theorem c_211 {h : aH} {s w : Nat → Int} (hM : h.2.2 226 = .inr (8, Mo s)) (hw : h.2.2 227 = .inl (0, 211, .inl w)) (hI : Inv0 w) (p : Nat) (b : Nat) (g0 : p < nP w) (g1 : b < 8) : Ct 2 211 [aR 226, aI ((p : Nat) : Int), aI ((b : Nat) : Int)] h (.inl (some (aI (bz (tied w p b)))), h) := by
  refine Ct.of [aR 226, aI ((p : Nat) : Int), aI ((b : Nat) : Int)] rfl ?_
  have hbn := hI.bNe
  have hpn := hI.pNe
  have x0 := hI.len
  have x1 := hI.hour
  have x2 := hI.gas
  have x3 := hI.leak
  have x4 := hI.gn
  have x5 := hI.bn
  have x6 := hI.pn
  refine r_aldR cd_211_0 rfl rfl ?_
  refine r_ild cd_211_1 rfl rfl ?_
  refine r_con (v := 4) cd_211_2 rfl (by decide) ?_
  refine r_cI (c_203 hM hw p 4 (by omega)) cd_211_3 rfl rfl rfl (rc0 hM rfl) rfl rfl rfl ?_
  refine r_con (v := 1) cd_211_6 rfl (by decide) ?_
  refine r_ic62 cd_211_7 rfl (hI.paR (by omega) (by omega)) ⟨by omega, by omega⟩ (fun n1 => ?_) (fun n1 => ?_)
  · refine r_aldR cd_211_10 rfl rfl ?_
    refine r_ild cd_211_11 rfl rfl ?_
    refine r_con (v := 5) cd_211_12 rfl (by decide) ?_
    refine r_cI (c_203 hM hw p 5 (by omega)) cd_211_13 rfl rfl rfl (rc0 hM rfl) rfl rfl rfl ?_
    refine r_ild cd_211_16 rfl rfl ?_
    refine r_ic62 cd_211_17 rfl (hI.paR (by omega) (by omega)) ⟨by omega, by omega⟩ (fun n2 => ?_) (fun n2 => ?_)
    · refine r_con (v := 1) cd_211_20 rfl (by decide) ?_
      refine r_goto cd_211_21 ?_
      exact r_ret cd_211_25 (Or.inr rfl) (rB (by first | rfl | (simp [tied, bz, n1, n2]; done) | (simp [tied, bz, n1, n2]; omega) | (exact bz_t (by simp only [tied, Bool.and_eq_true, Bool.or_eq_true, Bool.not_eq_true', decide_eq_true_eq, decide_eq_false_iff_not]; omega))))
    · refine r_con (v := 0) cd_211_24 rfl (by decide) ?_
      exact r_ret cd_211_25 (Or.inl rfl) (rB (by first | rfl | (simp [tied, bz, n1, n2]; done) | (simp [tied, bz, n1, n2]; omega) | (exact bz_f (by simp only [tied, Bool.and_eq_true, Bool.or_eq_true, Bool.not_eq_true', decide_eq_true_eq, decide_eq_false_iff_not]; omega))))
  · refine r_con (v := 0) cd_211_24 rfl (by decide) ?_
    exact r_ret cd_211_25 (Or.inl rfl) (rB (by first | rfl | (simp [tied, bz, n1]; done) | (simp [tied, bz, n1]; omega) | (exact bz_f (by simp only [tied, Bool.and_eq_true, Bool.or_eq_true, Bool.not_eq_true', decide_eq_true_eq, decide_eq_false_iff_not]; omega))))
theorem c_236 {h : aH} {s w : Nat → Int} (hM : h.2.2 226 = .inr (8, Mo s)) (hw : h.2.2 227 = .inl (0, 211, .inl w)) (hI : Inv0 w) (p : Nat) (x : Int) (hx : inR x) (g0 : p < nP w) : Ct 2 236 [aR 226, aI ((p : Nat) : Int), aI x] h (.inl (some (aI (bz (lies w p x)))), h) := by
  refine Ct.of [aR 226, aI ((p : Nat) : Int), aI x] rfl ?_
  have hbn := hI.bNe
  have hpn := hI.pNe
  have x0 := hI.len
  have x1 := hI.hour
  have x2 := hI.gas
  have x3 := hI.leak
  have x4 := hI.gn
  have x5 := hI.bn
  have x6 := hI.pn
  refine r_aldR cd_236_0 rfl rfl ?_
  refine r_ild cd_236_1 rfl rfl ?_
  refine r_con (v := 4) cd_236_2 rfl (by decide) ?_
  refine r_cI (c_203 hM hw p 4 (by omega)) cd_236_3 rfl rfl rfl (rc0 hM rfl) rfl rfl rfl ?_
  refine r_if52 cd_236_6 rfl (hI.paR (by omega) (by omega)) (fun n1 => ?_) (fun n1 => ?_)
  · refine r_aldR cd_236_9 rfl rfl ?_
    refine r_ild cd_236_10 rfl rfl ?_
    refine r_con (v := 5) cd_236_11 rfl (by decide) ?_
    refine r_cI (c_203 hM hw p 5 (by omega)) cd_236_12 rfl rfl rfl (rc0 hM rfl) rfl rfl rfl ?_
    refine r_ild cd_236_15 rfl rfl ?_
    refine r_ic62 cd_236_16 rfl (hI.paR (by omega) (by omega)) hx (fun n2 => ?_) (fun n2 => ?_)
    · refine r_con (v := 1) cd_236_19 rfl (by decide) ?_
      refine r_goto cd_236_20 ?_
      exact r_ret cd_236_24 (Or.inr rfl) (rB (by first | rfl | (simp [lies, bz, n1, n2]; done) | (simp [lies, bz, n1, n2]; omega) | (exact bz_t (by simp only [lies, Bool.and_eq_true, Bool.or_eq_true, Bool.not_eq_true', decide_eq_true_eq, decide_eq_false_iff_not]; omega))))
    · refine r_con (v := 0) cd_236_23 rfl (by decide) ?_
      exact r_ret cd_236_24 (Or.inl rfl) (rB (by first | rfl | (simp [lies, bz, n1, n2]; done) | (simp [lies, bz, n1, n2]; omega) | (exact bz_f (by simp only [lies, Bool.and_eq_true, Bool.or_eq_true, Bool.not_eq_true', decide_eq_true_eq, decide_eq_false_iff_not]; omega))))
  · refine r_con (v := 0) cd_236_23 rfl (by decide) ?_
    exact r_ret cd_236_24 (Or.inl rfl) (rB (by first | rfl | (simp [lies, bz, n1]; done) | (simp [lies, bz, n1]; omega) | (exact bz_f (by simp only [lies, Bool.and_eq_true, Bool.or_eq_true, Bool.not_eq_true', decide_eq_true_eq, decide_eq_false_iff_not]; omega))))
theorem lp_213 {h : aH} {s w : Nat → Int} (hM : h.2.2 226 = .inr (8, Mo s)) (hw : h.2.2 227 = .inl (0, 211, .inl w)) (hI : Inv0 w) (b : Nat) (hb : b < 8)  : ∀ (m i : Nat) (acc r : Int), i + m = nP w → r = itF (loadG w b) i m acc → RU 3 213 (.inl (some (aI r)), h) (4, [aR 226, aI ((b : Nat) : Int), aI acc, aI ((i : Nat) : Int)], [], 0, 0, h) := by
  have hbn := hI.bNe
  have hpn := hI.pNe
  have x0 := hI.len
  have x1 := hI.hour
  have x2 := hI.gas
  have x3 := hI.leak
  have x4 := hI.gn
  have x5 := hI.bn
  have x6 := hI.pn
  intro m
  induction m with
  | zero =>
    intro i acc r hm hr
    refine r_ild cd_213_4 rfl rfl ?_
    refine r_aldR cd_213_5 rfl rfl ?_
    refine r_get cd_213_6 rfl hM rfl ?_
    refine r_con (v := 6) cd_213_9 rfl (by decide) ?_
    refine r_arr (i := 6) cd_213_11 rfl hw rfl (by omega) rfl ?_
    refine r_ic64 cd_213_12 rfl ⟨by omega, by omega⟩ (inR_of hI.pn (by decide) (by decide)) (fun n1 => ?_) (fun n1 => ?_)
    · exact absurd n1 (by omega)
    · refine r_ild cd_213_43 rfl rfl ?_
      exact r_ret cd_213_44 True.intro (rI hr)
  | succ m ih =>
    intro i acc r hm hr
    refine r_ild cd_213_4 rfl rfl ?_
    refine r_aldR cd_213_5 rfl rfl ?_
    refine r_get cd_213_6 rfl hM rfl ?_
    refine r_con (v := 6) cd_213_9 rfl (by decide) ?_
    refine r_arr (i := 6) cd_213_11 rfl hw rfl (by omega) rfl ?_
    refine r_ic64 cd_213_12 rfl ⟨by omega, by omega⟩ (inR_of hI.pn (by decide) (by decide)) (fun n1 => ?_) (fun n1 => ?_)
    · refine r_ild cd_213_15 rfl rfl ?_
      refine r_aldR cd_213_16 rfl rfl ?_
      refine r_ild cd_213_17 rfl rfl ?_
      refine r_ild cd_213_18 rfl rfl ?_
      refine r_cI (c_211 hM hw hI i b (by omega) (by omega)) cd_213_19 rfl rfl rfl (rc0 hM rfl) rfl rfl rfl ?_
      refine r_if51b cd_213_22 rfl (fun n2 => ?_) (fun n2 => ?_)
      · refine r_con (v := 0) cd_213_34 rfl (by decide) ?_
        refine r_add (v := acc + 0) cd_213_35 rfl (by rfl) ?_
        refine r_ist cd_213_36 rfl rfl (L' := [aR 226, aI ((b : Nat) : Int), aI (acc + 0), aI ((i : Nat) : Int)]) rfl ?_
        refine r_inc (v := ((i + 1 : Nat) : Int)) cd_213_37 rfl rfl rfl (by omega) (L' := [aR 226, aI ((b : Nat) : Int), aI (acc + 0), aI ((i + 1 : Nat) : Int)]) rfl ?_
        refine r_goto cd_213_40 ?_
        exact ih (i + 1) (acc + 0) r (by omega) (hr.trans (itF_step (by first | rfl | (simp [loadG, bz, n1, n2]; done) | (simp [loadG, bz, n1, n2]; omega))))
      · refine r_aldR cd_213_25 rfl rfl ?_
        refine r_ild cd_213_26 rfl rfl ?_
        refine r_con (v := 0) cd_213_27 rfl (by decide) ?_
        refine r_cI (c_203 hM hw i 0 (by omega)) cd_213_28 rfl rfl rfl (rc0 hM rfl) rfl rfl rfl ?_
        refine r_goto cd_213_31 ?_
        refine r_add (v := acc + (pa w i 0)) cd_213_35 rfl (by rfl) ?_
        refine r_ist cd_213_36 rfl rfl (L' := [aR 226, aI ((b : Nat) : Int), aI (acc + (pa w i 0)), aI ((i : Nat) : Int)]) rfl ?_
        refine r_inc (v := ((i + 1 : Nat) : Int)) cd_213_37 rfl rfl rfl (by omega) (L' := [aR 226, aI ((b : Nat) : Int), aI (acc + (pa w i 0)), aI ((i + 1 : Nat) : Int)]) rfl ?_
        refine r_goto cd_213_40 ?_
        exact ih (i + 1) (acc + (pa w i 0)) r (by omega) (hr.trans (itF_step (by first | rfl | (simp [loadG, bz, n1, n2]; done) | (simp [loadG, bz, n1, n2]; omega))))
    · exact absurd n1 (by omega)
theorem c_213 {h : aH} {s w : Nat → Int} (hM : h.2.2 226 = .inr (8, Mo s)) (hw : h.2.2 227 = .inl (0, 211, .inl w)) (hI : Inv0 w) (b : Nat) (g0 : b < 8) : Ct 3 213 [aR 226, aI ((b : Nat) : Int)] h (.inl (some (aI (loadOf w b))), h) := by
  refine Ct.of [aR 226, aI ((b : Nat) : Int), aU, aU] rfl ?_
  have hbn := hI.bNe
  have hpn := hI.pNe
  have x0 := hI.len
  have x1 := hI.hour
  have x2 := hI.gas
  have x3 := hI.leak
  have x4 := hI.gn
  have x5 := hI.bn
  have x6 := hI.pn
  refine r_con (v := 0) cd_213_0 rfl (by decide) ?_
  refine r_ist cd_213_1 rfl rfl (L' := [aR 226, aI ((b : Nat) : Int), aI 0, aU]) rfl ?_
  refine r_con (v := 0) cd_213_2 rfl (by decide) ?_
  refine r_ist cd_213_3 rfl rfl (L' := [aR 226, aI ((b : Nat) : Int), aI 0, aI 0]) rfl ?_
  exact lp_213 hM hw hI b (by omega) (nP w) 0 0 _ (by omega) rfl
theorem lp_210 {h : aH} {s w : Nat → Int} (hM : h.2.2 226 = .inr (8, Mo s)) (hw : h.2.2 227 = .inl (0, 211, .inl w)) (hI : Inv0 w) (b : Nat) (hb : b < 8)  : ∀ (m i : Nat) (acc r : Int), i + m = nP w → r = itF (knotG w b) i m acc → RU 3 210 (.inl (some (aI r)), h) (4, [aR 226, aI ((b : Nat) : Int), aI acc, aI ((i : Nat) : Int)], [], 0, 0, h) := by
  have hbn := hI.bNe
  have hpn := hI.pNe
  have x0 := hI.len
  have x1 := hI.hour
  have x2 := hI.gas
  have x3 := hI.leak
  have x4 := hI.gn
  have x5 := hI.bn
  have x6 := hI.pn
  intro m
  induction m with
  | zero =>
    intro i acc r hm hr
    refine r_ild cd_210_4 rfl rfl ?_
    refine r_aldR cd_210_5 rfl rfl ?_
    refine r_get cd_210_6 rfl hM rfl ?_
    refine r_con (v := 6) cd_210_9 rfl (by decide) ?_
    refine r_arr (i := 6) cd_210_11 rfl hw rfl (by omega) rfl ?_
    refine r_ic64 cd_210_12 rfl ⟨by omega, by omega⟩ (inR_of hI.pn (by decide) (by decide)) (fun n1 => ?_) (fun n1 => ?_)
    · exact absurd n1 (by omega)
    · refine r_ild cd_210_38 rfl rfl ?_
      exact r_ret cd_210_39 True.intro (rI hr)
  | succ m ih =>
    intro i acc r hm hr
    refine r_ild cd_210_4 rfl rfl ?_
    refine r_aldR cd_210_5 rfl rfl ?_
    refine r_get cd_210_6 rfl hM rfl ?_
    refine r_con (v := 6) cd_210_9 rfl (by decide) ?_
    refine r_arr (i := 6) cd_210_11 rfl hw rfl (by omega) rfl ?_
    refine r_ic64 cd_210_12 rfl ⟨by omega, by omega⟩ (inR_of hI.pn (by decide) (by decide)) (fun n1 => ?_) (fun n1 => ?_)
    · refine r_ild cd_210_15 rfl rfl ?_
      refine r_aldR cd_210_16 rfl rfl ?_
      refine r_ild cd_210_17 rfl rfl ?_
      refine r_ild cd_210_18 rfl rfl ?_
      refine r_cI (c_211 hM hw hI i b (by omega) (by omega)) cd_210_19 rfl rfl rfl (rc0 hM rfl) rfl rfl rfl ?_
      refine r_if51b cd_210_22 rfl (fun n2 => ?_) (fun n2 => ?_)
      · refine r_con (v := 0) cd_210_29 rfl (by decide) ?_
        refine r_add (v := acc + 0) cd_210_30 rfl (by rfl) ?_
        refine r_ist cd_210_31 rfl rfl (L' := [aR 226, aI ((b : Nat) : Int), aI (acc + 0), aI ((i : Nat) : Int)]) rfl ?_
        refine r_inc (v := ((i + 1 : Nat) : Int)) cd_210_32 rfl rfl rfl (by omega) (L' := [aR 226, aI ((b : Nat) : Int), aI (acc + 0), aI ((i + 1 : Nat) : Int)]) rfl ?_
        refine r_goto cd_210_35 ?_
        exact ih (i + 1) (acc + 0) r (by omega) (hr.trans (itF_step (by first | rfl | (simp [knotG, bz, n1, n2]; done) | (simp [knotG, bz, n1, n2]; omega))))
      · refine r_con (v := 1) cd_210_25 rfl (by decide) ?_
        refine r_goto cd_210_26 ?_
        refine r_add (v := acc + 1) cd_210_30 rfl (by rfl) ?_
        refine r_ist cd_210_31 rfl rfl (L' := [aR 226, aI ((b : Nat) : Int), aI (acc + 1), aI ((i : Nat) : Int)]) rfl ?_
        refine r_inc (v := ((i + 1 : Nat) : Int)) cd_210_32 rfl rfl rfl (by omega) (L' := [aR 226, aI ((b : Nat) : Int), aI (acc + 1), aI ((i + 1 : Nat) : Int)]) rfl ?_
        refine r_goto cd_210_35 ?_
        exact ih (i + 1) (acc + 1) r (by omega) (hr.trans (itF_step (by first | rfl | (simp [knotG, bz, n1, n2]; done) | (simp [knotG, bz, n1, n2]; omega))))
    · exact absurd n1 (by omega)
theorem c_210 {h : aH} {s w : Nat → Int} (hM : h.2.2 226 = .inr (8, Mo s)) (hw : h.2.2 227 = .inl (0, 211, .inl w)) (hI : Inv0 w) (b : Nat) (g0 : b < 8) : Ct 3 210 [aR 226, aI ((b : Nat) : Int)] h (.inl (some (aI (knots w b))), h) := by
  refine Ct.of [aR 226, aI ((b : Nat) : Int), aU, aU] rfl ?_
  have hbn := hI.bNe
  have hpn := hI.pNe
  have x0 := hI.len
  have x1 := hI.hour
  have x2 := hI.gas
  have x3 := hI.leak
  have x4 := hI.gn
  have x5 := hI.bn
  have x6 := hI.pn
  refine r_con (v := 0) cd_210_0 rfl (by decide) ?_
  refine r_ist cd_210_1 rfl rfl (L' := [aR 226, aI ((b : Nat) : Int), aI 0, aU]) rfl ?_
  refine r_con (v := 0) cd_210_2 rfl (by decide) ?_
  refine r_ist cd_210_3 rfl rfl (L' := [aR 226, aI ((b : Nat) : Int), aI 0, aI 0]) rfl ?_
  exact lp_210 hM hw hI b (by omega) (nP w) 0 0 _ (by omega) rfl
theorem c_212 {h : aH} {s w : Nat → Int} (hM : h.2.2 226 = .inr (8, Mo s)) (hw : h.2.2 227 = .inl (0, 211, .inl w)) (hI : Inv0 w) (b : Nat) (g0 : b < nB w) : Ct 4 212 [aR 226, aI ((b : Nat) : Int)] h (.inl (some (aI (spare w b))), h) := by
  refine Ct.of [aR 226, aI ((b : Nat) : Int)] rfl ?_
  have hbn := hI.bNe
  have hpn := hI.pNe
  have x0 := hI.len
  have x1 := hI.hour
  have x2 := hI.gas
  have x3 := hI.leak
  have x4 := hI.gn
  have x5 := hI.bn
  have x6 := hI.pn
  refine r_aldR cd_212_0 rfl rfl ?_
  refine r_ild cd_212_1 rfl rfl ?_
  refine r_con (v := 1) cd_212_2 rfl (by decide) ?_
  refine r_cI (c_209 hM hw b 1 (by omega)) cd_212_3 rfl rfl rfl (rc0 hM rfl) rfl rfl rfl ?_
  refine r_aldR cd_212_6 rfl rfl ?_
  refine r_ild cd_212_7 rfl rfl ?_
  refine r_cI (c_213 hM hw hI b (by omega)) cd_212_8 rfl rfl rfl (rc0 hM rfl) rfl rfl rfl ?_
  refine r_sub (v := (bo w b 1) - (loadOf w b)) cd_212_11 rfl (by rfl) ?_
  exact r_ret cd_212_12 True.intro (rI (by first | rfl | (simp [spare, bz]; done) | (simp [spare, bz]; omega) | (unfold spare; split <;> simp_all <;> omega)))
theorem c_373 {h : aH} (x : Int) (hx : inR x) (z : Int) (hz : inR z) : Ct 1 373 [aI x, aI z] h (.inl (some (aI (minI x z))), h) := by
  refine Ct.of [aI x, aI z] rfl ?_
  refine r_ild cd_373_0 rfl rfl ?_
  refine r_ild cd_373_1 rfl rfl ?_
  refine r_ic65 cd_373_2 rfl hx hz (fun n1 => ?_) (fun n1 => ?_)
  · refine r_ild cd_373_9 rfl rfl ?_
    exact r_ret cd_373_10 True.intro (rI (by first | rfl | (simp [minI, bz, n1]; done) | (simp [minI, bz, n1]; omega) | (unfold minI; split <;> simp_all <;> omega)))
  · refine r_ild cd_373_5 rfl rfl ?_
    refine r_goto cd_373_6 ?_
    exact r_ret cd_373_10 True.intro (rI (by first | rfl | (simp [minI, bz, n1]; done) | (simp [minI, bz, n1]; omega) | (unfold minI; split <;> simp_all <;> omega)))
theorem c_376 {h : aH} (x : Int) (hx : inR x) (z : Int) (hz : inR z) : Ct 1 376 [aI x, aI z] h (.inl (some (aI (maxI x z))), h) := by
  refine Ct.of [aI x, aI z] rfl ?_
  refine r_ild cd_376_0 rfl rfl ?_
  refine r_ild cd_376_1 rfl rfl ?_
  refine r_ic63 cd_376_2 rfl hx hz (fun n1 => ?_) (fun n1 => ?_)
  · refine r_ild cd_376_9 rfl rfl ?_
    exact r_ret cd_376_10 True.intro (rI (by first | rfl | (simp [maxI, bz, n1]; done) | (simp [maxI, bz, n1]; omega) | (unfold maxI; split <;> simp_all <;> omega)))
  · refine r_ild cd_376_5 rfl rfl ?_
    refine r_goto cd_376_6 ?_
    exact r_ret cd_376_10 True.intro (rI (by first | rfl | (simp [maxI, bz, n1]; done) | (simp [maxI, bz, n1]; omega) | (unfold maxI; split <;> simp_all <;> omega)))
theorem c_221 {h : aH} {s w : Nat → Int} (hM : h.2.2 226 = .inr (8, Mo s)) (hw : h.2.2 227 = .inl (0, 211, .inl w)) (hI : Inv0 w) (b : Nat) (g0 : b < nB w) : Ct 5 221 [aR 226, aI ((b : Nat) : Int)] h (.inl (some (aI (hOf w b))), h) := by
  refine Ct.of [aR 226, aI ((b : Nat) : Int)] rfl ?_
  have hbn := hI.bNe
  have hpn := hI.pNe
  have x0 := hI.len
  have x1 := hI.hour
  have x2 := hI.gas
  have x3 := hI.leak
  have x4 := hI.gn
  have x5 := hI.bn
  have x6 := hI.pn
  refine r_aldR cd_221_0 rfl rfl ?_
  refine r_ild cd_221_1 rfl rfl ?_
  refine r_con (v := 2) cd_221_2 rfl (by decide) ?_
  refine r_cI (c_209 hM hw b 2 (by omega)) cd_221_3 rfl rfl rfl (rc0 hM rfl) rfl rfl rfl ?_
  refine r_aldR cd_221_6 rfl rfl ?_
  refine r_ild cd_221_7 rfl rfl ?_
  refine r_cI (c_212 hM hw hI b (by omega)) cd_221_8 rfl rfl rfl (rc0 hM rfl) rfl rfl rfl ?_
  refine r_cI (c_373 (bo w b 2) (hI.boR (by omega) (by omega)) (spare w b) (inR_of (hI.spr (b := b) (by omega)) (by decide) (by decide))) cd_221_11 rfl rfl rfl True.intro rfl rfl rfl ?_
  exact r_ret cd_221_14 True.intro (rI (by first | rfl | (simp [hOf, bz]; done) | (simp [hOf, bz]; omega) | (unfold hOf; split <;> simp_all <;> omega)))
theorem lp_202 {h : aH} {s w : Nat → Int} (hM : h.2.2 226 = .inr (8, Mo s)) (hw : h.2.2 227 = .inl (0, 211, .inl w)) (hI : Inv0 w) (x : Int) (hx : inR x)  : ∀ (m i : Nat) (r : Int), i + m = nP w → r = fiF (numF w x) i m → RU 2 202 (.inl (some (aI r)), h) (2, [aR 226, aI x, aI ((i : Nat) : Int)], [], 0, 0, h) := by
  have hbn := hI.bNe
  have hpn := hI.pNe
  have x0 := hI.len
  have x1 := hI.hour
  have x2 := hI.gas
  have x3 := hI.leak
  have x4 := hI.gn
  have x5 := hI.bn
  have x6 := hI.pn
  intro m
  induction m with
  | zero =>
    intro i r hm hr
    refine r_ild cd_202_2 rfl rfl ?_
    refine r_aldR cd_202_3 rfl rfl ?_
    refine r_get cd_202_4 rfl hM rfl ?_
    refine r_con (v := 6) cd_202_7 rfl (by decide) ?_
    refine r_arr (i := 6) cd_202_9 rfl hw rfl (by omega) rfl ?_
    refine r_ic64 cd_202_10 rfl ⟨by omega, by omega⟩ (inR_of hI.pn (by decide) (by decide)) (fun n1 => ?_) (fun n1 => ?_)
    · exact absurd n1 (by omega)
    · refine r_con (v := (-1)) cd_202_41 rfl (by decide) ?_
      exact r_ret cd_202_42 True.intro (rI hr)
  | succ m ih =>
    intro i r hm hr
    refine r_ild cd_202_2 rfl rfl ?_
    refine r_aldR cd_202_3 rfl rfl ?_
    refine r_get cd_202_4 rfl hM rfl ?_
    refine r_con (v := 6) cd_202_7 rfl (by decide) ?_
    refine r_arr (i := 6) cd_202_9 rfl hw rfl (by omega) rfl ?_
    refine r_ic64 cd_202_10 rfl ⟨by omega, by omega⟩ (inR_of hI.pn (by decide) (by decide)) (fun n1 => ?_) (fun n1 => ?_)
    · refine r_aldR cd_202_13 rfl rfl ?_
      refine r_ild cd_202_14 rfl rfl ?_
      refine r_con (v := 4) cd_202_15 rfl (by decide) ?_
      refine r_cI (c_203 hM hw i 4 (by omega)) cd_202_16 rfl rfl rfl (rc0 hM rfl) rfl rfl rfl ?_
      refine r_con (v := 2) cd_202_19 rfl (by decide) ?_
      refine r_ic61 cd_202_20 rfl (hI.paR (by omega) (by omega)) ⟨by omega, by omega⟩ (fun n2 => ?_) (fun n2 => ?_)
      · refine r_inc (v := ((i + 1 : Nat) : Int)) cd_202_35 rfl rfl rfl (by omega) (L' := [aR 226, aI x, aI ((i + 1 : Nat) : Int)]) rfl ?_
        refine r_goto cd_202_38 ?_
        exact ih (i + 1) r (by omega) (hr.trans (fiF_n (by first | rfl | (simp [numF, bz, n1, n2]; done))))
      · refine r_aldR cd_202_23 rfl rfl ?_
        refine r_ild cd_202_24 rfl rfl ?_
        refine r_con (v := 3) cd_202_25 rfl (by decide) ?_
        refine r_cI (c_203 hM hw i 3 (by omega)) cd_202_26 rfl rfl rfl (rc0 hM rfl) rfl rfl rfl ?_
        refine r_ild cd_202_29 rfl rfl ?_
        refine r_ic62 cd_202_30 rfl (hI.paR (by omega) (by omega)) hx (fun n3 => ?_) (fun n3 => ?_)
        · refine r_ild cd_202_33 rfl rfl ?_
          exact r_ret cd_202_34 True.intro (rI (hr.trans (fiF_y (by first | rfl | (simp [numF, bz, n1, n2, n3]; done)))))
        · refine r_inc (v := ((i + 1 : Nat) : Int)) cd_202_35 rfl rfl rfl (by omega) (L' := [aR 226, aI x, aI ((i + 1 : Nat) : Int)]) rfl ?_
          refine r_goto cd_202_38 ?_
          exact ih (i + 1) r (by omega) (hr.trans (fiF_n (by first | rfl | (simp [numF, bz, n1, n2, n3]; done))))
    · exact absurd n1 (by omega)
theorem c_202 {h : aH} {s w : Nat → Int} (hM : h.2.2 226 = .inr (8, Mo s)) (hw : h.2.2 227 = .inl (0, 211, .inl w)) (hI : Inv0 w) (x : Int) (hx : inR x) : Ct 2 202 [aR 226, aI x] h (.inl (some (aI (numbd w x))), h) := by
  refine Ct.of [aR 226, aI x, aU] rfl ?_
  have hbn := hI.bNe
  have hpn := hI.pNe
  have x0 := hI.len
  have x1 := hI.hour
  have x2 := hI.gas
  have x3 := hI.leak
  have x4 := hI.gn
  have x5 := hI.bn
  have x6 := hI.pn
  refine r_con (v := 0) cd_202_0 rfl (by decide) ?_
  refine r_ist cd_202_1 rfl rfl (L' := [aR 226, aI x, aI 0]) rfl ?_
  exact lp_202 hM hw hI x hx (nP w) 0 _ (by omega) rfl
