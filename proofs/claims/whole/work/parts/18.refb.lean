/-! THE REFERENCE: further readers, writers (written by wip/whole/gen18.py) -/
theorem c_242 {h : aH} {s w : Nat → Int} (hM : h.2.2 226 = .inr (8, Mo s)) (hw : h.2.2 227 = .inl (0, 211, .inl w)) (hI : Inv0 w) (x : Int) (hx : inR x) (g0 : 0 ≤ x) : Ct 1 242 [aR 226, aI x] h (.inl (some (aI (gustI w x))), h) := by
  refine Ct.of [aR 226, aI x] rfl ?_
  have hbn := hI.bNe
  have hpn := hI.pNe
  have x0 := hI.len
  have x1 := hI.hour
  have x2 := hI.gas
  have x3 := hI.leak
  have x4 := hI.gn
  have x5 := hI.bn
  have x6 := hI.pn
  have hx1 := hx.1
  have hx2 := hx.2
  refine r_aldR cd_242_0 rfl rfl ?_
  refine r_get cd_242_1 rfl hM rfl ?_
  refine r_con (v := 4) cd_242_4 rfl (by decide) ?_
  refine r_arr (i := 4) cd_242_5 rfl hw rfl (by omega) rfl ?_
  refine r_if52 cd_242_6 rfl (inR_of hI.gn (by decide) (by decide)) (fun n1 => ?_) (fun n1 => ?_)
  · refine r_con (v := 0) cd_242_9 rfl (by decide) ?_
    refine r_goto cd_242_10 ?_
    exact r_ret cd_242_29 True.intro (rI (by first | rfl | (simp [gustI, bz, n1]; done) | (simp [gustI, bz, n1]; omega) | (unfold gustI; split <;> simp_all <;> omega)))
  · refine r_aldR cd_242_13 rfl rfl ?_
    refine r_get cd_242_14 rfl hM rfl ?_
    refine r_con (v := 11) cd_242_17 rfl (by decide) ?_
    refine r_ild cd_242_19 rfl rfl ?_
    refine r_aldR cd_242_20 rfl rfl ?_
    refine r_get cd_242_21 rfl hM rfl ?_
    refine r_con (v := 4) cd_242_24 rfl (by decide) ?_
    refine r_arr (i := 4) cd_242_25 rfl hw rfl (by omega) rfl ?_
    refine r_rem cd_242_26 rfl (by omega) (by omega) (by omega) (by omega) ?_
    refine r_add (v := ((11 + (x % (w 4)).toNat : Nat) : Int)) cd_242_27 rfl (by have := Int.emod_nonneg x (show w 4 ≠ 0 by omega); omega) ?_
    refine r_arr (i := 11 + (x % (w 4)).toNat) cd_242_28 rfl hw rfl (by have := Int.emod_lt_of_pos x (show 0 < w 4 by omega); have := Int.emod_nonneg x (show w 4 ≠ 0 by omega); omega) rfl ?_
    exact r_ret cd_242_29 True.intro (rI (by first | rfl | (simp [gustI, bz, n1]; done) | (simp [gustI, bz, n1]; omega) | (unfold gustI; split <;> simp_all <;> omega)))
theorem c_238 {h : aH} {s w : Nat → Int} (hM : h.2.2 226 = .inr (8, Mo s)) (hw : h.2.2 227 = .inl (0, 211, .inl w)) (hI : Inv0 w) (p : Nat) (g0 : p < nP w) : Ct 2 238 [aR 226, aI ((p : Nat) : Int)] h (.inl (some (aI (fareP w p))), h) := by
  refine Ct.of [aR 226, aI ((p : Nat) : Int)] rfl ?_
  have hbn := hI.bNe
  have hpn := hI.pNe
  have x0 := hI.len
  have x1 := hI.hour
  have x2 := hI.gas
  have x3 := hI.leak
  have x4 := hI.gn
  have x5 := hI.bn
  have x6 := hI.pn
  have hp0 := hI.ps p (by omega)
  refine r_aldR cd_238_0 rfl rfl ?_
  refine r_ild cd_238_1 rfl rfl ?_
  refine r_con (v := 0) cd_238_2 rfl (by decide) ?_
  refine r_cI (c_203 hM hw p 0 (by omega)) cd_238_3 rfl rfl rfl (rc0 hM rfl) rfl rfl rfl ?_
  refine r_aldR cd_238_6 rfl rfl ?_
  refine r_ild cd_238_7 rfl rfl ?_
  refine r_con (v := 1) cd_238_8 rfl (by decide) ?_
  refine r_cI (c_203 hM hw p 1 (by omega)) cd_238_9 rfl rfl rfl (rc0 hM rfl) rfl rfl rfl ?_
  refine r_aldR cd_238_12 rfl rfl ?_
  refine r_ild cd_238_13 rfl rfl ?_
  refine r_con (v := 2) cd_238_14 rfl (by decide) ?_
  refine r_cI (c_203 hM hw p 2 (by omega)) cd_238_15 rfl rfl rfl (rc0 hM rfl) rfl rfl rfl ?_
  refine r_sub (v := (pa w p 1) - (pa w p 2)) cd_238_18 rfl (by rfl) ?_
  refine r_cI (c_239 ((pa w p 1) - (pa w p 2)) ⟨by omega, by omega⟩) cd_238_19 rfl rfl rfl True.intro rfl rfl rfl ?_
  refine r_mul (v := (pa w p 0) * (absI ((pa w p 1) - (pa w p 2)))) cd_238_22 rfl (by rfl) ?_
  exact r_ret cd_238_23 True.intro (rI rfl)
theorem c_305 {h : aH} {s w : Nat → Int} (hM : h.2.2 226 = .inr (8, Mo s)) (hw : h.2.2 227 = .inl (0, 211, .inl w)) (hI : Inv0 w) (p : Nat) (g0 : p < nP w) : Ct 2 305 [aR 226, aI ((p : Nat) : Int)] h (.inl (some (aI (plOf w p))), h) := by
  refine Ct.of [aR 226, aI ((p : Nat) : Int)] rfl ?_
  have hbn := hI.bNe
  have hpn := hI.pNe
  have x0 := hI.len
  have x1 := hI.hour
  have x2 := hI.gas
  have x3 := hI.leak
  have x4 := hI.gn
  have x5 := hI.bn
  have x6 := hI.pn
  have hp0 := hI.ps p (by omega)
  refine r_aldR cd_305_0 rfl rfl ?_
  refine r_ild cd_305_1 rfl rfl ?_
  refine r_con (v := 4) cd_305_2 rfl (by decide) ?_
  refine r_cI (c_203 hM hw p 4 (by omega)) cd_305_3 rfl rfl rfl (rc0 hM rfl) rfl rfl rfl ?_
  refine r_if52 cd_305_6 rfl (hI.paR (by omega) (by omega)) (fun n1 => ?_) (fun n1 => ?_)
  · refine r_aldR cd_305_9 rfl rfl ?_
    refine r_ild cd_305_10 rfl rfl ?_
    refine r_con (v := 5) cd_305_11 rfl (by decide) ?_
    refine r_cI (c_203 hM hw p 5 (by omega)) cd_305_12 rfl rfl rfl (rc0 hM rfl) rfl rfl rfl ?_
    refine r_goto cd_305_15 ?_
    exact r_ret cd_305_43 True.intro (rI (by first | rfl | (simp [plOf, bz, n1]; done) | (simp [plOf, bz, n1]; omega) | (unfold plOf; split <;> simp_all <;> omega)))
  · refine r_aldR cd_305_18 rfl rfl ?_
    refine r_ild cd_305_19 rfl rfl ?_
    refine r_con (v := 4) cd_305_20 rfl (by decide) ?_
    refine r_cI (c_203 hM hw p 4 (by omega)) cd_305_21 rfl rfl rfl (rc0 hM rfl) rfl rfl rfl ?_
    refine r_con (v := 1) cd_305_24 rfl (by decide) ?_
    refine r_ic62 cd_305_25 rfl (hI.paR (by omega) (by omega)) ⟨by omega, by omega⟩ (fun n2 => ?_) (fun n2 => ?_)
    · refine r_aldR cd_305_28 rfl rfl ?_
      refine r_aldR cd_305_29 rfl rfl ?_
      refine r_ild cd_305_30 rfl rfl ?_
      refine r_con (v := 5) cd_305_31 rfl (by decide) ?_
      refine r_cI (c_203 hM hw p 5 (by omega)) cd_305_32 rfl rfl rfl (rc0 hM rfl) rfl rfl rfl ?_
      obtain ⟨q, hq⟩ : ∃ q : Nat, pa w p 5 = (q : Int) := ⟨(pa w p 5).toNat, by omega⟩
      rw [hq]
      refine r_con (v := 0) cd_305_35 rfl (by decide) ?_
      refine r_cI (c_209 hM hw q 0 (by omega)) cd_305_36 rfl rfl rfl (rc0 hM rfl) rfl rfl rfl ?_
      refine r_goto cd_305_39 ?_
      exact r_ret cd_305_43 True.intro (rI (by first | rfl | (simp [plOf, bz, n1, n2, hq]; done) | (simp [plOf, bz, n1, n2, hq]; omega) | (unfold plOf; split <;> simp_all <;> omega)))
    · refine r_con (v := (-1)) cd_305_42 rfl (by decide) ?_
      exact r_ret cd_305_43 True.intro (rI (by first | rfl | (simp [plOf, bz, n1, n2]; done) | (simp [plOf, bz, n1, n2]; omega) | (unfold plOf; split <;> simp_all <;> omega)))
theorem c_235 {h : aH} {s w : Nat → Int} (hM : h.2.2 226 = .inr (8, Mo s)) (hw : h.2.2 227 = .inl (0, 211, .inl w)) (hI : Inv0 w) (x : Int) (hx : inR x) (z : Int) (hz : inR z) : Ct 3 235 [aR 226, aI x, aI z] h (.inl (some (aI (foundP w x z))), h) := by
  refine Ct.of [aR 226, aI x, aI z, aU] rfl ?_
  have hbn := hI.bNe
  have hpn := hI.pNe
  have x0 := hI.len
  have x1 := hI.hour
  have x2 := hI.gas
  have x3 := hI.leak
  have x4 := hI.gn
  have x5 := hI.bn
  have x6 := hI.pn
  have hnb := numbd_b (w := w) z
  refine r_aldR cd_235_0 rfl rfl ?_
  refine r_ild cd_235_1 rfl rfl ?_
  refine r_cI (c_202 hM hw hI z hz) cd_235_2 rfl rfl rfl (rc0 hM rfl) rfl rfl rfl ?_
  refine r_ist cd_235_5 rfl rfl (L' := [aR 226, aI x, aI z, aI (numbd w z)]) rfl ?_
  refine r_ild cd_235_6 rfl rfl ?_
  refine r_con (v := (-1)) cd_235_7 rfl (by decide) ?_
  refine r_ic61 cd_235_8 rfl ⟨by omega, by omega⟩ ⟨by omega, by omega⟩ (fun n1 => ?_) (fun n1 => ?_)
  · refine r_con (v := (-1)) cd_235_24 rfl (by decide) ?_
    exact r_ret cd_235_25 True.intro (rI (by first | (simp [foundP, bz, n1]; done) | (simp [foundP, bz, n1]; omega) | (unfold foundP; rw [if_pos n1])))
  · obtain ⟨q, hq⟩ : ∃ q : Nat, numbd w z = (q : Int) := ⟨(numbd w z).toNat, by omega⟩
    rw [hq]
    refine r_aldR cd_235_11 rfl rfl ?_
    refine r_ild cd_235_12 rfl rfl ?_
    refine r_ild cd_235_13 rfl rfl ?_
    refine r_cI (c_236 hM hw hI q x hx (by omega)) cd_235_14 rfl rfl rfl (rc0 hM rfl) rfl rfl rfl ?_
    refine r_if51b cd_235_17 rfl (fun n2 => ?_) (fun n2 => ?_)
    · refine r_con (v := (-1)) cd_235_24 rfl (by decide) ?_
      exact r_ret cd_235_25 True.intro (rI (by first | (simp [foundP, bz, n1, hq, n2]; done) | (simp [foundP, bz, n1, hq, n2]; omega) | (unfold foundP; rw [if_pos n1])))
    · refine r_ild cd_235_20 rfl rfl ?_
      refine r_goto cd_235_21 ?_
      exact r_ret cd_235_25 True.intro (rI (by first | (simp [foundP, bz, n1, hq, n2]; done) | (simp [foundP, bz, n1, hq, n2]; omega) | (unfold foundP; rw [if_pos n1])))
theorem c_208 {h : aH} {s w : Nat → Int} (hM : h.2.2 226 = .inr (8, Mo s)) (hw : h.2.2 227 = .inl (0, 211, .inl w)) (hI : Inv0 w) (p : Nat) (b : Nat) (g0 : p < nP w) (g1 : b < nB w) : Ct 5 208 [aR 226, aI ((p : Nat) : Int), aI ((b : Nat) : Int)] h (.inl (some (aI (whyT w p b))), h) := by
  refine Ct.of [aR 226, aI ((p : Nat) : Int), aI ((b : Nat) : Int)] rfl ?_
  have hbn := hI.bNe
  have hpn := hI.pNe
  have x0 := hI.len
  have x1 := hI.hour
  have x2 := hI.gas
  have x3 := hI.leak
  have x4 := hI.gn
  have x5 := hI.bn
  have x6 := hI.pn
  refine r_aldR cd_208_0 rfl rfl ?_
  refine r_ild cd_208_1 rfl rfl ?_
  refine r_con (v := 4) cd_208_2 rfl (by decide) ?_
  refine r_cI (c_203 hM hw p 4 (by omega)) cd_208_3 rfl rfl rfl (rc0 hM rfl) rfl rfl rfl ?_
  refine r_if51 cd_208_6 rfl (hI.paR (by omega) (by omega)) (fun n1 => ?_) (fun n1 => ?_)
  · refine r_aldR cd_208_11 rfl rfl ?_
    refine r_ild cd_208_12 rfl rfl ?_
    refine r_con (v := 3) cd_208_13 rfl (by decide) ?_
    refine r_cI (c_209 hM hw b 3 (by omega)) cd_208_14 rfl rfl rfl (rc0 hM rfl) rfl rfl rfl ?_
    refine r_if51 cd_208_17 rfl (hI.boR (by omega) (by omega)) (fun n2 => ?_) (fun n2 => ?_)
    · refine r_aldR cd_208_22 rfl rfl ?_
      refine r_ild cd_208_23 rfl rfl ?_
      refine r_con (v := 5) cd_208_24 rfl (by decide) ?_
      refine r_cI (c_203 hM hw p 5 (by omega)) cd_208_25 rfl rfl rfl (rc0 hM rfl) rfl rfl rfl ?_
      refine r_aldR cd_208_28 rfl rfl ?_
      refine r_ild cd_208_29 rfl rfl ?_
      refine r_con (v := 0) cd_208_30 rfl (by decide) ?_
      refine r_cI (c_209 hM hw b 0 (by omega)) cd_208_31 rfl rfl rfl (rc0 hM rfl) rfl rfl rfl ?_
      refine r_ic61 cd_208_34 rfl (hI.paR (by omega) (by omega)) (hI.boR (by omega) (by omega)) (fun n3 => ?_) (fun n3 => ?_)
      · refine r_aldR cd_208_39 rfl rfl ?_
        refine r_ild cd_208_40 rfl rfl ?_
        refine r_cI (c_210 hM hw hI b (by omega)) cd_208_41 rfl rfl rfl (rc0 hM rfl) rfl rfl rfl ?_
        refine r_con (v := 4) cd_208_44 rfl (by decide) ?_
        refine r_ic62 cd_208_45 rfl (inR_of (hI.knot b) (by decide) (by decide)) ⟨by omega, by omega⟩ (fun n4 => ?_) (fun n4 => ?_)
        · refine r_con (v := 4) cd_208_48 rfl (by decide) ?_
          exact r_ret cd_208_49 True.intro (rI (by first | rfl | (simp [whyT, bz, n1, n2, n3, n4]; done) | (simp [whyT, bz, n1, n2, n3, n4]; omega) | (unfold whyT; split <;> simp_all <;> omega)))
        · refine r_aldR cd_208_50 rfl rfl ?_
          refine r_ild cd_208_51 rfl rfl ?_
          refine r_con (v := 0) cd_208_52 rfl (by decide) ?_
          refine r_cI (c_203 hM hw p 0 (by omega)) cd_208_53 rfl rfl rfl (rc0 hM rfl) rfl rfl rfl ?_
          refine r_aldR cd_208_56 rfl rfl ?_
          refine r_ild cd_208_57 rfl rfl ?_
          refine r_cI (c_212 hM hw hI b (by omega)) cd_208_58 rfl rfl rfl (rc0 hM rfl) rfl rfl rfl ?_
          refine r_ic63 cd_208_61 rfl (hI.paR (by omega) (by omega)) (inR_of (hI.spr (b := b) (by omega)) (by decide) (by decide)) (fun n5 => ?_) (fun n5 => ?_)
          · refine r_con (v := 0) cd_208_68 rfl (by decide) ?_
            exact r_ret cd_208_69 True.intro (rI (by first | rfl | (simp [whyT, bz, n1, n2, n3, n4, n5]; done) | (simp [whyT, bz, n1, n2, n3, n4, n5]; omega) | (unfold whyT; split <;> simp_all <;> omega)))
          · refine r_con (v := 5) cd_208_64 rfl (by decide) ?_
            refine r_goto cd_208_65 ?_
            exact r_ret cd_208_69 True.intro (rI (by first | rfl | (simp [whyT, bz, n1, n2, n3, n4, n5]; done) | (simp [whyT, bz, n1, n2, n3, n4, n5]; omega) | (unfold whyT; split <;> simp_all <;> omega)))
      · refine r_con (v := 3) cd_208_37 rfl (by decide) ?_
        exact r_ret cd_208_38 True.intro (rI (by first | rfl | (simp [whyT, bz, n1, n2, n3]; done) | (simp [whyT, bz, n1, n2, n3]; omega) | (unfold whyT; split <;> simp_all <;> omega)))
    · refine r_con (v := 2) cd_208_20 rfl (by decide) ?_
      exact r_ret cd_208_21 True.intro (rI (by first | rfl | (simp [whyT, bz, n1, n2]; done) | (simp [whyT, bz, n1, n2]; omega) | (unfold whyT; split <;> simp_all <;> omega)))
  · refine r_con (v := 1) cd_208_9 rfl (by decide) ?_
    exact r_ret cd_208_10 True.intro (rI (by first | rfl | (simp [whyT, bz, n1]; done) | (simp [whyT, bz, n1]; omega) | (unfold whyT; split <;> simp_all <;> omega)))
theorem c_220 {h : aH} {s w : Nat → Int} (hM : h.2.2 226 = .inr (8, Mo s)) (hw : h.2.2 227 = .inl (0, 211, .inl w)) (hI : Inv0 w) (b : Nat) (g0 : b < nB w) : Ct 6 220 [aR 226, aI ((b : Nat) : Int)] h (.inl (some (aI (whyL w b))), h) := by
  refine Ct.of [aR 226, aI ((b : Nat) : Int)] rfl ?_
  have hbn := hI.bNe
  have hpn := hI.pNe
  have x0 := hI.len
  have x1 := hI.hour
  have x2 := hI.gas
  have x3 := hI.leak
  have x4 := hI.gn
  have x5 := hI.bn
  have x6 := hI.pn
  have hb0 := hI.bs b (by omega)
  refine r_aldR cd_220_0 rfl rfl ?_
  refine r_ild cd_220_1 rfl rfl ?_
  refine r_con (v := 3) cd_220_2 rfl (by decide) ?_
  refine r_cI (c_209 hM hw b 3 (by omega)) cd_220_3 rfl rfl rfl (rc0 hM rfl) rfl rfl rfl ?_
  refine r_if51 cd_220_6 rfl (hI.boR (by omega) (by omega)) (fun n1 => ?_) (fun n1 => ?_)
  · refine r_aldR cd_220_11 rfl rfl ?_
    refine r_get cd_220_12 rfl hM rfl ?_
    refine r_con (v := 53) cd_220_15 rfl (by decide) ?_
    refine r_aldR cd_220_17 rfl rfl ?_
    refine r_ild cd_220_18 rfl rfl ?_
    refine r_con (v := 0) cd_220_19 rfl (by decide) ?_
    refine r_cI (c_209 hM hw b 0 (by omega)) cd_220_20 rfl rfl rfl (rc0 hM rfl) rfl rfl rfl ?_
    refine r_add (v := ((53 + (bo w b 0).toNat : Nat) : Int)) cd_220_23 rfl (by omega) ?_
    refine r_arr (i := 53 + (bo w b 0).toNat) cd_220_24 rfl hw rfl (by omega) rfl ?_
    refine r_aldR cd_220_25 rfl rfl ?_
    refine r_ild cd_220_26 rfl rfl ?_
    refine r_cI (c_221 hM hw hI b (by omega)) cd_220_27 rfl rfl rfl (rc0 hM rfl) rfl rfl rfl ?_
    refine r_ic63 cd_220_30 rfl (inR_of (hI.trees _ (by omega)) (by decide) (by decide)) (inR_of (hI.hgt (b := b) (by omega)) (by decide) (by decide)) (fun n2 => ?_) (fun n2 => ?_)
    · refine r_con (v := 0) cd_220_38 rfl (by decide) ?_
      exact r_ret cd_220_39 True.intro (rI (by first | rfl | (simp [whyL, bz, n1, n2]; done) | (simp [whyL, bz, n1, n2]; omega) | (unfold whyL; split <;> simp_all <;> omega)))
    · refine r_con (v := 6) cd_220_33 rfl (by decide) ?_
      refine r_goto cd_220_35 ?_
      exact r_ret cd_220_39 True.intro (rI (by first | rfl | (simp [whyL, bz, n1, n2]; done) | (simp [whyL, bz, n1, n2]; omega) | (unfold whyL; split <;> simp_all <;> omega)))
  · refine r_con (v := 2) cd_220_9 rfl (by decide) ?_
    exact r_ret cd_220_10 True.intro (rI (by first | rfl | (simp [whyL, bz, n1]; done) | (simp [whyL, bz, n1]; omega) | (unfold whyL; split <;> simp_all <;> omega)))
theorem c_217 {h : aH} {s w : Nat → Int} (hM : h.2.2 226 = .inr (8, Mo s)) (hw : h.2.2 227 = .inl (0, 211, .inl w)) (hI : Inv0 w) (p : Nat) (g0 : p < nP w) : Ct 2 217 [aR 226, aI ((p : Nat) : Int)] h (.inl (some (aI (bz (decide (pa w p 4 = 1) && decide (bo w (pa w p 5).toNat 3 = 0))))), h) := by
  refine Ct.of [aR 226, aI ((p : Nat) : Int)] rfl ?_
  have hbn := hI.bNe
  have hpn := hI.pNe
  have x0 := hI.len
  have x1 := hI.hour
  have x2 := hI.gas
  have x3 := hI.leak
  have x4 := hI.gn
  have x5 := hI.bn
  have x6 := hI.pn
  have hp0 := hI.ps p (by omega)
  refine r_aldR cd_217_0 rfl rfl ?_
  refine r_ild cd_217_1 rfl rfl ?_
  refine r_con (v := 4) cd_217_2 rfl (by decide) ?_
  refine r_cI (c_203 hM hw p 4 (by omega)) cd_217_3 rfl rfl rfl (rc0 hM rfl) rfl rfl rfl ?_
  refine r_con (v := 1) cd_217_6 rfl (by decide) ?_
  refine r_ic62 cd_217_7 rfl (hI.paR (by omega) (by omega)) ⟨by omega, by omega⟩ (fun n1 => ?_) (fun n1 => ?_)
  · refine r_aldR cd_217_10 rfl rfl ?_
    refine r_aldR cd_217_11 rfl rfl ?_
    refine r_ild cd_217_12 rfl rfl ?_
    refine r_con (v := 5) cd_217_13 rfl (by decide) ?_
    refine r_cI (c_203 hM hw p 5 (by omega)) cd_217_14 rfl rfl rfl (rc0 hM rfl) rfl rfl rfl ?_
    obtain ⟨q, hq⟩ : ∃ q : Nat, pa w p 5 = (q : Int) := ⟨(pa w p 5).toNat, by omega⟩
    rw [hq]
    refine r_con (v := 3) cd_217_17 rfl (by decide) ?_
    refine r_cI (c_209 hM hw q 3 (by omega)) cd_217_18 rfl rfl rfl (rc0 hM rfl) rfl rfl rfl ?_
    refine r_if52 cd_217_21 rfl (hI.boR (by omega) (by omega)) (fun n2 => ?_) (fun n2 => ?_)
    · refine r_con (v := 1) cd_217_24 rfl (by decide) ?_
      refine r_goto cd_217_25 ?_
      exact r_ret cd_217_29 (Or.inr rfl) (rB (by first | rfl | (simp [bz, n1, hq, n2]; done) | (simp [bz, n1, hq, n2]; omega) | (exact bz_t (by simp only [Bool.and_eq_true, Bool.or_eq_true, Bool.not_eq_true', decide_eq_true_eq, decide_eq_false_iff_not]; omega))))
    · refine r_con (v := 0) cd_217_28 rfl (by decide) ?_
      exact r_ret cd_217_29 (Or.inl rfl) (rB (by first | rfl | (simp [bz, n1, hq, n2]; done) | (simp [bz, n1, hq, n2]; omega) | (exact bz_f (by simp only [Bool.and_eq_true, Bool.or_eq_true, Bool.not_eq_true', decide_eq_true_eq, decide_eq_false_iff_not]; omega))))
  · refine r_con (v := 0) cd_217_28 rfl (by decide) ?_
    exact r_ret cd_217_29 (Or.inl rfl) (rB (by first | rfl | (simp [bz, n1]; done) | (simp [bz, n1]; omega) | (exact bz_f (by simp only [Bool.and_eq_true, Bool.or_eq_true, Bool.not_eq_true', decide_eq_true_eq, decide_eq_false_iff_not]; omega))))
theorem c_231 {h : aH} {s w : Nat → Int} (hM : h.2.2 226 = .inr (8, Mo s)) (hw : h.2.2 227 = .inl (0, 211, .inl w)) (hI : Inv0 w) (b : Nat) (x : Int) (hx : inR x) (g0 : b < nB w) (g1 : 0 ≤ x) (g2 : x ≤ 100) : Ct 2 231 [aR 226, aI ((b : Nat) : Int), aI x] h (.inl (some (aI (bz (canF w b x)))), h) := by
  refine Ct.of [aR 226, aI ((b : Nat) : Int), aI x] rfl ?_
  have hbn := hI.bNe
  have hpn := hI.pNe
  have x0 := hI.len
  have x1 := hI.hour
  have x2 := hI.gas
  have x3 := hI.leak
  have x4 := hI.gn
  have x5 := hI.bn
  have x6 := hI.pn
  have hb0 := hI.bs b (by omega)
  refine r_aldR cd_231_0 rfl rfl ?_
  refine r_ild cd_231_1 rfl rfl ?_
  refine r_con (v := 3) cd_231_2 rfl (by decide) ?_
  refine r_cI (c_209 hM hw b 3 (by omega)) cd_231_3 rfl rfl rfl (rc0 hM rfl) rfl rfl rfl ?_
  refine r_if52 cd_231_6 rfl (hI.boR (by omega) (by omega)) (fun n1 => ?_) (fun n1 => ?_)
  · refine r_aldR cd_231_9 rfl rfl ?_
    refine r_get cd_231_10 rfl hM rfl ?_
    refine r_con (v := 2) cd_231_13 rfl (by decide) ?_
    refine r_arr (i := 2) cd_231_14 rfl hw rfl (by omega) rfl ?_
    refine r_ild cd_231_15 rfl rfl ?_
    refine r_ic63 cd_231_16 rfl (inR_of hI.gas (by decide) (by decide)) hx (fun n2 => ?_) (fun n2 => ?_)
    · refine r_con (v := 0) cd_231_36 rfl (by decide) ?_
      exact r_ret cd_231_37 (Or.inl rfl) (rB (by first | rfl | (simp [canF, bz, n1, n2]; done) | (simp [canF, bz, n1, n2]; omega) | (exact bz_f (by simp only [canF, Bool.and_eq_true, Bool.or_eq_true, Bool.not_eq_true', decide_eq_true_eq, decide_eq_false_iff_not]; omega))))
    · refine r_aldR cd_231_19 rfl rfl ?_
      refine r_ild cd_231_20 rfl rfl ?_
      refine r_con (v := 1) cd_231_21 rfl (by decide) ?_
      refine r_cI (c_209 hM hw b 1 (by omega)) cd_231_22 rfl rfl rfl (rc0 hM rfl) rfl rfl rfl ?_
      refine r_ild cd_231_25 rfl rfl ?_
      refine r_add (v := (bo w b 1) + x) cd_231_26 rfl (by rfl) ?_
      refine r_con (v := 30) cd_231_27 rfl (by decide) ?_
      refine r_ic65 cd_231_29 rfl ⟨by omega, by omega⟩ ⟨by omega, by omega⟩ (fun n3 => ?_) (fun n3 => ?_)
      · refine r_con (v := 0) cd_231_36 rfl (by decide) ?_
        exact r_ret cd_231_37 (Or.inl rfl) (rB (by first | rfl | (simp [canF, bz, n1, n2, n3]; done) | (simp [canF, bz, n1, n2, n3]; omega) | (exact bz_f (by simp only [canF, Bool.and_eq_true, Bool.or_eq_true, Bool.not_eq_true', decide_eq_true_eq, decide_eq_false_iff_not]; omega))))
      · refine r_con (v := 1) cd_231_32 rfl (by decide) ?_
        refine r_goto cd_231_33 ?_
        exact r_ret cd_231_37 (Or.inr rfl) (rB (by first | rfl | (simp [canF, bz, n1, n2, n3]; done) | (simp [canF, bz, n1, n2, n3]; omega) | (exact bz_t (by simp only [canF, Bool.and_eq_true, Bool.or_eq_true, Bool.not_eq_true', decide_eq_true_eq, decide_eq_false_iff_not]; omega))))
  · refine r_con (v := 0) cd_231_36 rfl (by decide) ?_
    exact r_ret cd_231_37 (Or.inl rfl) (rB (by first | rfl | (simp [canF, bz, n1]; done) | (simp [canF, bz, n1]; omega) | (exact bz_f (by simp only [canF, Bool.and_eq_true, Bool.or_eq_true, Bool.not_eq_true', decide_eq_true_eq, decide_eq_false_iff_not]; omega))))
theorem c_200 {h : aH} {s w : Nat → Int} (hM : h.2.2 226 = .inr (8, Mo s)) (hw : h.2.2 227 = .inl (0, 211, .inl w)) (b : Nat) (k : Nat) (x : Int) (g0 : 83 + 4 * b + k < 211) : Ct 1 200 [aR 226, aI ((b : Nat) : Int), aI ((k : Nat) : Int), aI x] h (.inl (none), sw h 227 (.inl (0, 211, .inl (sbo w b k x)))) := by
  refine Ct.of [aR 226, aI ((b : Nat) : Int), aI ((k : Nat) : Int), aI x] rfl ?_
  refine r_aldR cd_200_0 rfl rfl ?_
  refine r_get cd_200_1 rfl hM rfl ?_
  refine r_con (v := 83) cd_200_4 rfl (by decide) ?_
  refine r_con (v := 4) cd_200_6 rfl (by decide) ?_
  refine r_ild cd_200_7 rfl rfl ?_
  refine r_mul (v := ((4 * b : Nat) : Int)) cd_200_8 rfl (by omega) ?_
  refine r_add (v := ((83 + 4 * b : Nat) : Int)) cd_200_9 rfl (by omega) ?_
  refine r_ild cd_200_10 rfl rfl ?_
  refine r_add (v := ((83 + 4 * b + k : Nat) : Int)) cd_200_11 rfl (by omega) ?_
  refine r_ild cd_200_12 rfl rfl ?_
  refine r_arsI (i := 83 + 4 * b + k) cd_200_13 rfl rfl hw rfl (by omega) rfl ?_
  exact r_void cd_200_14 rfl (rfl)
theorem c_215 {h : aH} {s w : Nat → Int} (hM : h.2.2 226 = .inr (8, Mo s)) (hw : h.2.2 227 = .inl (0, 211, .inl w)) (p : Nat) (x : Int) (z : Int) (g0 : p < 16) : Ct 1 215 [aR 226, aI ((p : Nat) : Int), aI x, aI z] h (.inl (none), sw h 227 (.inl (0, 211, .inl (putP w p x z)))) := by
  refine Ct.of [aR 226, aI ((p : Nat) : Int), aI x, aI z] rfl ?_
  refine r_aldR cd_215_0 rfl rfl ?_
  refine r_get cd_215_1 rfl hM rfl ?_
  refine r_con (v := 115) cd_215_4 rfl (by decide) ?_
  refine r_con (v := 6) cd_215_6 rfl (by decide) ?_
  refine r_ild cd_215_8 rfl rfl ?_
  refine r_mul (v := ((6 * p : Nat) : Int)) cd_215_9 rfl (by omega) ?_
  refine r_add (v := ((115 + 6 * p : Nat) : Int)) cd_215_10 rfl (by omega) ?_
  refine r_con (v := 4) cd_215_11 rfl (by decide) ?_
  refine r_add (v := ((115 + 6 * p + 4 : Nat) : Int)) cd_215_12 rfl (by omega) ?_
  refine r_ild cd_215_13 rfl rfl ?_
  refine r_arsI (i := 115 + 6 * p + 4) cd_215_14 rfl rfl hw rfl (by omega) rfl ?_
  refine r_aldR cd_215_15 rfl rfl ?_
  refine r_get cd_215_16 rfl ((sw_ne (by decide)).trans hM) rfl ?_
  refine r_con (v := 115) cd_215_19 rfl (by decide) ?_
  refine r_con (v := 6) cd_215_21 rfl (by decide) ?_
  refine r_ild cd_215_23 rfl rfl ?_
  refine r_mul (v := ((6 * p : Nat) : Int)) cd_215_24 rfl (by omega) ?_
  refine r_add (v := ((115 + 6 * p : Nat) : Int)) cd_215_25 rfl (by omega) ?_
  refine r_con (v := 5) cd_215_26 rfl (by decide) ?_
  refine r_add (v := ((115 + 6 * p + 5 : Nat) : Int)) cd_215_27 rfl (by omega) ?_
  refine r_ild cd_215_28 rfl rfl ?_
  refine r_arsI (i := 115 + 6 * p + 5) cd_215_29 rfl rfl (sw_at _ _ _) rfl (by omega) rfl ?_
  rw [sw_sw]
  exact r_void cd_215_30 rfl (rfl)
theorem c_196 {h : aH} {s w : Nat → Int} (hM : h.2.2 226 = .inr (8, Mo s)) (hw : h.2.2 227 = .inl (0, 211, .inl w)) (x : Int) (g0 : 0 ≤ w 4) (g1 : w 4 < 12) : Ct 1 196 [aR 226, aI x] h (.inl (some (aI (blowW w x 4))), sw h 227 (.inl (0, 211, .inl (blowW w x)))) := by
  refine Ct.of [aR 226, aI x] rfl ?_
  refine r_aldR cd_196_0 rfl rfl ?_
  refine r_get cd_196_1 rfl hM rfl ?_
  refine r_con (v := 11) cd_196_4 rfl (by decide) ?_
  refine r_aldR cd_196_6 rfl rfl ?_
  refine r_get cd_196_7 rfl hM rfl ?_
  refine r_con (v := 4) cd_196_10 rfl (by decide) ?_
  refine r_arr (i := 4) cd_196_11 rfl hw rfl (by omega) rfl ?_
  refine r_add (v := ((11 + (w 4).toNat : Nat) : Int)) cd_196_12 rfl (by omega) ?_
  refine r_ild cd_196_13 rfl rfl ?_
  refine r_arsI (i := 11 + (w 4).toNat) cd_196_14 rfl rfl hw rfl (by omega) rfl ?_
  refine r_aldR cd_196_15 rfl rfl ?_
  refine r_get cd_196_16 rfl ((sw_ne (by decide)).trans hM) rfl ?_
  refine r_con (v := 4) cd_196_19 rfl (by decide) ?_
  refine r_dup2 cd_196_20 rfl rfl rfl ?_
  refine r_arr (i := 4) cd_196_21 rfl (sw_at _ _ _) rfl (by omega) rfl ?_
  refine r_con (v := 1) cd_196_22 rfl (by decide) ?_
  refine r_add (v := ((va_up w (11 + (w 4).toNat) x) 4) + 1) cd_196_23 rfl (by rfl) ?_
  refine r_arsI (i := 4) cd_196_24 rfl rfl (sw_at _ _ _) rfl (by omega) rfl ?_
  rw [sw_sw]
  refine r_aldR cd_196_25 rfl rfl ?_
  refine r_get cd_196_26 rfl ((sw_ne (by decide)).trans hM) rfl ?_
  refine r_con (v := 4) cd_196_29 rfl (by decide) ?_
  refine r_arr (i := 4) cd_196_30 rfl (sw_at _ _ _) rfl (by omega) rfl ?_
  exact r_ret cd_196_31 True.intro (rfl)
theorem c_199 {h : aH} {s w : Nat → Int} (hM : h.2.2 226 = .inr (8, Mo s)) (hw : h.2.2 227 = .inl (0, 211, .inl w)) (hI : Inv0 w) (x : Int) (l : Int) (t : Int) (g0 : w 5 < 8) : Ct 2 199 [aR 226, aI x, aI l, aI t] h (.inl (some (aI (((nB w : Nat) : Int)))), sw h 227 (.inl (0, 211, .inl (brinW w x l t)))) := by
  refine Ct.of [aR 226, aI x, aI l, aI t, aU] rfl ?_
  have hbn := hI.bNe
  have hpn := hI.pNe
  have x0 := hI.len
  have x1 := hI.hour
  have x2 := hI.gas
  have x3 := hI.leak
  have x4 := hI.gn
  have x5 := hI.bn
  have x6 := hI.pn
  refine r_aldR cd_199_0 rfl rfl ?_
  refine r_get cd_199_1 rfl hM rfl ?_
  refine r_con (v := 5) cd_199_4 rfl (by decide) ?_
  refine r_arr (i := 5) cd_199_5 rfl hw rfl (by omega) rfl ?_
  rw [← hbn.1]
  refine r_ist cd_199_6 rfl rfl (L' := [aR 226, aI x, aI l, aI t, aI ((nB w : Nat) : Int)]) rfl ?_
  refine r_aldR cd_199_8 rfl rfl ?_
  refine r_get cd_199_9 rfl hM rfl ?_
  refine r_con (v := 5) cd_199_12 rfl (by decide) ?_
  refine r_dup2 cd_199_13 rfl rfl rfl ?_
  refine r_arr (i := 5) cd_199_14 rfl hw rfl (by omega) rfl ?_
  refine r_con (v := 1) cd_199_15 rfl (by decide) ?_
  refine r_add (v := (w 5) + 1) cd_199_16 rfl (by rfl) ?_
  refine r_arsI (i := 5) cd_199_17 rfl rfl hw rfl (by omega) rfl ?_
  refine r_aldR cd_199_18 rfl rfl ?_
  refine r_ild cd_199_19 rfl rfl ?_
  refine r_con (v := 0) cd_199_21 rfl (by decide) ?_
  refine r_ild cd_199_22 rfl rfl ?_
  refine r_cV (c_200 ((sw_ne (by decide)).trans hM) (sw_at _ _ _) (nB w) 0 x (by omega)) cd_199_23 rfl rfl rfl (rc0 ((sw_ne (by decide)).trans hM) rfl) rfl rfl rfl ?_
  rw [sw_sw]
  refine r_aldR cd_199_26 rfl rfl ?_
  refine r_ild cd_199_27 rfl rfl ?_
  refine r_con (v := 1) cd_199_29 rfl (by decide) ?_
  refine r_ild cd_199_30 rfl rfl ?_
  refine r_cV (c_200 ((sw_ne (by decide)).trans hM) (sw_at _ _ _) (nB w) 1 l (by omega)) cd_199_31 rfl rfl rfl (rc0 ((sw_ne (by decide)).trans hM) rfl) rfl rfl rfl ?_
  rw [sw_sw]
  refine r_aldR cd_199_34 rfl rfl ?_
  refine r_ild cd_199_35 rfl rfl ?_
  refine r_con (v := 2) cd_199_37 rfl (by decide) ?_
  refine r_ild cd_199_38 rfl rfl ?_
  refine r_cV (c_200 ((sw_ne (by decide)).trans hM) (sw_at _ _ _) (nB w) 2 t (by omega)) cd_199_39 rfl rfl rfl (rc0 ((sw_ne (by decide)).trans hM) rfl) rfl rfl rfl ?_
  rw [sw_sw]
  refine r_aldR cd_199_42 rfl rfl ?_
  refine r_ild cd_199_43 rfl rfl ?_
  refine r_con (v := 3) cd_199_45 rfl (by decide) ?_
  refine r_con (v := 0) cd_199_46 rfl (by decide) ?_
  refine r_cV (c_200 ((sw_ne (by decide)).trans hM) (sw_at _ _ _) (nB w) 3 0 (by omega)) cd_199_47 rfl rfl rfl (rc0 ((sw_ne (by decide)).trans hM) rfl) rfl rfl rfl ?_
  rw [sw_sw]
  refine r_aldR cd_199_50 rfl rfl ?_
  refine r_get cd_199_51 rfl ((sw_ne (by decide)).trans hM) rfl ?_
  refine r_con (v := 9) cd_199_54 rfl (by decide) ?_
  refine r_dup2 cd_199_56 rfl rfl rfl ?_
  refine r_arr (i := 9) cd_199_57 rfl (sw_at _ _ _) rfl (by omega) rfl ?_
  refine r_ild cd_199_58 rfl rfl ?_
  refine r_add (v := ((sbo (sbo (sbo (sbo (va_up w 5 ((w 5) + 1)) (nB w) 0 x) (nB w) 1 l) (nB w) 2 t) (nB w) 3 0) 9) + l) cd_199_59 rfl (by rfl) ?_
  refine r_arsI (i := 9) cd_199_60 rfl rfl (sw_at _ _ _) rfl (by omega) rfl ?_
  rw [sw_sw]
  refine r_ild cd_199_61 rfl rfl ?_
  exact r_ret cd_199_63 True.intro (rfl)
theorem c_204 {h : aH} {s w : Nat → Int} (hM : h.2.2 226 = .inr (8, Mo s)) (hw : h.2.2 227 = .inl (0, 211, .inl w)) (hI : Inv0 w) (g : Int) (x : Int) (z : Int) (n : Int) (g0 : w 6 < 16) : Ct 1 204 [aR 226, aI g, aI x, aI z, aI n] h (.inl (some (aI (postW w g x z n 6 - 1))), sw h 227 (.inl (0, 211, .inl (postW w g x z n)))) := by
  refine Ct.of [aR 226, aI g, aI x, aI z, aI n, aU] rfl ?_
  have hbn := hI.bNe
  have hpn := hI.pNe
  have x0 := hI.len
  have x1 := hI.hour
  have x2 := hI.gas
  have x3 := hI.leak
  have x4 := hI.gn
  have x5 := hI.bn
  have x6 := hI.pn
  refine r_con (v := 115) cd_204_0 rfl (by decide) ?_
  refine r_con (v := 6) cd_204_2 rfl (by decide) ?_
  refine r_aldR cd_204_4 rfl rfl ?_
  refine r_get cd_204_5 rfl hM rfl ?_
  refine r_con (v := 6) cd_204_8 rfl (by decide) ?_
  refine r_arr (i := 6) cd_204_10 rfl hw rfl (by omega) rfl ?_
  rw [← hpn.1]
  refine r_mul (v := ((6 * (nP w) : Nat) : Int)) cd_204_11 rfl (by omega) ?_
  refine r_add (v := ((115 + 6 * (nP w) : Nat) : Int)) cd_204_12 rfl (by omega) ?_
  refine r_ist cd_204_13 rfl rfl (L' := [aR 226, aI g, aI x, aI z, aI n, aI ((115 + 6 * (nP w) : Nat) : Int)]) rfl ?_
  refine r_aldR cd_204_15 rfl rfl ?_
  refine r_get cd_204_16 rfl hM rfl ?_
  refine r_ild cd_204_19 rfl rfl ?_
  refine r_con (v := 0) cd_204_21 rfl (by decide) ?_
  refine r_add (v := ((115 + 6 * (nP w) + 0 : Nat) : Int)) cd_204_22 rfl (by omega) ?_
  refine r_ild cd_204_23 rfl rfl ?_
  refine r_arsI (i := 115 + 6 * (nP w) + 0) cd_204_24 rfl rfl hw rfl (by omega) rfl ?_
  refine r_aldR cd_204_25 rfl rfl ?_
  refine r_get cd_204_26 rfl ((sw_ne (by decide)).trans hM) rfl ?_
  refine r_ild cd_204_29 rfl rfl ?_
  refine r_con (v := 1) cd_204_31 rfl (by decide) ?_
  refine r_add (v := ((115 + 6 * (nP w) + 1 : Nat) : Int)) cd_204_32 rfl (by omega) ?_
  refine r_ild cd_204_33 rfl rfl ?_
  refine r_arsI (i := 115 + 6 * (nP w) + 1) cd_204_34 rfl rfl (sw_at _ _ _) rfl (by omega) rfl ?_
  rw [sw_sw]
  refine r_aldR cd_204_35 rfl rfl ?_
  refine r_get cd_204_36 rfl ((sw_ne (by decide)).trans hM) rfl ?_
  refine r_ild cd_204_39 rfl rfl ?_
  refine r_con (v := 2) cd_204_41 rfl (by decide) ?_
  refine r_add (v := ((115 + 6 * (nP w) + 2 : Nat) : Int)) cd_204_42 rfl (by omega) ?_
  refine r_ild cd_204_43 rfl rfl ?_
  refine r_arsI (i := 115 + 6 * (nP w) + 2) cd_204_44 rfl rfl (sw_at _ _ _) rfl (by omega) rfl ?_
  rw [sw_sw]
  refine r_aldR cd_204_45 rfl rfl ?_
  refine r_get cd_204_46 rfl ((sw_ne (by decide)).trans hM) rfl ?_
  refine r_ild cd_204_49 rfl rfl ?_
  refine r_con (v := 3) cd_204_51 rfl (by decide) ?_
  refine r_add (v := ((115 + 6 * (nP w) + 3 : Nat) : Int)) cd_204_52 rfl (by omega) ?_
  refine r_ild cd_204_53 rfl rfl ?_
  refine r_arsI (i := 115 + 6 * (nP w) + 3) cd_204_55 rfl rfl (sw_at _ _ _) rfl (by omega) rfl ?_
  rw [sw_sw]
  refine r_aldR cd_204_56 rfl rfl ?_
  refine r_get cd_204_57 rfl ((sw_ne (by decide)).trans hM) rfl ?_
  refine r_ild cd_204_60 rfl rfl ?_
  refine r_con (v := 4) cd_204_62 rfl (by decide) ?_
  refine r_add (v := ((115 + 6 * (nP w) + 4 : Nat) : Int)) cd_204_63 rfl (by omega) ?_
  refine r_con (v := 0) cd_204_64 rfl (by decide) ?_
  refine r_arsI (i := 115 + 6 * (nP w) + 4) cd_204_65 rfl rfl (sw_at _ _ _) rfl (by omega) rfl ?_
  rw [sw_sw]
  refine r_aldR cd_204_66 rfl rfl ?_
  refine r_get cd_204_67 rfl ((sw_ne (by decide)).trans hM) rfl ?_
  refine r_ild cd_204_70 rfl rfl ?_
  refine r_con (v := 5) cd_204_72 rfl (by decide) ?_
  refine r_add (v := ((115 + 6 * (nP w) + 5 : Nat) : Int)) cd_204_73 rfl (by omega) ?_
  refine r_ild cd_204_74 rfl rfl ?_
  refine r_arsI (i := 115 + 6 * (nP w) + 5) cd_204_75 rfl rfl (sw_at _ _ _) rfl (by omega) rfl ?_
  rw [sw_sw]
  refine r_aldR cd_204_76 rfl rfl ?_
  refine r_get cd_204_77 rfl ((sw_ne (by decide)).trans hM) rfl ?_
  refine r_con (v := 6) cd_204_80 rfl (by decide) ?_
  refine r_dup2 cd_204_82 rfl rfl rfl ?_
  refine r_arr (i := 6) cd_204_83 rfl (sw_at _ _ _) rfl (by omega) rfl ?_
  refine r_con (v := 1) cd_204_84 rfl (by decide) ?_
  refine r_add (v := ((va_up (va_up (va_up (va_up (va_up (va_up w (115 + 6 * (nP w) + 0) g) (115 + 6 * (nP w) + 1) x) (115 + 6 * (nP w) + 2) z) (115 + 6 * (nP w) + 3) n) (115 + 6 * (nP w) + 4) 0) (115 + 6 * (nP w) + 5) x) 6) + 1) cd_204_85 rfl (by rfl) ?_
  refine r_arsI (i := 6) cd_204_86 rfl rfl (sw_at _ _ _) rfl (by omega) rfl ?_
  rw [sw_sw]
  refine r_aldR cd_204_87 rfl rfl ?_
  refine r_get cd_204_88 rfl ((sw_ne (by decide)).trans hM) rfl ?_
  refine r_con (v := 6) cd_204_91 rfl (by decide) ?_
  refine r_arr (i := 6) cd_204_93 rfl (sw_at _ _ _) rfl (by omega) rfl ?_
  refine r_con (v := 1) cd_204_94 rfl (by decide) ?_
  refine r_sub (v := ((va_up (va_up (va_up (va_up (va_up (va_up (va_up w (115 + 6 * (nP w) + 0) g) (115 + 6 * (nP w) + 1) x) (115 + 6 * (nP w) + 2) z) (115 + 6 * (nP w) + 3) n) (115 + 6 * (nP w) + 4) 0) (115 + 6 * (nP w) + 5) x) 6 (((va_up (va_up (va_up (va_up (va_up (va_up w (115 + 6 * (nP w) + 0) g) (115 + 6 * (nP w) + 1) x) (115 + 6 * (nP w) + 2) z) (115 + 6 * (nP w) + 3) n) (115 + 6 * (nP w) + 4) 0) (115 + 6 * (nP w) + 5) x) 6) + 1)) 6) - 1) cd_204_95 rfl (by rfl) ?_
  exact r_ret cd_204_96 True.intro (rfl)
