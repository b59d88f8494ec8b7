/-! THE REFERENCE: changes of the row (written by wip/whole/gen19.py) -/
theorem c_218 {h : aH} {s w : Nat → Int} (hM : h.2.2 226 = .inr (8, Mo s)) (hw : h.2.2 227 = .inl (0, 211, .inl w)) (hI : Inv0 w) (p : Nat) (g0 : p < nP w) (g1 : pa w p 4 = 1) : Ct 2 218 [aR 226, aI ((p : Nat) : Int)] h (.inl (some (aI (pa w p 5))), sw h 227 (.inl (0, 211, .inl (untW w p)))) := by
  refine Ct.of [aR 226, aI ((p : Nat) : Int), aU] rfl ?_
  have hbn := hI.bNe
  have hpn := hI.pNe
  have x0 := hI.len
  have x1 := hI.hour
  have x2 := hI.gas
  have x3 := hI.leak
  have x4 := hI.gn
  have x5 := hI.bn
  have x6 := hI.pn
  have hp0 := hI.ps p (by omega)
  refine r_aldR cd_218_0 rfl rfl ?_
  refine r_ild cd_218_1 rfl rfl ?_
  refine r_con (v := 5) cd_218_2 rfl (by decide) ?_
  refine r_cI (c_203 hM hw p 5 (by omega)) cd_218_3 rfl rfl rfl (rc0 hM rfl) rfl rfl rfl ?_
  obtain ⟨q, hq⟩ : ∃ q : Nat, pa w p 5 = (q : Int) := ⟨(pa w p 5).toNat, by omega⟩
  rw [hq]
  refine r_ist cd_218_6 rfl rfl (L' := [aR 226, aI ((p : Nat) : Int), aI ((q : Nat) : Int)]) rfl ?_
  refine r_aldR cd_218_7 rfl rfl ?_
  refine r_ild cd_218_8 rfl rfl ?_
  refine r_con (v := 0) cd_218_9 rfl (by decide) ?_
  refine r_aldR cd_218_10 rfl rfl ?_
  refine r_ild cd_218_11 rfl rfl ?_
  refine r_con (v := 0) cd_218_12 rfl (by decide) ?_
  refine r_cI (c_209 hM hw q 0 (by omega)) cd_218_13 rfl rfl rfl (rc0 hM rfl) rfl rfl rfl ?_
  refine r_cV (c_215 hM hw p 0 (bo w q 0) (by omega)) cd_218_16 rfl rfl rfl (rc0 hM rfl) rfl rfl rfl ?_
  refine r_ild cd_218_19 rfl rfl ?_
  exact r_ret cd_218_20 True.intro (by simp only [untW, hq, Int.toNat_natCast])
theorem c_227 {h : aH} {s w : Nat → Int} (hM : h.2.2 226 = .inr (8, Mo s)) (hw : h.2.2 227 = .inl (0, 211, .inl w)) (b : Nat) (l : Int) (g0 : b < 8) : Ct 2 227 [aR 226, aI ((b : Nat) : Int), aI l] h (.inl (none), sw h 227 (.inl (0, 211, .inl (losW w b l)))) := by
  refine Ct.of [aR 226, aI ((b : Nat) : Int), aI l] rfl ?_
  refine r_aldR cd_227_0 rfl rfl ?_
  refine r_ild cd_227_1 rfl rfl ?_
  refine r_con (v := 1) cd_227_2 rfl (by decide) ?_
  refine r_aldR cd_227_3 rfl rfl ?_
  refine r_ild cd_227_4 rfl rfl ?_
  refine r_con (v := 1) cd_227_5 rfl (by decide) ?_
  refine r_cI (c_209 hM hw b 1 (by omega)) cd_227_6 rfl rfl rfl (rc0 hM rfl) rfl rfl rfl ?_
  refine r_ild cd_227_9 rfl rfl ?_
  refine r_sub (v := (bo w b 1) - l) cd_227_10 rfl (by rfl) ?_
  refine r_cV (c_200 hM hw b 1 ((bo w b 1) - l) (by omega)) cd_227_11 rfl rfl rfl (rc0 hM rfl) rfl rfl rfl ?_
  refine r_aldR cd_227_14 rfl rfl ?_
  refine r_get cd_227_15 rfl ((sw_ne (by decide)).trans hM) rfl ?_
  refine r_con (v := 10) cd_227_18 rfl (by decide) ?_
  refine r_dup2 cd_227_20 rfl rfl rfl ?_
  refine r_arr (i := 10) cd_227_21 rfl (sw_at _ _ _) rfl (by omega) rfl ?_
  refine r_ild cd_227_22 rfl rfl ?_
  refine r_add (v := ((sbo w b 1 ((bo w b 1) - l)) 10) + l) cd_227_23 rfl (by rfl) ?_
  refine r_arsI (i := 10) cd_227_24 rfl rfl (sw_at _ _ _) rfl (by omega) rfl ?_
  rw [sw_sw]
  exact r_void cd_227_25 rfl (rfl)
theorem c_222 {h : aH} {s w : Nat → Int} (hM : h.2.2 226 = .inr (8, Mo s)) (hw : h.2.2 227 = .inl (0, 211, .inl w)) (hI : Inv0 w) (b : Nat) (g0 : b < nB w) : Ct 6 222 [aR 226, aI ((b : Nat) : Int)] h (.inl (some (aI (hOf (sbo w b 3 1) b))), sw h 227 (.inl (0, 211, .inl (sbo w b 3 1)))) := by
  refine Ct.of [aR 226, aI ((b : Nat) : Int)] rfl ?_
  have hbn := hI.bNe
  have hpn := hI.pNe
  have x0 := hI.len
  have x1 := hI.hour
  have x2 := hI.gas
  have x3 := hI.leak
  have x4 := hI.gn
  have x5 := hI.bn
  have x6 := hI.pn
  refine r_aldR cd_222_0 rfl rfl ?_
  refine r_ild cd_222_1 rfl rfl ?_
  refine r_con (v := 3) cd_222_2 rfl (by decide) ?_
  refine r_con (v := 1) cd_222_3 rfl (by decide) ?_
  refine r_cV (c_200 hM hw b 3 1 (by omega)) cd_222_4 rfl rfl rfl (rc0 hM rfl) rfl rfl rfl ?_
  have hI2 : Inv0 (sbo w b 3 1) := hI.setB (k := 3) g0 (by omega) (by omega) (by omega) (by omega) (by omega)
  have eb : nB (sbo w b 3 1) = nB w := sbo_bN
  refine r_aldR cd_222_7 rfl rfl ?_
  refine r_ild cd_222_8 rfl rfl ?_
  refine r_cI (c_221 ((sw_ne (by decide)).trans hM) (sw_at _ _ _) hI2 b (by omega)) cd_222_9 rfl rfl rfl (rc0 ((sw_ne (by decide)).trans hM) rfl) rfl rfl rfl ?_
  exact r_ret cd_222_12 True.intro (rfl)
theorem c_224 {h : aH} {s w : Nat → Int} (hM : h.2.2 226 = .inr (8, Mo s)) (hw : h.2.2 227 = .inl (0, 211, .inl w)) (b : Nat) (g0 : b < 8) : Ct 2 224 [aR 226, aI ((b : Nat) : Int)] h (.inl (some (aI (bo (sbo w b 3 0) b 0))), sw h 227 (.inl (0, 211, .inl (sbo w b 3 0)))) := by
  refine Ct.of [aR 226, aI ((b : Nat) : Int)] rfl ?_
  refine r_aldR cd_224_0 rfl rfl ?_
  refine r_ild cd_224_1 rfl rfl ?_
  refine r_con (v := 3) cd_224_2 rfl (by decide) ?_
  refine r_con (v := 0) cd_224_3 rfl (by decide) ?_
  refine r_cV (c_200 hM hw b 3 0 (by omega)) cd_224_4 rfl rfl rfl (rc0 hM rfl) rfl rfl rfl ?_
  refine r_aldR cd_224_7 rfl rfl ?_
  refine r_ild cd_224_8 rfl rfl ?_
  refine r_con (v := 0) cd_224_9 rfl (by decide) ?_
  refine r_cI (c_209 ((sw_ne (by decide)).trans hM) (sw_at _ _ _) b 0 (by omega)) cd_224_10 rfl rfl rfl (rc0 ((sw_ne (by decide)).trans hM) rfl) rfl rfl rfl ?_
  exact r_ret cd_224_13 True.intro (rfl)
theorem c_214 {h : aH} {s w : Nat → Int} (hM : h.2.2 226 = .inr (8, Mo s)) (hw : h.2.2 227 = .inl (0, 211, .inl w)) (hI : Inv0 w) (p : Nat) (b : Nat) (g0 : p < nP w) (g1 : b < nB w) (g2 : ¬ pa w p 4 = 2) : Ct 4 214 [aR 226, aI ((p : Nat) : Int), aI ((b : Nat) : Int)] h (.inl (some (aI (loadOf (putP w p 1 ((b : Nat) : Int)) b))), sw h 227 (.inl (0, 211, .inl (putP w p 1 ((b : Nat) : Int))))) := by
  refine Ct.of [aR 226, aI ((p : Nat) : Int), aI ((b : Nat) : Int)] rfl ?_
  have hbn := hI.bNe
  have hpn := hI.pNe
  have x0 := hI.len
  have x1 := hI.hour
  have x2 := hI.gas
  have x3 := hI.leak
  have x4 := hI.gn
  have x5 := hI.bn
  have x6 := hI.pn
  refine r_aldR cd_214_0 rfl rfl ?_
  refine r_ild cd_214_1 rfl rfl ?_
  refine r_con (v := 1) cd_214_2 rfl (by decide) ?_
  refine r_ild cd_214_3 rfl rfl ?_
  refine r_cV (c_215 hM hw p 1 ((b : Nat) : Int) (by omega)) cd_214_4 rfl rfl rfl (rc0 hM rfl) rfl rfl rfl ?_
  have hI2 : Inv0 (putP w p 1 ((b : Nat) : Int)) := hI.setP g0 g2 (Or.inr (Or.inl ⟨rfl, by omega, by omega⟩))
  refine r_aldR cd_214_7 rfl rfl ?_
  refine r_ild cd_214_8 rfl rfl ?_
  refine r_cI (c_213 ((sw_ne (by decide)).trans hM) (sw_at _ _ _) hI2 b (by omega)) cd_214_9 rfl rfl rfl (rc0 ((sw_ne (by decide)).trans hM) rfl) rfl rfl rfl ?_
  exact r_ret cd_214_12 True.intro (rfl)
theorem c_232 {h : aH} {s w : Nat → Int} (hM : h.2.2 226 = .inr (8, Mo s)) (hw : h.2.2 227 = .inl (0, 211, .inl w)) (b : Nat) (l : Int) (g0 : b < 8) : Ct 2 232 [aR 226, aI ((b : Nat) : Int), aI l] h (.inl (some (aI (bo (fillW w b l) b 1))), sw h 227 (.inl (0, 211, .inl (fillW w b l)))) := by
  refine Ct.of [aR 226, aI ((b : Nat) : Int), aI l] rfl ?_
  refine r_aldR cd_232_0 rfl rfl ?_
  refine r_ild cd_232_1 rfl rfl ?_
  refine r_con (v := 1) cd_232_2 rfl (by decide) ?_
  refine r_aldR cd_232_3 rfl rfl ?_
  refine r_ild cd_232_4 rfl rfl ?_
  refine r_con (v := 1) cd_232_5 rfl (by decide) ?_
  refine r_cI (c_209 hM hw b 1 (by omega)) cd_232_6 rfl rfl rfl (rc0 hM rfl) rfl rfl rfl ?_
  refine r_ild cd_232_9 rfl rfl ?_
  refine r_add (v := (bo w b 1) + l) cd_232_10 rfl (by rfl) ?_
  refine r_cV (c_200 hM hw b 1 ((bo w b 1) + l) (by omega)) cd_232_11 rfl rfl rfl (rc0 hM rfl) rfl rfl rfl ?_
  refine r_aldR cd_232_14 rfl rfl ?_
  refine r_get cd_232_15 rfl ((sw_ne (by decide)).trans hM) rfl ?_
  refine r_con (v := 2) cd_232_18 rfl (by decide) ?_
  refine r_dup2 cd_232_19 rfl rfl rfl ?_
  refine r_arr (i := 2) cd_232_20 rfl (sw_at _ _ _) rfl (by omega) rfl ?_
  refine r_ild cd_232_21 rfl rfl ?_
  refine r_sub (v := ((sbo w b 1 ((bo w b 1) + l)) 2) - l) cd_232_22 rfl (by rfl) ?_
  refine r_arsI (i := 2) cd_232_23 rfl rfl (sw_at _ _ _) rfl (by omega) rfl ?_
  rw [sw_sw]
  refine r_aldR cd_232_24 rfl rfl ?_
  refine r_get cd_232_25 rfl ((sw_ne (by decide)).trans hM) rfl ?_
  refine r_con (v := 9) cd_232_28 rfl (by decide) ?_
  refine r_dup2 cd_232_30 rfl rfl rfl ?_
  refine r_arr (i := 9) cd_232_31 rfl (sw_at _ _ _) rfl (by omega) rfl ?_
  refine r_ild cd_232_32 rfl rfl ?_
  refine r_add (v := ((va_up (sbo w b 1 ((bo w b 1) + l)) 2 (((sbo w b 1 ((bo w b 1) + l)) 2) - l)) 9) + l) cd_232_33 rfl (by rfl) ?_
  refine r_arsI (i := 9) cd_232_34 rfl rfl (sw_at _ _ _) rfl (by omega) rfl ?_
  rw [sw_sw]
  refine r_aldR cd_232_35 rfl rfl ?_
  refine r_ild cd_232_36 rfl rfl ?_
  refine r_con (v := 1) cd_232_37 rfl (by decide) ?_
  refine r_cI (c_209 ((sw_ne (by decide)).trans hM) (sw_at _ _ _) b 1 (by omega)) cd_232_38 rfl rfl rfl (rc0 ((sw_ne (by decide)).trans hM) rfl) rfl rfl rfl ?_
  exact r_ret cd_232_41 True.intro (rfl)
theorem c_237 {h : aH} {s w : Nat → Int} (hM : h.2.2 226 = .inr (8, Mo s)) (hw : h.2.2 227 = .inl (0, 211, .inl w)) (hI : Inv0 w) (p : Nat) (g0 : p < nP w) : Ct 3 237 [aR 226, aI ((p : Nat) : Int)] h (.inl (some (aI (paid w p))), sw h 227 (.inl (0, 211, .inl (clmW w p)))) := by
  refine Ct.of [aR 226, aI ((p : Nat) : Int), aU, aU] rfl ?_
  have hbn := hI.bNe
  have hpn := hI.pNe
  have x0 := hI.len
  have x1 := hI.hour
  have x2 := hI.gas
  have x3 := hI.leak
  have x4 := hI.gn
  have x5 := hI.bn
  have x6 := hI.pn
  refine r_aldR cd_237_0 rfl rfl ?_
  refine r_ild cd_237_1 rfl rfl ?_
  refine r_con (v := 5) cd_237_2 rfl (by decide) ?_
  refine r_cI (c_203 hM hw p 5 (by omega)) cd_237_3 rfl rfl rfl (rc0 hM rfl) rfl rfl rfl ?_
  refine r_aldR cd_237_6 rfl rfl ?_
  refine r_ild cd_237_7 rfl rfl ?_
  refine r_con (v := 2) cd_237_8 rfl (by decide) ?_
  refine r_cI (c_203 hM hw p 2 (by omega)) cd_237_9 rfl rfl rfl (rc0 hM rfl) rfl rfl rfl ?_
  refine r_ic62 cd_237_12 rfl (hI.paR (by omega) (by omega)) (hI.paR (by omega) (by omega)) (fun n1 => ?_) (fun n1 => ?_)
  · refine r_con (v := 1) cd_237_15 rfl (by decide) ?_
    refine r_goto cd_237_16 ?_
    refine r_ist cd_237_20 rfl rfl (L' := [aR 226, aI ((p : Nat) : Int), aI 1, aU]) rfl ?_
    refine r_ild cd_237_21 rfl rfl ?_
    refine r_if51 cd_237_22 rfl ⟨by omega, by omega⟩ (fun n2 => ?_) (fun n2 => ?_)
    · exact absurd n2 (by decide)
    · refine r_aldR cd_237_25 rfl rfl ?_
      refine r_ild cd_237_26 rfl rfl ?_
      refine r_cI (c_238 hM hw hI p (by omega)) cd_237_27 rfl rfl rfl (rc0 hM rfl) rfl rfl rfl ?_
      refine r_goto cd_237_30 ?_
      refine r_ist cd_237_34 rfl rfl (L' := [aR 226, aI ((p : Nat) : Int), aI 1, aI (fareP w p)]) rfl ?_
      refine r_aldR cd_237_35 rfl rfl ?_
      refine r_ild cd_237_36 rfl rfl ?_
      refine r_con (v := 2) cd_237_37 rfl (by decide) ?_
      refine r_con (v := (-1)) cd_237_38 rfl (by decide) ?_
      refine r_cV (c_215 hM hw p 2 (-1) (by omega)) cd_237_39 rfl rfl rfl (rc0 hM rfl) rfl rfl rfl ?_
      refine r_aldR cd_237_42 rfl rfl ?_
      refine r_get cd_237_43 rfl ((sw_ne (by decide)).trans hM) rfl ?_
      refine r_con (v := 7) cd_237_46 rfl (by decide) ?_
      refine r_dup2 cd_237_48 rfl rfl rfl ?_
      refine r_arr (i := 7) cd_237_49 rfl (sw_at _ _ _) rfl (by omega) rfl ?_
      refine r_ild cd_237_50 rfl rfl ?_
      refine r_add (v := ((putP w p 2 (-1)) 7) + (fareP w p)) cd_237_51 rfl (by rfl) ?_
      refine r_arsI (i := 7) cd_237_52 rfl rfl (sw_at _ _ _) rfl (by omega) rfl ?_
      rw [sw_sw]
      refine r_aldR cd_237_53 rfl rfl ?_
      refine r_get cd_237_54 rfl ((sw_ne (by decide)).trans hM) rfl ?_
      refine r_con (v := 8) cd_237_57 rfl (by decide) ?_
      refine r_dup2 cd_237_59 rfl rfl rfl ?_
      refine r_arr (i := 8) cd_237_60 rfl (sw_at _ _ _) rfl (by omega) rfl ?_
      refine r_ild cd_237_61 rfl rfl ?_
      refine r_if51 cd_237_62 rfl ⟨by omega, by omega⟩ (fun n3 => ?_) (fun n3 => ?_)
      · exact absurd n3 (by decide)
      · refine r_con (v := 1) cd_237_65 rfl (by decide) ?_
        refine r_goto cd_237_66 ?_
        refine r_add (v := ((va_up (putP w p 2 (-1)) 7 (((putP w p 2 (-1)) 7) + (fareP w p))) 8) + 1) cd_237_70 rfl (by rfl) ?_
        refine r_arsI (i := 8) cd_237_71 rfl rfl (sw_at _ _ _) rfl (by omega) rfl ?_
        rw [sw_sw]
        refine r_ild cd_237_72 rfl rfl ?_
        exact r_ret cd_237_73 True.intro (by simp [clmW, cl1, paid, thr, n1])
  · refine r_con (v := 0) cd_237_19 rfl (by decide) ?_
    refine r_ist cd_237_20 rfl rfl (L' := [aR 226, aI ((p : Nat) : Int), aI 0, aU]) rfl ?_
    refine r_ild cd_237_21 rfl rfl ?_
    refine r_if51 cd_237_22 rfl ⟨by omega, by omega⟩ (fun n4 => ?_) (fun n4 => ?_)
    · refine r_con (v := 0) cd_237_33 rfl (by decide) ?_
      refine r_ist cd_237_34 rfl rfl (L' := [aR 226, aI ((p : Nat) : Int), aI 0, aI 0]) rfl ?_
      refine r_aldR cd_237_35 rfl rfl ?_
      refine r_ild cd_237_36 rfl rfl ?_
      refine r_con (v := 2) cd_237_37 rfl (by decide) ?_
      refine r_con (v := (-1)) cd_237_38 rfl (by decide) ?_
      refine r_cV (c_215 hM hw p 2 (-1) (by omega)) cd_237_39 rfl rfl rfl (rc0 hM rfl) rfl rfl rfl ?_
      refine r_aldR cd_237_42 rfl rfl ?_
      refine r_get cd_237_43 rfl ((sw_ne (by decide)).trans hM) rfl ?_
      refine r_con (v := 7) cd_237_46 rfl (by decide) ?_
      refine r_dup2 cd_237_48 rfl rfl rfl ?_
      refine r_arr (i := 7) cd_237_49 rfl (sw_at _ _ _) rfl (by omega) rfl ?_
      refine r_ild cd_237_50 rfl rfl ?_
      refine r_add (v := ((putP w p 2 (-1)) 7) + 0) cd_237_51 rfl (by rfl) ?_
      refine r_arsI (i := 7) cd_237_52 rfl rfl (sw_at _ _ _) rfl (by omega) rfl ?_
      rw [sw_sw]
      refine r_aldR cd_237_53 rfl rfl ?_
      refine r_get cd_237_54 rfl ((sw_ne (by decide)).trans hM) rfl ?_
      refine r_con (v := 8) cd_237_57 rfl (by decide) ?_
      refine r_dup2 cd_237_59 rfl rfl rfl ?_
      refine r_arr (i := 8) cd_237_60 rfl (sw_at _ _ _) rfl (by omega) rfl ?_
      refine r_ild cd_237_61 rfl rfl ?_
      refine r_if51 cd_237_62 rfl ⟨by omega, by omega⟩ (fun n5 => ?_) (fun n5 => ?_)
      · refine r_con (v := 0) cd_237_69 rfl (by decide) ?_
        refine r_add (v := ((va_up (putP w p 2 (-1)) 7 (((putP w p 2 (-1)) 7) + 0)) 8) + 0) cd_237_70 rfl (by rfl) ?_
        refine r_arsI (i := 8) cd_237_71 rfl rfl (sw_at _ _ _) rfl (by omega) rfl ?_
        rw [sw_sw]
        refine r_ild cd_237_72 rfl rfl ?_
        exact r_ret cd_237_73 True.intro (by simp [clmW, cl1, paid, thr, n1])
      · exact absurd n5 (by decide)
    · exact absurd n4 (by decide)
theorem lp_229 {h : aH} {s w : Nat → Int} (hM : h.2.2 226 = .inr (8, Mo s)) (hw : h.2.2 227 = .inl (0, 211, .inl w)) (hI : Inv0 w) (b : Nat) (hb : b < 8) : ∀ (m i : Nat) (acc r : Int), i + m = nP w → -1 ≤ acc → acc < i → r = itF (hvG w b) i m acc → RU 3 229 (.inl (some (aI r)), h) (4, [aR 226, aI ((b : Nat) : Int), aI acc, aI ((i : Nat) : Int)], [], 0, 0, h) := by
  have hbn := hI.bNe
  have hpn := hI.pNe
  have x0 := hI.len
  have x1 := hI.hour
  have x2 := hI.gas
  have x3 := hI.leak
  have x4 := hI.gn
  have x5 := hI.bn
  have x6 := hI.pn
  intro m
  induction m with
  | zero =>
    intro i acc r hm ha1 ha2 hr
    refine r_ild cd_229_4 rfl rfl ?_
    refine r_aldR cd_229_5 rfl rfl ?_
    refine r_get cd_229_6 rfl hM rfl ?_
    refine r_con (v := 6) cd_229_9 rfl (by decide) ?_
    refine r_arr (i := 6) cd_229_11 rfl hw rfl (by omega) rfl ?_
    refine r_ic64 cd_229_12 rfl ⟨by omega, by omega⟩ (inR_of hI.pn (by decide) (by decide)) (fun n1 => ?_) (fun n1 => ?_)
    · exact absurd n1 (by omega)
    · refine r_ild cd_229_52 rfl rfl ?_
      exact r_ret cd_229_53 True.intro (rI hr)
  | succ m ih =>
    intro i acc r hm ha1 ha2 hr
    refine r_ild cd_229_4 rfl rfl ?_
    refine r_aldR cd_229_5 rfl rfl ?_
    refine r_get cd_229_6 rfl hM rfl ?_
    refine r_con (v := 6) cd_229_9 rfl (by decide) ?_
    refine r_arr (i := 6) cd_229_11 rfl hw rfl (by omega) rfl ?_
    refine r_ic64 cd_229_12 rfl ⟨by omega, by omega⟩ (inR_of hI.pn (by decide) (by decide)) (fun n1 => ?_) (fun n1 => ?_)
    · refine r_aldR cd_229_15 rfl rfl ?_
      refine r_ild cd_229_16 rfl rfl ?_
      refine r_ild cd_229_17 rfl rfl ?_
      refine r_cI (c_211 hM hw hI i b (by omega) (by omega)) cd_229_18 rfl rfl rfl (rc0 hM rfl) rfl rfl rfl ?_
      refine r_if51b cd_229_21 rfl (fun n2 => ?_) (fun n2 => ?_)
      · refine r_inc (v := ((i + 1 : Nat) : Int)) cd_229_46 rfl rfl rfl (by omega) (L' := [aR 226, aI ((b : Nat) : Int), aI acc, aI ((i + 1 : Nat) : Int)]) rfl ?_
        refine r_goto cd_229_49 ?_
        exact ih (i + 1) (acc) r (by omega) (by omega) (by omega) (hr.trans (itF_step (by first | (simp [hvG, n1, n2]; done) | (simp [hvG, n1, n2]; omega))))
      · refine r_ild cd_229_24 rfl rfl ?_
        refine r_con (v := (-1)) cd_229_25 rfl (by decide) ?_
        refine r_ic61 cd_229_26 rfl ⟨by omega, by omega⟩ ⟨by omega, by omega⟩ (fun n3 => ?_) (fun n3 => ?_)
        · refine r_ild cd_229_44 rfl rfl ?_
          refine r_ist cd_229_45 rfl rfl (L' := [aR 226, aI ((b : Nat) : Int), aI ((i : Nat) : Int), aI ((i : Nat) : Int)]) rfl ?_
          refine r_inc (v := ((i + 1 : Nat) : Int)) cd_229_46 rfl rfl rfl (by omega) (L' := [aR 226, aI ((b : Nat) : Int), aI ((i : Nat) : Int), aI ((i + 1 : Nat) : Int)]) rfl ?_
          refine r_goto cd_229_49 ?_
          exact ih (i + 1) (((i : Nat) : Int)) r (by omega) (by omega) (by omega) (hr.trans (itF_step (by first | (simp [hvG, n1, n2, n3]; done) | (simp [hvG, n1, n2, n3]; omega))))
        · obtain ⟨q, rfl⟩ : ∃ q : Nat, acc = (q : Int) := ⟨acc.toNat, by omega⟩
          refine r_aldR cd_229_29 rfl rfl ?_
          refine r_ild cd_229_30 rfl rfl ?_
          refine r_con (v := 0) cd_229_31 rfl (by decide) ?_
          refine r_cI (c_203 hM hw i 0 (by omega)) cd_229_32 rfl rfl rfl (rc0 hM rfl) rfl rfl rfl ?_
          refine r_aldR cd_229_35 rfl rfl ?_
          refine r_ild cd_229_36 rfl rfl ?_
          refine r_con (v := 0) cd_229_37 rfl (by decide) ?_
          refine r_cI (c_203 hM hw q 0 (by omega)) cd_229_38 rfl rfl rfl (rc0 hM rfl) rfl rfl rfl ?_
          refine r_ic66 cd_229_41 rfl (hI.paR (by omega) (by omega)) (hI.paR (by omega) (by omega)) (fun n4 => ?_) (fun n4 => ?_)
          · refine r_ild cd_229_44 rfl rfl ?_
            refine r_ist cd_229_45 rfl rfl (L' := [aR 226, aI ((b : Nat) : Int), aI ((i : Nat) : Int), aI ((i : Nat) : Int)]) rfl ?_
            refine r_inc (v := ((i + 1 : Nat) : Int)) cd_229_46 rfl rfl rfl (by omega) (L' := [aR 226, aI ((b : Nat) : Int), aI ((i : Nat) : Int), aI ((i + 1 : Nat) : Int)]) rfl ?_
            refine r_goto cd_229_49 ?_
            exact ih (i + 1) (((i : Nat) : Int)) r (by omega) (by omega) (by omega) (hr.trans (itF_step (by first | (simp [hvG, n1, n2, n3, n4]; done) | (simp [hvG, n1, n2, n3, n4]; omega))))
          · refine r_inc (v := ((i + 1 : Nat) : Int)) cd_229_46 rfl rfl rfl (by omega) (L' := [aR 226, aI ((b : Nat) : Int), aI ((q : Nat) : Int), aI ((i + 1 : Nat) : Int)]) rfl ?_
            refine r_goto cd_229_49 ?_
            exact ih (i + 1) (((q : Nat) : Int)) r (by omega) (by omega) (by omega) (hr.trans (itF_step (by first | (simp [hvG, n1, n2, n3, n4]; done) | (simp [hvG, n1, n2, n3, n4]; omega))))
    · exact absurd n1 (by omega)
theorem c_229 {h : aH} {s w : Nat → Int} (hM : h.2.2 226 = .inr (8, Mo s)) (hw : h.2.2 227 = .inl (0, 211, .inl w)) (hI : Inv0 w) (b : Nat) (g0 : b < 8) : Ct 3 229 [aR 226, aI ((b : Nat) : Int)] h (.inl (some (aI (heavy w b))), h) := by
  refine Ct.of [aR 226, aI ((b : Nat) : Int), aU, aU] rfl ?_
  have hbn := hI.bNe
  have hpn := hI.pNe
  have x0 := hI.len
  have x1 := hI.hour
  have x2 := hI.gas
  have x3 := hI.leak
  have x4 := hI.gn
  have x5 := hI.bn
  have x6 := hI.pn
  refine r_con (v := (-1)) cd_229_0 rfl (by decide) ?_
  refine r_ist cd_229_1 rfl rfl (L' := [aR 226, aI ((b : Nat) : Int), aI (-1), aU]) rfl ?_
  refine r_con (v := 0) cd_229_2 rfl (by decide) ?_
  refine r_ist cd_229_3 rfl rfl (L' := [aR 226, aI ((b : Nat) : Int), aI (-1), aI 0]) rfl ?_
  exact lp_229 hM hw hI b (by omega) (nP w) 0 (-1) _ (by omega) (by omega) (by omega) rfl
theorem lp_228 {s : Nat → Int} (b : Nat) : ∀ (m : Nat) {h : aH} {w : Nat → Int} (n : Int), h.2.2 226 = .inr (8, Mo s) → h.2.2 227 = .inl (0, 211, .inl w) → Inv0 w → b < nB w → knots w b ≤ m → RU 5 228 (.inl (some (aI (relF b m w n).2)), sw h 227 (.inl (0, 211, .inl (relF b m w n).1))) (2, [aR 226, aI ((b : Nat) : Int), aI n], [], 0, 0, h) := by
  intro m
  induction m with
  | zero =>
    intro h w n hM hw hI hb hk
    have hbn := hI.bNe
    have hpn := hI.pNe
    have x0 := hI.len
    have x1 := hI.hour
    have x2 := hI.gas
    have x3 := hI.leak
    have x4 := hI.gn
    have x5 := hI.bn
    have x6 := hI.pn
    refine r_aldR cd_228_2 rfl rfl ?_
    refine r_ild cd_228_3 rfl rfl ?_
    refine r_cI (c_212 hM hw hI b (by omega)) cd_228_4 rfl rfl rfl (rc0 hM rfl) rfl rfl rfl ?_
    refine r_if55 cd_228_7 rfl (inR_of (hI.spr (b := b) (by omega)) (by decide) (by decide)) (fun n1 => ?_) (fun n1 => ?_)
    · refine r_ild cd_228_26 rfl rfl ?_
      exact r_ret cd_228_27 True.intro (by rw [relF, sw_id hw])
    · exact absurd (load_pos hI hb n1) (by have h9 := knot0_load (w := w) (b := b) (by omega); omega)
  | succ m ih =>
    intro h w n hM hw hI hb hk
    have hbn := hI.bNe
    have hpn := hI.pNe
    have x0 := hI.len
    have x1 := hI.hour
    have x2 := hI.gas
    have x3 := hI.leak
    have x4 := hI.gn
    have x5 := hI.bn
    have x6 := hI.pn
    refine r_aldR cd_228_2 rfl rfl ?_
    refine r_ild cd_228_3 rfl rfl ?_
    refine r_cI (c_212 hM hw hI b (by omega)) cd_228_4 rfl rfl rfl (rc0 hM rfl) rfl rfl rfl ?_
    refine r_if55 cd_228_7 rfl (inR_of (hI.spr (b := b) (by omega)) (by decide) (by decide)) (fun n1 => ?_) (fun n1 => ?_)
    · refine r_ild cd_228_26 rfl rfl ?_
      exact r_ret cd_228_27 True.intro (by rw [relF, if_pos n1, sw_id hw])
    · obtain ⟨q, hq1, hq2, hq3⟩ := heavy_some (load_pos hI hb n1)
      refine r_aldR cd_228_10 rfl rfl ?_
      refine r_aldR cd_228_11 rfl rfl ?_
      refine r_ild cd_228_12 rfl rfl ?_
      refine r_cI (c_229 hM hw hI b (by omega)) cd_228_13 rfl rfl rfl (rc0 hM rfl) rfl rfl rfl ?_
      rw [hq2]
      refine r_cI (c_218 hM hw hI q (by omega) (tied_iff.mp hq3).1) cd_228_16 rfl rfl rfl (rc0 hM rfl) rfl rfl rfl ?_
      refine r_pop cd_228_19 rfl rfl ?_
      refine r_inc (v := n + 1) cd_228_20 rfl rfl rfl (by rfl) (L' := [aR 226, aI ((b : Nat) : Int), aI (n + 1)]) rfl ?_
      refine r_goto cd_228_23 ?_
      have hI2 : Inv0 (untW w q) := hI.unt hb hq1 hq3
      have hkn := unt_knots (b' := b) hq1 hq3
      rw [if_pos rfl] at hkn
      refine RU.res ?_ (ih (h := sw h 227 (.inl (0, 211, .inl (untW w q)))) (w := untW w q) (n + 1) ((sw_ne (by decide)).trans hM) (sw_at _ _ _) hI2 (by rw [unt_bN]; exact hb) (by omega))
      rw [relF, if_neg n1, hq2, Int.toNat_natCast, sw_sw]
theorem c_228 {h : aH} {s w : Nat → Int} (hM : h.2.2 226 = .inr (8, Mo s)) (hw : h.2.2 227 = .inl (0, 211, .inl w)) (hI : Inv0 w) (b : Nat) (g0 : b < nB w) : Ct 5 228 [aR 226, aI ((b : Nat) : Int)] h (.inl (some (aI (relN w b))), sw h 227 (.inl (0, 211, .inl (relW w b)))) := by
  refine Ct.of [aR 226, aI ((b : Nat) : Int), aU] rfl ?_
  have hbn := hI.bNe
  have hpn := hI.pNe
  have x0 := hI.len
  have x1 := hI.hour
  have x2 := hI.gas
  have x3 := hI.leak
  have x4 := hI.gn
  have x5 := hI.bn
  have x6 := hI.pn
  refine r_con (v := 0) cd_228_0 rfl (by decide) ?_
  refine r_ist cd_228_1 rfl rfl (L' := [aR 226, aI ((b : Nat) : Int), aI 0]) rfl ?_
  exact lp_228 b 17 0 hM hw hI g0 (by have := hI.knot b; omega)
theorem c_226 {h : aH} {s w : Nat → Int} (hM : h.2.2 226 = .inr (8, Mo s)) (hw : h.2.2 227 = .inl (0, 211, .inl w)) (hI : Inv0 w) (b : Nat) (g0 : b < nB w) : Ct 6 226 [aR 226, aI ((b : Nat) : Int)] h (.inl (some (aI (freeN w b))), sw h 227 (.inl (0, 211, .inl (freeW w b)))) := by
  refine Ct.of [aR 226, aI ((b : Nat) : Int)] rfl ?_
  have hbn := hI.bNe
  have hpn := hI.pNe
  have x0 := hI.len
  have x1 := hI.hour
  have x2 := hI.gas
  have x3 := hI.leak
  have x4 := hI.gn
  have x5 := hI.bn
  have x6 := hI.pn
  have hb0 := hI.bs b (by omega)
  refine r_aldR cd_226_0 rfl rfl ?_
  refine r_ild cd_226_1 rfl rfl ?_
  refine r_con (v := 3) cd_226_2 rfl (by decide) ?_
  refine r_con (v := 0) cd_226_3 rfl (by decide) ?_
  refine r_cV (c_200 hM hw b 3 0 (by omega)) cd_226_4 rfl rfl rfl (rc0 hM rfl) rfl rfl rfl ?_
  have hI2 : Inv0 (sbo w b 3 0) := hI.setB (k := 3) g0 (by omega) (by omega) (by omega) (by omega) (by omega)
  have eb : nB (sbo w b 3 0) = nB w := sbo_bN
  have el : bo (sbo w b 3 0) b 1 = bo w b 1 := by rw [sbo_bo (by omega) (by omega), if_neg (by omega)]
  refine r_aldR cd_226_7 rfl rfl ?_
  refine r_ild cd_226_8 rfl rfl ?_
  refine r_con (v := 2) cd_226_9 rfl (by decide) ?_
  refine r_aldR cd_226_10 rfl rfl ?_
  refine r_ild cd_226_11 rfl rfl ?_
  refine r_con (v := 1) cd_226_12 rfl (by decide) ?_
  refine r_cI (c_209 ((sw_ne (by decide)).trans hM) (sw_at _ _ _) b 1 (by omega)) cd_226_13 rfl rfl rfl (rc0 ((sw_ne (by decide)).trans hM) rfl) rfl rfl rfl ?_
  refine r_con (v := 1) cd_226_16 rfl (by decide) ?_
  refine r_sub (v := (bo (sbo w b 3 0) b 1) - 1) cd_226_17 rfl (by rfl) ?_
  refine r_cI (c_373 2 ⟨by omega, by omega⟩ ((bo (sbo w b 3 0) b 1) - 1) ⟨by omega, by omega⟩) cd_226_18 rfl rfl rfl True.intro rfl rfl rfl ?_
  refine r_cV (c_227 ((sw_ne (by decide)).trans hM) (sw_at _ _ _) b (minI 2 ((bo (sbo w b 3 0) b 1) - 1)) (by omega)) cd_226_21 rfl rfl rfl (rc0 ((sw_ne (by decide)).trans hM) rfl) rfl rfl rfl ?_
  rw [sw_sw]
  have hm9 : 0 ≤ minI 2 (bo (sbo w b 3 0) b 1 - 1) ∧ minI 2 (bo (sbo w b 3 0) b 1 - 1) < bo (sbo w b 3 0) b 1 := by rw [el]; unfold minI; split <;> omega
  have hI3 : Inv0 (fr1 w b) := los_inv hI2 (by omega) hm9.1 hm9.2
  have eb3 : nB (fr1 w b) = nB w := los_bN.trans eb
  refine r_aldR cd_226_24 rfl rfl ?_
  refine r_ild cd_226_25 rfl rfl ?_
  refine r_cI (c_228 ((sw_ne (by decide)).trans hM) (sw_at _ _ _) hI3 b (by omega)) cd_226_26 rfl rfl rfl (rc0 ((sw_ne (by decide)).trans hM) rfl) rfl rfl rfl ?_
  rw [sw_sw]
  exact r_ret cd_226_29 True.intro (rfl)
theorem lp_243 {s : Nat → Int} (b : Nat) (g sense : Int) (hg1 : -3 ≤ g) (hg2 : g ≤ 3) (hs : sense = 1 ∨ sense = -1) : ∀ (m k : Nat) {h : aH} {w : Nat → Int} (t : aV), h.2.2 226 = .inr (8, Mo s) → h.2.2 227 = .inl (0, 211, .inl w) → Inv0 w → b < nB w → (k : Int) + m = absI g → RU 6 243 (.inl none, sw h 227 (.inl (0, 211, .inl (carF b sense m w)))) (13, [aR 226, aI ((b : Nat) : Int), aI g, aI sense, aI ((k : Nat) : Int), t], [], 0, 0, h) := by
  intro m
  induction m with
  | zero =>
    intro k h w t hM hw hI hb hk
    have hbn := hI.bNe
    have hpn := hI.pNe
    have x0 := hI.len
    have x1 := hI.hour
    have x2 := hI.gas
    have x3 := hI.leak
    have x4 := hI.gn
    have x5 := hI.bn
    have x6 := hI.pn
    have hb0 := hI.bs b hb
    have hab : -3 ≤ absI g ∧ absI g ≤ 3 := by unfold absI; split <;> omega
    refine r_ild cd_243_13 rfl rfl ?_
    refine r_ild cd_243_15 rfl rfl ?_
    refine r_cI (c_239 g ⟨by omega, by omega⟩) cd_243_16 rfl rfl rfl True.intro rfl rfl rfl ?_
    refine r_ic64 cd_243_19 rfl ⟨by omega, by omega⟩ ⟨by omega, by omega⟩ (fun n1 => ?_) (fun n1 => ?_)
    · exact absurd n1 (by omega)
    · exact r_void cd_243_113 rfl (by rw [carF, sw_id hw])
  | succ m ih =>
    intro k h w t hM hw hI hb hk
    have hbn := hI.bNe
    have hpn := hI.pNe
    have x0 := hI.len
    have x1 := hI.hour
    have x2 := hI.gas
    have x3 := hI.leak
    have x4 := hI.gn
    have x5 := hI.bn
    have x6 := hI.pn
    have hb0 := hI.bs b hb
    have hab : -3 ≤ absI g ∧ absI g ≤ 3 := by unfold absI; split <;> omega
    refine r_ild cd_243_13 rfl rfl ?_
    refine r_ild cd_243_15 rfl rfl ?_
    refine r_cI (c_239 g ⟨by omega, by omega⟩) cd_243_16 rfl rfl rfl True.intro rfl rfl rfl ?_
    refine r_ic64 cd_243_19 rfl ⟨by omega, by omega⟩ ⟨by omega, by omega⟩ (fun n1 => ?_) (fun n1 => ?_)
    · refine r_aldR cd_243_22 rfl rfl ?_
      refine r_ild cd_243_23 rfl rfl ?_
      refine r_con (v := 3) cd_243_24 rfl (by decide) ?_
      refine r_cI (c_209 hM hw b 3 (by omega)) cd_243_25 rfl rfl rfl (rc0 hM rfl) rfl rfl rfl ?_
      refine r_con (v := 1) cd_243_28 rfl (by decide) ?_
      refine r_ic62 cd_243_29 rfl (hI.boR (by omega) (by omega)) ⟨by omega, by omega⟩ (fun n2 => ?_) (fun n2 => ?_)
      · refine r_aldR cd_243_32 rfl rfl ?_
        refine r_ild cd_243_33 rfl rfl ?_
        refine r_con (v := 0) cd_243_34 rfl (by decide) ?_
        refine r_cI (c_209 hM hw b 0 (by omega)) cd_243_35 rfl rfl rfl (rc0 hM rfl) rfl rfl rfl ?_
        refine r_ild cd_243_38 rfl rfl ?_
        refine r_add (v := (bo w b 0) + sense) cd_243_39 rfl (by rfl) ?_
        refine r_ist cd_243_40 rfl rfl (L' := [aR 226, aI ((b : Nat) : Int), aI g, aI sense, aI ((k : Nat) : Int), aI ((bo w b 0) + sense)]) rfl ?_
        refine r_aldR cd_243_42 rfl rfl ?_
        refine r_ild cd_243_43 rfl rfl ?_
        refine r_cI (c_244 hM hw hI ((bo w b 0) + sense) ⟨by omega, by omega⟩) cd_243_45 rfl rfl rfl (rc0 hM rfl) rfl rfl rfl ?_
        refine r_if51b cd_243_48 rfl (fun n3 => ?_) (fun n3 => ?_)
        · exact r_void cd_243_69 rfl (by rw [show carF b sense (m + 1) w = w by simp [carF, n1, n2, n3], sw_id hw])
        · have hp9 := isPl_iff.mp n3
          refine r_aldR cd_243_51 rfl rfl ?_
          refine r_get cd_243_52 rfl hM rfl ?_
          refine r_con (v := 23) cd_243_55 rfl (by decide) ?_
          refine r_ild cd_243_57 rfl rfl ?_
          refine r_add (v := ((23 + (bo w b 0 + sense).toNat : Nat) : Int)) cd_243_59 rfl (by omega) ?_
          refine r_arr (i := 23 + (bo w b 0 + sense).toNat) cd_243_60 rfl hw rfl (by omega) rfl ?_
          refine r_aldR cd_243_61 rfl rfl ?_
          refine r_ild cd_243_62 rfl rfl ?_
          refine r_cI (c_221 hM hw hI b (by omega)) cd_243_63 rfl rfl rfl (rc0 hM rfl) rfl rfl rfl ?_
          refine r_ic66 cd_243_66 rfl (inR_of (hI.roofs _ (by omega)) (by decide) (by decide)) (inR_of (hI.hgt (b := b) (by omega)) (by decide) (by decide)) (fun n4 => ?_) (fun n4 => ?_)
          · exact r_void cd_243_69 rfl (by rw [show carF b sense (m + 1) w = w by simp [carF, n1, n2, n3, n4], sw_id hw])
          · refine r_aldR cd_243_70 rfl rfl ?_
            refine r_ild cd_243_71 rfl rfl ?_
            refine r_con (v := 0) cd_243_72 rfl (by decide) ?_
            refine r_ild cd_243_73 rfl rfl ?_
            refine r_cV (c_200 hM hw b 0 ((bo w b 0) + sense) (by omega)) cd_243_75 rfl rfl rfl (rc0 hM rfl) rfl rfl rfl ?_
            have hI2 : Inv0 (sbo w b 0 (bo w b 0 + sense)) := hI.setB (k := 0) hb (by omega) (by omega) (by omega) (by omega) (by omega)
            have eb : nB (sbo w b 0 (bo w b 0 + sense)) = nB w := sbo_bN
            refine r_aldR cd_243_78 rfl rfl ?_
            refine r_ild cd_243_79 rfl rfl ?_
            refine r_con (v := 3) cd_243_80 rfl (by decide) ?_
            refine r_aldR cd_243_81 rfl rfl ?_
            refine r_get cd_243_82 rfl ((sw_ne (by decide)).trans hM) rfl ?_
            refine r_con (v := 53) cd_243_85 rfl (by decide) ?_
            refine r_ild cd_243_87 rfl rfl ?_
            refine r_add (v := ((53 + (bo w b 0 + sense).toNat : Nat) : Int)) cd_243_89 rfl (by omega) ?_
            refine r_arr (i := 53 + (bo w b 0 + sense).toNat) cd_243_90 rfl (sw_at _ _ _) rfl (by omega) rfl ?_
            refine r_aldR cd_243_91 rfl rfl ?_
            refine r_ild cd_243_92 rfl rfl ?_
            refine r_cI (c_221 ((sw_ne (by decide)).trans hM) (sw_at _ _ _) hI2 b (by omega)) cd_243_93 rfl rfl rfl (rc0 ((sw_ne (by decide)).trans hM) rfl) rfl rfl rfl ?_
            refine r_ic63 cd_243_96 rfl (inR_of (hI2.trees _ (by omega)) (by decide) (by decide)) (inR_of (hI2.hgt (b := b) (by omega)) (by decide) (by decide)) (fun n5 => ?_) (fun n5 => ?_)
            · refine r_con (v := 1) cd_243_103 rfl (by decide) ?_
              refine r_cV (c_200 ((sw_ne (by decide)).trans hM) (sw_at _ _ _) b 3 1 (by omega)) cd_243_104 rfl rfl rfl (rc0 ((sw_ne (by decide)).trans hM) rfl) rfl rfl rfl ?_
              rw [sw_sw]
              refine r_inc (v := ((k + 1 : Nat) : Int)) cd_243_107 rfl rfl rfl (by omega) (L' := [aR 226, aI ((b : Nat) : Int), aI g, aI sense, aI ((k + 1 : Nat) : Int), aI ((bo w b 0) + sense)]) rfl ?_
              refine r_goto cd_243_110 ?_
              have e9 : carF b sense (m + 1) w = carF b sense m (sbo (sbo w b 0 (bo w b 0 + sense)) b 3 1) := by simp [carF, ca1, n1, n2, n3, n4, n5]
              have hI3 : Inv0 (sbo (sbo w b 0 (bo w b 0 + sense)) b 3 1) := hI2.setB (k := 3) (by omega) (by omega) (by omega) (by omega) (by omega) (by omega)
              have eb3 : nB (sbo (sbo w b 0 (bo w b 0 + sense)) b 3 1) = nB w := sbo_bN.trans eb
              refine RU.res ?_ (ih (k + 1) (h := sw h 227 (.inl (0, 211, .inl (sbo (sbo w b 0 (bo w b 0 + sense)) b 3 1)))) (w := (sbo (sbo w b 0 (bo w b 0 + sense)) b 3 1)) (aI ((bo w b 0) + sense)) ((sw_ne (by decide)).trans hM) (sw_at _ _ _) hI3 (by omega) (by omega))
              rw [e9, sw_sw]
            · refine r_con (v := 2) cd_243_99 rfl (by decide) ?_
              refine r_goto cd_243_100 ?_
              refine r_cV (c_200 ((sw_ne (by decide)).trans hM) (sw_at _ _ _) b 3 2 (by omega)) cd_243_104 rfl rfl rfl (rc0 ((sw_ne (by decide)).trans hM) rfl) rfl rfl rfl ?_
              rw [sw_sw]
              refine r_inc (v := ((k + 1 : Nat) : Int)) cd_243_107 rfl rfl rfl (by omega) (L' := [aR 226, aI ((b : Nat) : Int), aI g, aI sense, aI ((k + 1 : Nat) : Int), aI ((bo w b 0) + sense)]) rfl ?_
              refine r_goto cd_243_110 ?_
              have e9 : carF b sense (m + 1) w = carF b sense m (sbo (sbo w b 0 (bo w b 0 + sense)) b 3 2) := by simp [carF, ca1, n1, n2, n3, n4, n5]
              have hI3 : Inv0 (sbo (sbo w b 0 (bo w b 0 + sense)) b 3 2) := hI2.setB (k := 3) (by omega) (by omega) (by omega) (by omega) (by omega) (by omega)
              have eb3 : nB (sbo (sbo w b 0 (bo w b 0 + sense)) b 3 2) = nB w := sbo_bN.trans eb
              refine RU.res ?_ (ih (k + 1) (h := sw h 227 (.inl (0, 211, .inl (sbo (sbo w b 0 (bo w b 0 + sense)) b 3 2)))) (w := (sbo (sbo w b 0 (bo w b 0 + sense)) b 3 2)) (aI ((bo w b 0) + sense)) ((sw_ne (by decide)).trans hM) (sw_at _ _ _) hI3 (by omega) (by omega))
              rw [e9, sw_sw]
      · exact r_void cd_243_113 rfl (by rw [show carF b sense (m + 1) w = w by simp [carF, n1, n2], sw_id hw])
    · exact absurd n1 (by omega)
theorem c_243 {h : aH} {s w : Nat → Int} (hM : h.2.2 226 = .inr (8, Mo s)) (hw : h.2.2 227 = .inl (0, 211, .inl w)) (hI : Inv0 w) (b : Nat) (g : Int) (hg : inR g) (g0 : b < nB w) (g1 : -3 ≤ g) (g2 : g ≤ 3) : Ct 6 243 [aR 226, aI ((b : Nat) : Int), aI g] h (.inl (none), sw h 227 (.inl (0, 211, .inl (carW w b g)))) := by
  refine Ct.of [aR 226, aI ((b : Nat) : Int), aI g, aU, aU, aU] rfl ?_
  have hbn := hI.bNe
  have hpn := hI.pNe
  have x0 := hI.len
  have x1 := hI.hour
  have x2 := hI.gas
  have x3 := hI.leak
  have x4 := hI.gn
  have x5 := hI.bn
  have x6 := hI.pn
  refine r_ild cd_243_0 rfl rfl ?_
  refine r_if54 cd_243_1 rfl hg (fun n1 => ?_) (fun n1 => ?_)
  · refine r_con (v := (-1)) cd_243_4 rfl (by decide) ?_
    refine r_goto cd_243_5 ?_
    refine r_ist cd_243_9 rfl rfl (L' := [aR 226, aI ((b : Nat) : Int), aI g, aI (-1), aU, aU]) rfl ?_
    refine r_con (v := 0) cd_243_10 rfl (by decide) ?_
    refine r_ist cd_243_11 rfl rfl (L' := [aR 226, aI ((b : Nat) : Int), aI g, aI (-1), aI 0, aU]) rfl ?_
    refine RU.res ?_ (lp_243 b g (-1) (by omega) (by omega) (by omega) (absI g).toNat 0 aU hM hw hI (by omega) (by unfold absI; split <;> omega))
    simp [carW, sens, n1]
  · refine r_con (v := 1) cd_243_8 rfl (by decide) ?_
    refine r_ist cd_243_9 rfl rfl (L' := [aR 226, aI ((b : Nat) : Int), aI g, aI 1, aU, aU]) rfl ?_
    refine r_con (v := 0) cd_243_10 rfl (by decide) ?_
    refine r_ist cd_243_11 rfl rfl (L' := [aR 226, aI ((b : Nat) : Int), aI g, aI 1, aI 0, aU]) rfl ?_
    refine RU.res ?_ (lp_243 b g 1 (by omega) (by omega) (by omega) (absI g).toNat 0 aU hM hw hI (by omega) (by unfold absI; split <;> omega))
    simp [carW, sens, n1]
theorem c_245 {h : aH} {s w : Nat → Int} (hM : h.2.2 226 = .inr (8, Mo s)) (hw : h.2.2 227 = .inl (0, 211, .inl w)) (hI : Inv0 w) (b : Nat) (g0 : b < nB w) : Ct 6 245 [aR 226, aI ((b : Nat) : Int)] h (.inl (none), sw h 227 (.inl (0, 211, .inl (leakW w b)))) := by
  refine Ct.of [aR 226, aI ((b : Nat) : Int), aU] rfl ?_
  have hbn := hI.bNe
  have hpn := hI.pNe
  have x0 := hI.len
  have x1 := hI.hour
  have x2 := hI.gas
  have x3 := hI.leak
  have x4 := hI.gn
  have x5 := hI.bn
  have x6 := hI.pn
  have hb0 := hI.bs b (by omega)
  refine r_aldR cd_245_0 rfl rfl ?_
  refine r_ild cd_245_1 rfl rfl ?_
  refine r_con (v := 3) cd_245_2 rfl (by decide) ?_
  refine r_cI (c_209 hM hw b 3 (by omega)) cd_245_3 rfl rfl rfl (rc0 hM rfl) rfl rfl rfl ?_
  refine r_con (v := 1) cd_245_6 rfl (by decide) ?_
  refine r_ic61 cd_245_7 rfl (hI.boR (by omega) (by omega)) ⟨by omega, by omega⟩ (fun n1 => ?_) (fun n1 => ?_)
  · refine r_aldR cd_245_11 rfl rfl ?_
    refine r_ild cd_245_12 rfl rfl ?_
    refine r_con (v := 1) cd_245_13 rfl (by decide) ?_
    refine r_cI (c_209 hM hw b 1 (by omega)) cd_245_14 rfl rfl rfl (rc0 hM rfl) rfl rfl rfl ?_
    refine r_con (v := 1) cd_245_17 rfl (by decide) ?_
    refine r_ic62 cd_245_18 rfl (hI.boR (by omega) (by omega)) ⟨by omega, by omega⟩ (fun n2 => ?_) (fun n2 => ?_)
    · refine r_con (v := 1) cd_245_21 rfl (by decide) ?_
      refine r_goto cd_245_22 ?_
      refine r_ist cd_245_26 rfl rfl (L' := [aR 226, aI ((b : Nat) : Int), aI 1]) rfl ?_
      refine r_aldR cd_245_27 rfl rfl ?_
      refine r_ild cd_245_28 rfl rfl ?_
      refine r_ild cd_245_29 rfl rfl ?_
      refine r_if51 cd_245_30 rfl ⟨by omega, by omega⟩ (fun n3 => ?_) (fun n3 => ?_)
      · exact absurd n3 (by decide)
      · refine r_con (v := 0) cd_245_33 rfl (by decide) ?_
        refine r_goto cd_245_34 ?_
        refine r_cV (c_227 hM hw b 0 (by omega)) cd_245_38 rfl rfl rfl (rc0 hM rfl) rfl rfl rfl ?_
        have hI2 : Inv0 (losW w b 0) := los_inv hI g0 (by omega) (by omega)
        have eb : nB (losW w b 0) = nB w := los_bN
        refine r_ild cd_245_41 rfl rfl ?_
        refine r_if52 cd_245_42 rfl ⟨by omega, by omega⟩ (fun n4 => ?_) (fun n4 => ?_)
        · exact absurd n4 (by decide)
        · refine r_aldR cd_245_53 rfl rfl ?_
          refine r_ild cd_245_54 rfl rfl ?_
          refine r_con (v := 3) cd_245_55 rfl (by decide) ?_
          refine r_con (v := 0) cd_245_56 rfl (by decide) ?_
          refine r_cV (c_200 ((sw_ne (by decide)).trans hM) (sw_at _ _ _) b 3 0 (by omega)) cd_245_57 rfl rfl rfl (rc0 ((sw_ne (by decide)).trans hM) rfl) rfl rfl rfl ?_
          rw [sw_sw]
          have hI3 : Inv0 (sbo (losW w b 0) b 3 0) := hI2.setB (k := 3) (by omega) (by omega) (by omega) (by omega) (by omega) (by omega)
          have eb3 : nB (sbo (losW w b 0) b 3 0) = nB w := sbo_bN.trans eb
          refine r_aldR cd_245_60 rfl rfl ?_
          refine r_ild cd_245_61 rfl rfl ?_
          refine r_cI (c_228 ((sw_ne (by decide)).trans hM) (sw_at _ _ _) hI3 b (by omega)) cd_245_62 rfl rfl rfl (rc0 ((sw_ne (by decide)).trans hM) rfl) rfl rfl rfl ?_
          rw [sw_sw]
          refine r_pop cd_245_65 rfl rfl ?_
          exact r_void cd_245_66 rfl (by simp [leakW, le1, n1, n2])
    · refine r_con (v := 0) cd_245_25 rfl (by decide) ?_
      refine r_ist cd_245_26 rfl rfl (L' := [aR 226, aI ((b : Nat) : Int), aI 0]) rfl ?_
      refine r_aldR cd_245_27 rfl rfl ?_
      refine r_ild cd_245_28 rfl rfl ?_
      refine r_ild cd_245_29 rfl rfl ?_
      refine r_if51 cd_245_30 rfl ⟨by omega, by omega⟩ (fun n5 => ?_) (fun n5 => ?_)
      · refine r_con (v := 1) cd_245_37 rfl (by decide) ?_
        refine r_cV (c_227 hM hw b 1 (by omega)) cd_245_38 rfl rfl rfl (rc0 hM rfl) rfl rfl rfl ?_
        have hI2 : Inv0 (losW w b 1) := los_inv hI g0 (by omega) (by omega)
        have eb : nB (losW w b 1) = nB w := los_bN
        refine r_ild cd_245_41 rfl rfl ?_
        refine r_if52 cd_245_42 rfl ⟨by omega, by omega⟩ (fun n6 => ?_) (fun n6 => ?_)
        · refine r_aldR cd_245_45 rfl rfl ?_
          refine r_ild cd_245_46 rfl rfl ?_
          refine r_cI (c_212 ((sw_ne (by decide)).trans hM) (sw_at _ _ _) hI2 b (by omega)) cd_245_47 rfl rfl rfl (rc0 ((sw_ne (by decide)).trans hM) rfl) rfl rfl rfl ?_
          refine r_if55 cd_245_50 rfl (inR_of (hI2.spr (b := b) (by omega)) (by decide) (by decide)) (fun n7 => ?_) (fun n7 => ?_)
          · exact r_void cd_245_66 rfl (by simp [leakW, le1, n1, n2, n7])
          · refine r_aldR cd_245_53 rfl rfl ?_
            refine r_ild cd_245_54 rfl rfl ?_
            refine r_con (v := 3) cd_245_55 rfl (by decide) ?_
            refine r_con (v := 0) cd_245_56 rfl (by decide) ?_
            refine r_cV (c_200 ((sw_ne (by decide)).trans hM) (sw_at _ _ _) b 3 0 (by omega)) cd_245_57 rfl rfl rfl (rc0 ((sw_ne (by decide)).trans hM) rfl) rfl rfl rfl ?_
            rw [sw_sw]
            have hI3 : Inv0 (sbo (losW w b 1) b 3 0) := hI2.setB (k := 3) (by omega) (by omega) (by omega) (by omega) (by omega) (by omega)
            have eb3 : nB (sbo (losW w b 1) b 3 0) = nB w := sbo_bN.trans eb
            refine r_aldR cd_245_60 rfl rfl ?_
            refine r_ild cd_245_61 rfl rfl ?_
            refine r_cI (c_228 ((sw_ne (by decide)).trans hM) (sw_at _ _ _) hI3 b (by omega)) cd_245_62 rfl rfl rfl (rc0 ((sw_ne (by decide)).trans hM) rfl) rfl rfl rfl ?_
            rw [sw_sw]
            refine r_pop cd_245_65 rfl rfl ?_
            exact r_void cd_245_66 rfl (by simp [leakW, le1, n1, n2, n7])
        · exact absurd n6 (by decide)
      · exact absurd n5 (by decide)
  · exact r_void cd_245_10 rfl (by rw [show leakW w b = w by simp [leakW, n1], sw_id hw])
