/-! THE REFERENCE: loops of its face (written by wip/whole/gen22.py) -/
theorem lp_289_26 {h : aH} {s w : Nat → Int} (hM : h.2.2 226 = .inr (8, Mo s)) (hw : h.2.2 227 = .inl (0, 211, .inl w)) (hI : Inv0 w) {res : aRes} (x : Int) (hx : inR x) : ∀ (m i : Nat) (acc : Int), i + m = nP w → RU 3 289 res (62, [aR 226, aI x, aI (itF (setG (fun p => lies w p x)) i m acc), aI ((i + m : Nat) : Int)], [], 0, 0, h) → RU 3 289 res (26, [aR 226, aI x, aI acc, aI ((i : Nat) : Int)], [], 0, 0, h) := by
  have hbn := hI.bNe
  have hpn := hI.pNe
  have x0 := hI.len
  have x1 := hI.hour
  have x2 := hI.gas
  have x3 := hI.leak
  have x4 := hI.gn
  have x5 := hI.bn
  have x6 := hI.pn
  intro m
  induction m with
  | zero =>
    intro i acc hm hk
    refine r_ild cd_289_26 rfl rfl ?_
    refine r_aldR cd_289_27 rfl rfl ?_
    refine r_get cd_289_28 rfl hM rfl ?_
    refine r_con (v := 6) cd_289_31 rfl (by decide) ?_
    refine r_arr (i := 6) cd_289_33 rfl hw rfl (by omega) rfl ?_
    refine r_ic64 cd_289_34 rfl ⟨by omega, by omega⟩ (inR_of hI.pn (by decide) (by decide)) (fun n1 => ?_) (fun n1 => ?_)
    · exact absurd n1 (by omega)
    · exact hk
  | succ m ih =>
    intro i acc hm hk
    refine r_ild cd_289_26 rfl rfl ?_
    refine r_aldR cd_289_27 rfl rfl ?_
    refine r_get cd_289_28 rfl hM rfl ?_
    refine r_con (v := 6) cd_289_31 rfl (by decide) ?_
    refine r_arr (i := 6) cd_289_33 rfl hw rfl (by omega) rfl ?_
    refine r_ic64 cd_289_34 rfl ⟨by omega, by omega⟩ (inR_of hI.pn (by decide) (by decide)) (fun n1 => ?_) (fun n1 => ?_)
    · refine r_ild cd_289_37 rfl rfl ?_
      refine r_aldR cd_289_38 rfl rfl ?_
      refine r_ild cd_289_39 rfl rfl ?_
      refine r_ild cd_289_40 rfl rfl ?_
      refine r_cI (c_236 hM hw hI i x hx (by omega)) cd_289_41 rfl rfl rfl (rc0 hM rfl) rfl rfl rfl ?_
      refine r_if51b cd_289_44 rfl (fun n2 => ?_) (fun n2 => ?_)
      · refine r_con (v := 0) cd_289_53 rfl (by decide) ?_
        refine r_or cd_289_54 rfl ?_
        refine r_ist cd_289_55 rfl rfl (L' := [aR 226, aI x, aI (orI acc 0), aI ((i : Nat) : Int)]) rfl ?_
        refine r_inc (v := ((i + 1 : Nat) : Int)) cd_289_56 rfl rfl rfl (by omega) (L' := [aR 226, aI x, aI (orI acc 0), aI ((i + 1 : Nat) : Int)]) rfl ?_
        refine r_goto cd_289_59 ?_
        have e9 : itF (setG (fun p => lies w p x)) i (m + 1) acc = itF (setG (fun p => lies w p x)) (i + 1) m (orI acc 0) := itF_step (by first | rfl | (simp [setG, bz, n1, n2]; done) | (simp [setG, bz, n1, n2]; omega) | (unfold setG; split <;> first | rfl | omega | (simp_all; done) | (simp_all; omega)))
        rw [e9, show i + (m + 1) = i + 1 + m by omega] at hk
        exact ih (i + 1) (orI acc 0) (by omega) hk
      · refine r_con (v := 1) cd_289_47 rfl (by decide) ?_
        refine r_ild cd_289_48 rfl rfl ?_
        refine r_shl cd_289_49 rfl ?_
        refine r_goto cd_289_50 ?_
        refine r_or cd_289_54 rfl ?_
        refine r_ist cd_289_55 rfl rfl (L' := [aR 226, aI x, aI (orI acc (shlI 1 ((i : Nat) : Int))), aI ((i : Nat) : Int)]) rfl ?_
        refine r_inc (v := ((i + 1 : Nat) : Int)) cd_289_56 rfl rfl rfl (by omega) (L' := [aR 226, aI x, aI (orI acc (shlI 1 ((i : Nat) : Int))), aI ((i + 1 : Nat) : Int)]) rfl ?_
        refine r_goto cd_289_59 ?_
        have e9 : itF (setG (fun p => lies w p x)) i (m + 1) acc = itF (setG (fun p => lies w p x)) (i + 1) m (orI acc (shlI 1 ((i : Nat) : Int))) := itF_step (by first | rfl | (simp [setG, bz, n1, n2]; done) | (simp [setG, bz, n1, n2]; omega) | (unfold setG; split <;> first | rfl | omega | (simp_all; done) | (simp_all; omega)))
        rw [e9, show i + (m + 1) = i + 1 + m by omega] at hk
        exact ih (i + 1) (orI acc (shlI 1 ((i : Nat) : Int))) (by omega) hk
    · exact absurd n1 (by omega)
theorem c_289 {h : aH} {s w : Nat → Int} (hM : h.2.2 226 = .inr (8, Mo s)) (hw : h.2.2 227 = .inl (0, 211, .inl w)) (hI : Inv0 w) (x : Int) (hx : inR x) : Ct 3 289 [aR 226, aI x] h (.inl (some (aI (if isPl w x = true then setF (fun p => lies w p x) (nP w) else 0))), sw h 226 (.inr (8, Mo (va_up s 15 (bz (!isPl w x)))))) := by
  refine Ct.of [aR 226, aI x, aU, aU] rfl ?_
  have hbn := hI.bNe
  have hpn := hI.pNe
  have x0 := hI.len
  have x1 := hI.hour
  have x2 := hI.gas
  have x3 := hI.leak
  have x4 := hI.gn
  have x5 := hI.bn
  have x6 := hI.pn
  refine r_aldR cd_289_0 rfl rfl ?_
  refine r_aldR cd_289_1 rfl rfl ?_
  refine r_ild cd_289_2 rfl rfl ?_
  refine r_cI (c_244 hM hw hI x hx) cd_289_3 rfl rfl rfl (rc0 hM rfl) rfl rfl rfl ?_
  refine r_if52b cd_289_6 rfl (fun n1 => ?_) (fun n1 => ?_)
  · refine r_con (v := 1) cd_289_9 rfl (by decide) ?_
    refine r_goto cd_289_10 ?_
    refine r_cI (c_250 hM true) cd_289_14 rfl rfl rfl (rc0 hM rfl) rfl rfl rfl ?_
    refine r_if51b cd_289_17 rfl (fun n2 => ?_) (fun n2 => ?_)
    · exact absurd n2 (by decide)
    · refine r_con (v := 0) cd_289_20 rfl (by decide) ?_
      exact r_ret cd_289_21 True.intro (by first | rfl | (simp [setF, bz, n1]; done))
  · refine r_con (v := 0) cd_289_13 rfl (by decide) ?_
    refine r_cI (c_250 hM false) cd_289_14 rfl rfl rfl (rc0 hM rfl) rfl rfl rfl ?_
    show RU _ _ _ (_, _, _, _, _, sw _ 226 (.inr (8, Mo (va_up s 15 0))))
    refine r_if51b cd_289_17 rfl (fun n3 => ?_) (fun n3 => ?_)
    · refine r_con (v := 0) cd_289_22 rfl (by decide) ?_
      refine r_ist cd_289_23 rfl rfl (L' := [aR 226, aI x, aI 0, aU]) rfl ?_
      refine r_con (v := 0) cd_289_24 rfl (by decide) ?_
      refine r_ist cd_289_25 rfl rfl (L' := [aR 226, aI x, aI 0, aI 0]) rfl ?_
      refine lp_289_26 (sw_at _ _ _) ((sw_ne (by decide)).trans hw) hI x hx (nP w) 0 (0) (by omega) ?_
      refine r_ild cd_289_62 rfl rfl ?_
      exact r_ret cd_289_63 True.intro (by first | rfl | (simp [setF, bz, n1]; done))
    · exact absurd n3 (by decide)
theorem lp_297_26 {h : aH} {s w : Nat → Int} (hM : h.2.2 226 = .inr (8, Mo s)) (hw : h.2.2 227 = .inl (0, 211, .inl w)) (hI : Inv0 w) {res : aRes} (b : Nat) (hb : b < 8) : ∀ (m i : Nat) (acc : Int), i + m = nP w → RU 3 297 res (62, [aR 226, aI ((b : Nat) : Int), aI (itF (setG (fun p => tied w p b)) i m acc), aI ((i + m : Nat) : Int)], [], 0, 0, h) → RU 3 297 res (26, [aR 226, aI ((b : Nat) : Int), aI acc, aI ((i : Nat) : Int)], [], 0, 0, h) := by
  have hbn := hI.bNe
  have hpn := hI.pNe
  have x0 := hI.len
  have x1 := hI.hour
  have x2 := hI.gas
  have x3 := hI.leak
  have x4 := hI.gn
  have x5 := hI.bn
  have x6 := hI.pn
  intro m
  induction m with
  | zero =>
    intro i acc hm hk
    refine r_ild cd_297_26 rfl rfl ?_
    refine r_aldR cd_297_27 rfl rfl ?_
    refine r_get cd_297_28 rfl hM rfl ?_
    refine r_con (v := 6) cd_297_31 rfl (by decide) ?_
    refine r_arr (i := 6) cd_297_33 rfl hw rfl (by omega) rfl ?_
    refine r_ic64 cd_297_34 rfl ⟨by omega, by omega⟩ (inR_of hI.pn (by decide) (by decide)) (fun n1 => ?_) (fun n1 => ?_)
    · exact absurd n1 (by omega)
    · exact hk
  | succ m ih =>
    intro i acc hm hk
    refine r_ild cd_297_26 rfl rfl ?_
    refine r_aldR cd_297_27 rfl rfl ?_
    refine r_get cd_297_28 rfl hM rfl ?_
    refine r_con (v := 6) cd_297_31 rfl (by decide) ?_
    refine r_arr (i := 6) cd_297_33 rfl hw rfl (by omega) rfl ?_
    refine r_ic64 cd_297_34 rfl ⟨by omega, by omega⟩ (inR_of hI.pn (by decide) (by decide)) (fun n1 => ?_) (fun n1 => ?_)
    · refine r_ild cd_297_37 rfl rfl ?_
      refine r_aldR cd_297_38 rfl rfl ?_
      refine r_ild cd_297_39 rfl rfl ?_
      refine r_ild cd_297_40 rfl rfl ?_
      refine r_cI (c_211 hM hw hI i b (by omega) (by omega)) cd_297_41 rfl rfl rfl (rc0 hM rfl) rfl rfl rfl ?_
      refine r_if51b cd_297_44 rfl (fun n2 => ?_) (fun n2 => ?_)
      · refine r_con (v := 0) cd_297_53 rfl (by decide) ?_
        refine r_or cd_297_54 rfl ?_
        refine r_ist cd_297_55 rfl rfl (L' := [aR 226, aI ((b : Nat) : Int), aI (orI acc 0), aI ((i : Nat) : Int)]) rfl ?_
        refine r_inc (v := ((i + 1 : Nat) : Int)) cd_297_56 rfl rfl rfl (by omega) (L' := [aR 226, aI ((b : Nat) : Int), aI (orI acc 0), aI ((i + 1 : Nat) : Int)]) rfl ?_
        refine r_goto cd_297_59 ?_
        have e9 : itF (setG (fun p => tied w p b)) i (m + 1) acc = itF (setG (fun p => tied w p b)) (i + 1) m (orI acc 0) := itF_step (by first | rfl | (simp [setG, bz, n1, n2]; done) | (simp [setG, bz, n1, n2]; omega) | (unfold setG; split <;> first | rfl | omega | (simp_all; done) | (simp_all; omega)))
        rw [e9, show i + (m + 1) = i + 1 + m by omega] at hk
        exact ih (i + 1) (orI acc 0) (by omega) hk
      · refine r_con (v := 1) cd_297_47 rfl (by decide) ?_
        refine r_ild cd_297_48 rfl rfl ?_
        refine r_shl cd_297_49 rfl ?_
        refine r_goto cd_297_50 ?_
        refine r_or cd_297_54 rfl ?_
        refine r_ist cd_297_55 rfl rfl (L' := [aR 226, aI ((b : Nat) : Int), aI (orI acc (shlI 1 ((i : Nat) : Int))), aI ((i : Nat) : Int)]) rfl ?_
        refine r_inc (v := ((i + 1 : Nat) : Int)) cd_297_56 rfl rfl rfl (by omega) (L' := [aR 226, aI ((b : Nat) : Int), aI (orI acc (shlI 1 ((i : Nat) : Int))), aI ((i + 1 : Nat) : Int)]) rfl ?_
        refine r_goto cd_297_59 ?_
        have e9 : itF (setG (fun p => tied w p b)) i (m + 1) acc = itF (setG (fun p => tied w p b)) (i + 1) m (orI acc (shlI 1 ((i : Nat) : Int))) := itF_step (by first | rfl | (simp [setG, bz, n1, n2]; done) | (simp [setG, bz, n1, n2]; omega) | (unfold setG; split <;> first | rfl | omega | (simp_all; done) | (simp_all; omega)))
        rw [e9, show i + (m + 1) = i + 1 + m by omega] at hk
        exact ih (i + 1) (orI acc (shlI 1 ((i : Nat) : Int))) (by omega) hk
    · exact absurd n1 (by omega)
theorem c_297 {h : aH} {s w : Nat → Int} (hM : h.2.2 226 = .inr (8, Mo s)) (hw : h.2.2 227 = .inl (0, 211, .inl w)) (hI : Inv0 w) (x : Int) (hx : inR x) : Ct 3 297 [aR 226, aI x] h (.inl (some (aI (if isBa w x = true then setF (fun p => tied w p x.toNat) (nP w) else 0))), sw h 226 (.inr (8, Mo (va_up s 15 (bz (!isBa w x)))))) := by
  refine Ct.of [aR 226, aI x, aU, aU] rfl ?_
  have hbn := hI.bNe
  have hpn := hI.pNe
  have x0 := hI.len
  have x1 := hI.hour
  have x2 := hI.gas
  have x3 := hI.leak
  have x4 := hI.gn
  have x5 := hI.bn
  have x6 := hI.pn
  refine r_aldR cd_297_0 rfl rfl ?_
  refine r_aldR cd_297_1 rfl rfl ?_
  refine r_ild cd_297_2 rfl rfl ?_
  refine r_cI (c_265 hM hw hI x hx) cd_297_3 rfl rfl rfl (rc0 hM rfl) rfl rfl rfl ?_
  refine r_if52b cd_297_6 rfl (fun n1 => ?_) (fun n1 => ?_)
  · refine r_con (v := 1) cd_297_9 rfl (by decide) ?_
    refine r_goto cd_297_10 ?_
    refine r_cI (c_250 hM true) cd_297_14 rfl rfl rfl (rc0 hM rfl) rfl rfl rfl ?_
    refine r_if51b cd_297_17 rfl (fun n2 => ?_) (fun n2 => ?_)
    · exact absurd n2 (by decide)
    · refine r_con (v := 0) cd_297_20 rfl (by decide) ?_
      exact r_ret cd_297_21 True.intro (by first | rfl | (simp [setF, bz, n1]; done))
  · have e_x := isBa_iff.mp n1
    obtain ⟨qx, rfl⟩ : ∃ qx : Nat, x = (qx : Int) := ⟨x.toNat, by omega⟩
    refine r_con (v := 0) cd_297_13 rfl (by decide) ?_
    refine r_cI (c_250 hM false) cd_297_14 rfl rfl rfl (rc0 hM rfl) rfl rfl rfl ?_
    show RU _ _ _ (_, _, _, _, _, sw _ 226 (.inr (8, Mo (va_up s 15 0))))
    refine r_if51b cd_297_17 rfl (fun n3 => ?_) (fun n3 => ?_)
    · refine r_con (v := 0) cd_297_22 rfl (by decide) ?_
      refine r_ist cd_297_23 rfl rfl (L' := [aR 226, aI ((qx : Nat) : Int), aI 0, aU]) rfl ?_
      refine r_con (v := 0) cd_297_24 rfl (by decide) ?_
      refine r_ist cd_297_25 rfl rfl (L' := [aR 226, aI ((qx : Nat) : Int), aI 0, aI 0]) rfl ?_
      refine lp_297_26 (sw_at _ _ _) ((sw_ne (by decide)).trans hw) hI qx (by omega) (nP w) 0 (0) (by omega) ?_
      refine r_ild cd_297_62 rfl rfl ?_
      exact r_ret cd_297_63 True.intro (by first | rfl | (simp [setF, bz, n1]; done))
    · exact absurd n3 (by decide)
theorem lp_298_9 {h : aH} {s w : Nat → Int} (hM : h.2.2 226 = .inr (8, Mo s)) (hw : h.2.2 227 = .inl (0, 211, .inl w)) (hI : Inv0 w) {res : aRes} : ∀ (m i : Nat) (acc : Int), i + m = nB w → RU 2 298 res (45, [aR 226, aI (itF (setG (flyF w)) i m acc), aI ((i + m : Nat) : Int)], [], 0, 0, h) → RU 2 298 res (9, [aR 226, aI acc, aI ((i : Nat) : Int)], [], 0, 0, h) := by
  have hbn := hI.bNe
  have hpn := hI.pNe
  have x0 := hI.len
  have x1 := hI.hour
  have x2 := hI.gas
  have x3 := hI.leak
  have x4 := hI.gn
  have x5 := hI.bn
  have x6 := hI.pn
  intro m
  induction m with
  | zero =>
    intro i acc hm hk
    refine r_ild cd_298_9 rfl rfl ?_
    refine r_aldR cd_298_10 rfl rfl ?_
    refine r_get cd_298_11 rfl hM rfl ?_
    refine r_con (v := 5) cd_298_14 rfl (by decide) ?_
    refine r_arr (i := 5) cd_298_15 rfl hw rfl (by omega) rfl ?_
    refine r_ic64 cd_298_16 rfl ⟨by omega, by omega⟩ (inR_of hI.bn (by decide) (by decide)) (fun n1 => ?_) (fun n1 => ?_)
    · exact absurd n1 (by omega)
    · exact hk
  | succ m ih =>
    intro i acc hm hk
    refine r_ild cd_298_9 rfl rfl ?_
    refine r_aldR cd_298_10 rfl rfl ?_
    refine r_get cd_298_11 rfl hM rfl ?_
    refine r_con (v := 5) cd_298_14 rfl (by decide) ?_
    refine r_arr (i := 5) cd_298_15 rfl hw rfl (by omega) rfl ?_
    refine r_ic64 cd_298_16 rfl ⟨by omega, by omega⟩ (inR_of hI.bn (by decide) (by decide)) (fun n1 => ?_) (fun n1 => ?_)
    · refine r_ild cd_298_19 rfl rfl ?_
      refine r_aldR cd_298_20 rfl rfl ?_
      refine r_ild cd_298_21 rfl rfl ?_
      refine r_con (v := 3) cd_298_22 rfl (by decide) ?_
      refine r_cI (c_209 hM hw i 3 (by omega)) cd_298_23 rfl rfl rfl (rc0 hM rfl) rfl rfl rfl ?_
      refine r_con (v := 1) cd_298_26 rfl (by decide) ?_
      refine r_ic62 cd_298_27 rfl (hI.boR (by omega) (by omega)) ⟨by omega, by omega⟩ (fun n2 => ?_) (fun n2 => ?_)
      · refine r_con (v := 1) cd_298_30 rfl (by decide) ?_
        refine r_ild cd_298_31 rfl rfl ?_
        refine r_shl cd_298_32 rfl ?_
        refine r_goto cd_298_33 ?_
        refine r_or cd_298_37 rfl ?_
        refine r_ist cd_298_38 rfl rfl (L' := [aR 226, aI (orI acc (shlI 1 ((i : Nat) : Int))), aI ((i : Nat) : Int)]) rfl ?_
        refine r_inc (v := ((i + 1 : Nat) : Int)) cd_298_39 rfl rfl rfl (by omega) (L' := [aR 226, aI (orI acc (shlI 1 ((i : Nat) : Int))), aI ((i + 1 : Nat) : Int)]) rfl ?_
        refine r_goto cd_298_42 ?_
        have e9 : itF (setG (flyF w)) i (m + 1) acc = itF (setG (flyF w)) (i + 1) m (orI acc (shlI 1 ((i : Nat) : Int))) := itF_step (by first | rfl | (simp [setG, flyF, bz, n1, n2]; done) | (simp [setG, flyF, bz, n1, n2]; omega) | (unfold setG; split <;> first | rfl | omega | (simp_all; done) | (simp_all; omega)))
        rw [e9, show i + (m + 1) = i + 1 + m by omega] at hk
        exact ih (i + 1) (orI acc (shlI 1 ((i : Nat) : Int))) (by omega) hk
      · refine r_con (v := 0) cd_298_36 rfl (by decide) ?_
        refine r_or cd_298_37 rfl ?_
        refine r_ist cd_298_38 rfl rfl (L' := [aR 226, aI (orI acc 0), aI ((i : Nat) : Int)]) rfl ?_
        refine r_inc (v := ((i + 1 : Nat) : Int)) cd_298_39 rfl rfl rfl (by omega) (L' := [aR 226, aI (orI acc 0), aI ((i + 1 : Nat) : Int)]) rfl ?_
        refine r_goto cd_298_42 ?_
        have e9 : itF (setG (flyF w)) i (m + 1) acc = itF (setG (flyF w)) (i + 1) m (orI acc 0) := itF_step (by first | rfl | (simp [setG, flyF, bz, n1, n2]; done) | (simp [setG, flyF, bz, n1, n2]; omega) | (unfold setG; split <;> first | rfl | omega | (simp_all; done) | (simp_all; omega)))
        rw [e9, show i + (m + 1) = i + 1 + m by omega] at hk
        exact ih (i + 1) (orI acc 0) (by omega) hk
    · exact absurd n1 (by omega)
theorem c_298 {h : aH} {s w : Nat → Int} (hM : h.2.2 226 = .inr (8, Mo s)) (hw : h.2.2 227 = .inl (0, 211, .inl w)) (hI : Inv0 w)  : Ct 2 298 [aR 226] h (.inl (some (aI (setF (flyF w) (nB w)))), sw h 226 (.inr (8, Mo (va_up s 15 (0))))) := by
  refine Ct.of [aR 226, aU, aU] rfl ?_
  have hbn := hI.bNe
  have hpn := hI.pNe
  have x0 := hI.len
  have x1 := hI.hour
  have x2 := hI.gas
  have x3 := hI.leak
  have x4 := hI.gn
  have x5 := hI.bn
  have x6 := hI.pn
  refine r_aldR cd_298_0 rfl rfl ?_
  refine r_con (v := 0) cd_298_1 rfl (by decide) ?_
  refine r_put (fs' := Mo (va_up s 15 0)) cd_298_2 rfl hM rfl rfl ?_
  refine r_con (v := 0) cd_298_5 rfl (by decide) ?_
  refine r_ist cd_298_6 rfl rfl (L' := [aR 226, aI 0, aU]) rfl ?_
  refine r_con (v := 0) cd_298_7 rfl (by decide) ?_
  refine r_ist cd_298_8 rfl rfl (L' := [aR 226, aI 0, aI 0]) rfl ?_
  refine lp_298_9 (sw_at _ _ _) ((sw_ne (by decide)).trans hw) hI  (nB w) 0 (0) (by omega) ?_
  refine r_ild cd_298_45 rfl rfl ?_
  exact r_ret cd_298_46 True.intro (by first | rfl | (simp [setF, bz]; done))
theorem lp_322_4 {h : aH} {s w : Nat → Int} (hM : h.2.2 226 = .inr (8, Mo s)) (hw : h.2.2 227 = .inl (0, 211, .inl w)) (hI : Inv0 w) {res : aRes} : ∀ (m i : Nat) (acc : Int), i + m = nB w → RU 2 322 res (29, [aR 226, aI (itF (lftG w) i m acc), aI ((i + m : Nat) : Int)], [], 0, 0, h) → RU 2 322 res (4, [aR 226, aI acc, aI ((i : Nat) : Int)], [], 0, 0, h) := by
  have hbn := hI.bNe
  have hpn := hI.pNe
  have x0 := hI.len
  have x1 := hI.hour
  have x2 := hI.gas
  have x3 := hI.leak
  have x4 := hI.gn
  have x5 := hI.bn
  have x6 := hI.pn
  intro m
  induction m with
  | zero =>
    intro i acc hm hk
    refine r_ild cd_322_4 rfl rfl ?_
    refine r_aldR cd_322_5 rfl rfl ?_
    refine r_get cd_322_6 rfl hM rfl ?_
    refine r_con (v := 5) cd_322_9 rfl (by decide) ?_
    refine r_arr (i := 5) cd_322_10 rfl hw rfl (by omega) rfl ?_
    refine r_ic64 cd_322_11 rfl ⟨by omega, by omega⟩ (inR_of hI.bn (by decide) (by decide)) (fun n1 => ?_) (fun n1 => ?_)
    · exact absurd n1 (by omega)
    · exact hk
  | succ m ih =>
    intro i acc hm hk
    refine r_ild cd_322_4 rfl rfl ?_
    refine r_aldR cd_322_5 rfl rfl ?_
    refine r_get cd_322_6 rfl hM rfl ?_
    refine r_con (v := 5) cd_322_9 rfl (by decide) ?_
    refine r_arr (i := 5) cd_322_10 rfl hw rfl (by omega) rfl ?_
    refine r_ic64 cd_322_11 rfl ⟨by omega, by omega⟩ (inR_of hI.bn (by decide) (by decide)) (fun n1 => ?_) (fun n1 => ?_)
    · refine r_ild cd_322_14 rfl rfl ?_
      refine r_aldR cd_322_15 rfl rfl ?_
      refine r_ild cd_322_16 rfl rfl ?_
      refine r_con (v := 1) cd_322_17 rfl (by decide) ?_
      refine r_cI (c_209 hM hw i 1 (by omega)) cd_322_18 rfl rfl rfl (rc0 hM rfl) rfl rfl rfl ?_
      refine r_add (v := acc + (bo w i 1)) cd_322_21 rfl (by rfl) ?_
      refine r_ist cd_322_22 rfl rfl (L' := [aR 226, aI (acc + (bo w i 1)), aI ((i : Nat) : Int)]) rfl ?_
      refine r_inc (v := ((i + 1 : Nat) : Int)) cd_322_23 rfl rfl rfl (by omega) (L' := [aR 226, aI (acc + (bo w i 1)), aI ((i + 1 : Nat) : Int)]) rfl ?_
      refine r_goto cd_322_26 ?_
      have e9 : itF (lftG w) i (m + 1) acc = itF (lftG w) (i + 1) m (acc + (bo w i 1)) := itF_step (by first | rfl | (simp [lftG, bz, n1]; done) | (simp [lftG, bz, n1]; omega) | (unfold lftG; split <;> first | rfl | omega | (simp_all; done) | (simp_all; omega)))
      rw [e9, show i + (m + 1) = i + 1 + m by omega] at hk
      exact ih (i + 1) (acc + (bo w i 1)) (by omega) hk
    · exact absurd n1 (by omega)
theorem c_322 {h : aH} {s w : Nat → Int} (hM : h.2.2 226 = .inr (8, Mo s)) (hw : h.2.2 227 = .inl (0, 211, .inl w)) (hI : Inv0 w)  : Ct 2 322 [aR 226] h (.inl (some (aI (lftS w))), h) := by
  refine Ct.of [aR 226, aU, aU] rfl ?_
  have hbn := hI.bNe
  have hpn := hI.pNe
  have x0 := hI.len
  have x1 := hI.hour
  have x2 := hI.gas
  have x3 := hI.leak
  have x4 := hI.gn
  have x5 := hI.bn
  have x6 := hI.pn
  refine r_con (v := 0) cd_322_0 rfl (by decide) ?_
  refine r_ist cd_322_1 rfl rfl (L' := [aR 226, aI 0, aU]) rfl ?_
  refine r_con (v := 0) cd_322_2 rfl (by decide) ?_
  refine r_ist cd_322_3 rfl rfl (L' := [aR 226, aI 0, aI 0]) rfl ?_
  refine lp_322_4 hM hw hI  (nB w) 0 (0) (by omega) ?_
  refine r_ild cd_322_29 rfl rfl ?_
  exact r_ret cd_322_30 True.intro (rI rfl)
theorem whyT_b (w : Nat → Int) (p b : Nat) : 0 ≤ whyT w p b ∧ whyT w p b ≤ 6 := by
  unfold whyT
  repeat' split
  all_goals omega
theorem whyL_b (w : Nat → Int) (b : Nat) : 0 ≤ whyL w b ∧ whyL w b ≤ 6 := by
  unfold whyL
  repeat' split
  all_goals omega
theorem lp_311_26 {h : aH} {s w : Nat → Int} (hM : h.2.2 226 = .inr (8, Mo s)) (hw : h.2.2 227 = .inl (0, 211, .inl w)) (hI : Inv0 w) {res : aRes} (p : Nat) (hp : p < nP w) : ∀ (m i : Nat) (acc : Int), i + m = nB w → -1 ≤ acc → acc < i → RU 6 311 res (71, [aR 226, aI ((p : Nat) : Int), aI (itF (bstG w p) i m acc), aI ((i + m : Nat) : Int)], [], 0, 0, h) → RU 6 311 res (26, [aR 226, aI ((p : Nat) : Int), aI acc, aI ((i : Nat) : Int)], [], 0, 0, h) := by
  have hbn := hI.bNe
  have hpn := hI.pNe
  have x0 := hI.len
  have x1 := hI.hour
  have x2 := hI.gas
  have x3 := hI.leak
  have x4 := hI.gn
  have x5 := hI.bn
  have x6 := hI.pn
  intro m
  induction m with
  | zero =>
    intro i acc hm ha1 ha2 hk
    refine r_ild cd_311_26 rfl rfl ?_
    refine r_aldR cd_311_27 rfl rfl ?_
    refine r_get cd_311_28 rfl hM rfl ?_
    refine r_con (v := 5) cd_311_31 rfl (by decide) ?_
    refine r_arr (i := 5) cd_311_32 rfl hw rfl (by omega) rfl ?_
    refine r_ic64 cd_311_33 rfl ⟨by omega, by omega⟩ (inR_of hI.bn (by decide) (by decide)) (fun n1 => ?_) (fun n1 => ?_)
    · exact absurd n1 (by omega)
    · exact hk
  | succ m ih =>
    intro i acc hm ha1 ha2 hk
    refine r_ild cd_311_26 rfl rfl ?_
    refine r_aldR cd_311_27 rfl rfl ?_
    refine r_get cd_311_28 rfl hM rfl ?_
    refine r_con (v := 5) cd_311_31 rfl (by decide) ?_
    refine r_arr (i := 5) cd_311_32 rfl hw rfl (by omega) rfl ?_
    refine r_ic64 cd_311_33 rfl ⟨by omega, by omega⟩ (inR_of hI.bn (by decide) (by decide)) (fun n1 => ?_) (fun n1 => ?_)
    · refine r_aldR cd_311_36 rfl rfl ?_
      refine r_ild cd_311_37 rfl rfl ?_
      refine r_ild cd_311_38 rfl rfl ?_
      refine r_cI (c_208 hM hw hI p i (by omega) (by omega)) cd_311_39 rfl rfl rfl (rc0 hM rfl) rfl rfl rfl ?_
      refine r_if52 cd_311_42 rfl (inR_of (whyT_b w p i) (by decide) (by decide)) (fun n2 => ?_) (fun n2 => ?_)
      · refine r_ild cd_311_45 rfl rfl ?_
        refine r_con (v := (-1)) cd_311_46 rfl (by decide) ?_
        refine r_ic61 cd_311_47 rfl ⟨by omega, by omega⟩ ⟨by omega, by omega⟩ (fun n3 => ?_) (fun n3 => ?_)
        · refine r_ild cd_311_63 rfl rfl ?_
          refine r_ist cd_311_64 rfl rfl (L' := [aR 226, aI ((p : Nat) : Int), aI ((i : Nat) : Int), aI ((i : Nat) : Int)]) rfl ?_
          refine r_inc (v := ((i + 1 : Nat) : Int)) cd_311_65 rfl rfl rfl (by omega) (L' := [aR 226, aI ((p : Nat) : Int), aI ((i : Nat) : Int), aI ((i + 1 : Nat) : Int)]) rfl ?_
          refine r_goto cd_311_68 ?_
          have e9 : itF (bstG w p) i (m + 1) acc = itF (bstG w p) (i + 1) m (((i : Nat) : Int)) := itF_step (by first | rfl | (simp [bstG, bz, n1, n2, n3]; done) | (simp [bstG, bz, n1, n2, n3]; omega) | (unfold bstG; split <;> first | rfl | omega | (simp_all; done) | (simp_all; omega)))
          rw [e9, show i + (m + 1) = i + 1 + m by omega] at hk
          exact ih (i + 1) (((i : Nat) : Int)) (by omega) (by omega) (by omega) hk
        · obtain ⟨q, rfl⟩ : ∃ q : Nat, acc = (q : Int) := ⟨acc.toNat, by omega⟩
          refine r_aldR cd_311_50 rfl rfl ?_
          refine r_ild cd_311_51 rfl rfl ?_
          refine r_cI (c_212 hM hw hI i (by omega)) cd_311_52 rfl rfl rfl (rc0 hM rfl) rfl rfl rfl ?_
          refine r_aldR cd_311_55 rfl rfl ?_
          refine r_ild cd_311_56 rfl rfl ?_
          refine r_cI (c_212 hM hw hI q (by omega)) cd_311_57 rfl rfl rfl (rc0 hM rfl) rfl rfl rfl ?_
          refine r_ic64 cd_311_60 rfl (inR_of (hI.spr (b := i) (by omega)) (by decide) (by decide)) (inR_of (hI.spr (b := q) (by omega)) (by decide) (by decide)) (fun n4 => ?_) (fun n4 => ?_)
          · refine r_ild cd_311_63 rfl rfl ?_
            refine r_ist cd_311_64 rfl rfl (L' := [aR 226, aI ((p : Nat) : Int), aI ((i : Nat) : Int), aI ((i : Nat) : Int)]) rfl ?_
            refine r_inc (v := ((i + 1 : Nat) : Int)) cd_311_65 rfl rfl rfl (by omega) (L' := [aR 226, aI ((p : Nat) : Int), aI ((i : Nat) : Int), aI ((i + 1 : Nat) : Int)]) rfl ?_
            refine r_goto cd_311_68 ?_
            have e9 : itF (bstG w p) i (m + 1) ((q : Nat) : Int) = itF (bstG w p) (i + 1) m (((i : Nat) : Int)) := itF_step (by first | rfl | (simp [bstG, bz, n1, n2, n3, n4]; done) | (simp [bstG, bz, n1, n2, n3, n4]; omega) | (unfold bstG; split <;> first | rfl | omega | (simp_all; done) | (simp_all; omega)))
            rw [e9, show i + (m + 1) = i + 1 + m by omega] at hk
            exact ih (i + 1) (((i : Nat) : Int)) (by omega) (by omega) (by omega) hk
          · refine r_inc (v := ((i + 1 : Nat) : Int)) cd_311_65 rfl rfl rfl (by omega) (L' := [aR 226, aI ((p : Nat) : Int), aI ((q : Nat) : Int), aI ((i + 1 : Nat) : Int)]) rfl ?_
            refine r_goto cd_311_68 ?_
            have e9 : itF (bstG w p) i (m + 1) ((q : Nat) : Int) = itF (bstG w p) (i + 1) m (((q : Nat) : Int)) := itF_step (by first | rfl | (simp [bstG, bz, n1, n2, n3, n4]; done) | (simp [bstG, bz, n1, n2, n3, n4]; omega) | (unfold bstG; split <;> first | rfl | omega | (simp_all; done) | (simp_all; omega)))
            rw [e9, show i + (m + 1) = i + 1 + m by omega] at hk
            exact ih (i + 1) (((q : Nat) : Int)) (by omega) (by omega) (by omega) hk
      · refine r_inc (v := ((i + 1 : Nat) : Int)) cd_311_65 rfl rfl rfl (by omega) (L' := [aR 226, aI ((p : Nat) : Int), aI acc, aI ((i + 1 : Nat) : Int)]) rfl ?_
        refine r_goto cd_311_68 ?_
        have e9 : itF (bstG w p) i (m + 1) acc = itF (bstG w p) (i + 1) m (acc) := itF_step (by first | rfl | (simp [bstG, bz, n1, n2]; done) | (simp [bstG, bz, n1, n2]; omega) | (unfold bstG; split <;> first | rfl | omega | (simp_all; done) | (simp_all; omega)))
        rw [e9, show i + (m + 1) = i + 1 + m by omega] at hk
        exact ih (i + 1) (acc) (by omega) (by omega) (by omega) hk
    · exact absurd n1 (by omega)
theorem c_311 {h : aH} {s w : Nat → Int} (hM : h.2.2 226 = .inr (8, Mo s)) (hw : h.2.2 227 = .inl (0, 211, .inl w)) (hI : Inv0 w) (x : Int) (hx : inR x) : Ct 6 311 [aR 226, aI x] h (.inl (some (aI (if isPa w x = true then bstB w x.toNat else 0))), sw h 226 (.inr (8, Mo (va_up s 15 (bz (!isPa w x)))))) := by
  refine Ct.of [aR 226, aI x, aU, aU] rfl ?_
  have hbn := hI.bNe
  have hpn := hI.pNe
  have x0 := hI.len
  have x1 := hI.hour
  have x2 := hI.gas
  have x3 := hI.leak
  have x4 := hI.gn
  have x5 := hI.bn
  have x6 := hI.pn
  refine r_aldR cd_311_0 rfl rfl ?_
  refine r_aldR cd_311_1 rfl rfl ?_
  refine r_ild cd_311_2 rfl rfl ?_
  refine r_cI (c_264 hM hw hI x hx) cd_311_3 rfl rfl rfl (rc0 hM rfl) rfl rfl rfl ?_
  refine r_if52b cd_311_6 rfl (fun n1 => ?_) (fun n1 => ?_)
  · refine r_con (v := 1) cd_311_9 rfl (by decide) ?_
    refine r_goto cd_311_10 ?_
    refine r_cI (c_250 hM true) cd_311_14 rfl rfl rfl (rc0 hM rfl) rfl rfl rfl ?_
    refine r_if51b cd_311_17 rfl (fun n2 => ?_) (fun n2 => ?_)
    · exact absurd n2 (by decide)
    · refine r_con (v := 0) cd_311_20 rfl (by decide) ?_
      exact r_ret cd_311_21 True.intro (by first | rfl | (simp [bstB, bz, n1]; done))
  · have e_x := isPa_iff.mp n1
    obtain ⟨qx, rfl⟩ : ∃ qx : Nat, x = (qx : Int) := ⟨x.toNat, by omega⟩
    refine r_con (v := 0) cd_311_13 rfl (by decide) ?_
    refine r_cI (c_250 hM false) cd_311_14 rfl rfl rfl (rc0 hM rfl) rfl rfl rfl ?_
    show RU _ _ _ (_, _, _, _, _, sw _ 226 (.inr (8, Mo (va_up s 15 0))))
    refine r_if51b cd_311_17 rfl (fun n3 => ?_) (fun n3 => ?_)
    · refine r_con (v := (-1)) cd_311_22 rfl (by decide) ?_
      refine r_ist cd_311_23 rfl rfl (L' := [aR 226, aI ((qx : Nat) : Int), aI (-1), aU]) rfl ?_
      refine r_con (v := 0) cd_311_24 rfl (by decide) ?_
      refine r_ist cd_311_25 rfl rfl (L' := [aR 226, aI ((qx : Nat) : Int), aI (-1), aI 0]) rfl ?_
      refine lp_311_26 (sw_at _ _ _) ((sw_ne (by decide)).trans hw) hI qx (by omega) (nB w) 0 ((-1)) (by omega) (by omega) (by omega) ?_
      refine r_ild cd_311_71 rfl rfl ?_
      exact r_ret cd_311_72 True.intro (by first | rfl | (simp [bstB, bz, n1]; done))
    · exact absurd n3 (by decide)
theorem lp_328 {h : aH} {s w : Nat → Int} (hM : h.2.2 226 = .inr (8, Mo s)) (hw : h.2.2 227 = .inl (0, 211, .inl w)) (hI : Inv0 w) (x : Int) (hx : inR x)  : ∀ (m i : Nat) (r : Int), i + m = nB w → r = fiF (batF w x) i m → RU 2 328 (.inl (some (aI r)), h) (2, [aR 226, aI x, aI ((i : Nat) : Int)], [], 0, 0, h) := by
  have hbn := hI.bNe
  have hpn := hI.pNe
  have x0 := hI.len
  have x1 := hI.hour
  have x2 := hI.gas
  have x3 := hI.leak
  have x4 := hI.gn
  have x5 := hI.bn
  have x6 := hI.pn
  intro m
  induction m with
  | zero =>
    intro i r hm hr
    refine r_ild cd_328_2 rfl rfl ?_
    refine r_aldR cd_328_3 rfl rfl ?_
    refine r_get cd_328_4 rfl hM rfl ?_
    refine r_con (v := 5) cd_328_7 rfl (by decide) ?_
    refine r_arr (i := 5) cd_328_8 rfl hw rfl (by omega) rfl ?_
    refine r_ic64 cd_328_9 rfl ⟨by omega, by omega⟩ (inR_of hI.bn (by decide) (by decide)) (fun n1 => ?_) (fun n1 => ?_)
    · exact absurd n1 (by omega)
    · refine r_con (v := (-1)) cd_328_30 rfl (by decide) ?_
      exact r_ret cd_328_31 True.intro (rI hr)
  | succ m ih =>
    intro i r hm hr
    refine r_ild cd_328_2 rfl rfl ?_
    refine r_aldR cd_328_3 rfl rfl ?_
    refine r_get cd_328_4 rfl hM rfl ?_
    refine r_con (v := 5) cd_328_7 rfl (by decide) ?_
    refine r_arr (i := 5) cd_328_8 rfl hw rfl (by omega) rfl ?_
    refine r_ic64 cd_328_9 rfl ⟨by omega, by omega⟩ (inR_of hI.bn (by decide) (by decide)) (fun n1 => ?_) (fun n1 => ?_)
    · refine r_aldR cd_328_12 rfl rfl ?_
      refine r_ild cd_328_13 rfl rfl ?_
      refine r_con (v := 0) cd_328_14 rfl (by decide) ?_
      refine r_cI (c_209 hM hw i 0 (by omega)) cd_328_15 rfl rfl rfl (rc0 hM rfl) rfl rfl rfl ?_
      refine r_ild cd_328_18 rfl rfl ?_
      refine r_ic62 cd_328_19 rfl (hI.boR (by omega) (by omega)) hx (fun n2 => ?_) (fun n2 => ?_)
      · refine r_ild cd_328_22 rfl rfl ?_
        exact r_ret cd_328_23 True.intro (rI (hr.trans (fiF_y (by first | rfl | (simp [batF, bz, n1, n2]; done)))))
      · refine r_inc (v := ((i + 1 : Nat) : Int)) cd_328_24 rfl rfl rfl (by omega) (L' := [aR 226, aI x, aI ((i + 1 : Nat) : Int)]) rfl ?_
        refine r_goto cd_328_27 ?_
        exact ih (i + 1) r (by omega) (hr.trans (fiF_n (by first | rfl | (simp [batF, bz, n1, n2]; done))))
    · exact absurd n1 (by omega)
theorem c_328 {h : aH} {s w : Nat → Int} (hM : h.2.2 226 = .inr (8, Mo s)) (hw : h.2.2 227 = .inl (0, 211, .inl w)) (hI : Inv0 w) (x : Int) (hx : inR x) : Ct 2 328 [aR 226, aI x] h (.inl (some (aI (baAt w x))), h) := by
  refine Ct.of [aR 226, aI x, aU] rfl ?_
  have hbn := hI.bNe
  have hpn := hI.pNe
  have x0 := hI.len
  have x1 := hI.hour
  have x2 := hI.gas
  have x3 := hI.leak
  have x4 := hI.gn
  have x5 := hI.bn
  have x6 := hI.pn
  refine r_con (v := 0) cd_328_0 rfl (by decide) ?_
  refine r_ist cd_328_1 rfl rfl (L' := [aR 226, aI x, aI 0]) rfl ?_
  exact lp_328 hM hw hI x hx (nB w) 0 _ (by omega) rfl
theorem lp_329 {h : aH} {s w : Nat → Int} (hM : h.2.2 226 = .inr (8, Mo s)) (hw : h.2.2 227 = .inl (0, 211, .inl w)) (hI : Inv0 w) (x : Int) (hx : inR x) : ∀ (m i : Nat) (r : Int), i + m = nP w → r = fiF (fun p => lies w p x) i m → RU 3 329 (.inl (some (aI (bz (!decide (r = -1))))), h) (2, [aR 226, aI x, aI ((i : Nat) : Int)], [], 0, 0, h) := by
  have hbn := hI.bNe
  have hpn := hI.pNe
  have x0 := hI.len
  have x1 := hI.hour
  have x2 := hI.gas
  have x3 := hI.leak
  have x4 := hI.gn
  have x5 := hI.bn
  have x6 := hI.pn
  intro m
  induction m with
  | zero =>
    intro i r hm hr
    refine r_ild cd_329_2 rfl rfl ?_
    refine r_aldR cd_329_3 rfl rfl ?_
    refine r_get cd_329_4 rfl hM rfl ?_
    refine r_con (v := 6) cd_329_7 rfl (by decide) ?_
    refine r_arr (i := 6) cd_329_9 rfl hw rfl (by omega) rfl ?_
    refine r_ic64 cd_329_10 rfl ⟨by omega, by omega⟩ (inR_of hI.pn (by decide) (by decide)) (fun n1 => ?_) (fun n1 => ?_)
    · exact absurd n1 (by omega)
    · refine r_con (v := 0) cd_329_30 rfl (by decide) ?_
      exact r_ret cd_329_31 (Or.inl rfl) (by rw [show r = -1 from hr]; rfl)
  | succ m ih =>
    intro i r hm hr
    refine r_ild cd_329_2 rfl rfl ?_
    refine r_aldR cd_329_3 rfl rfl ?_
    refine r_get cd_329_4 rfl hM rfl ?_
    refine r_con (v := 6) cd_329_7 rfl (by decide) ?_
    refine r_arr (i := 6) cd_329_9 rfl hw rfl (by omega) rfl ?_
    refine r_ic64 cd_329_10 rfl ⟨by omega, by omega⟩ (inR_of hI.pn (by decide) (by decide)) (fun n1 => ?_) (fun n1 => ?_)
    · refine r_aldR cd_329_13 rfl rfl ?_
      refine r_ild cd_329_14 rfl rfl ?_
      refine r_ild cd_329_15 rfl rfl ?_
      refine r_cI (c_236 hM hw hI i x hx (by omega)) cd_329_16 rfl rfl rfl (rc0 hM rfl) rfl rfl rfl ?_
      refine r_if51b cd_329_19 rfl (fun n2 => ?_) (fun n2 => ?_)
      · refine r_inc (v := ((i + 1 : Nat) : Int)) cd_329_24 rfl rfl rfl (by omega) (L' := [aR 226, aI x, aI ((i + 1 : Nat) : Int)]) rfl ?_
        refine r_goto cd_329_27 ?_
        exact ih (i + 1) r (by omega) (hr.trans (fiF_n (by simp [n1, n2])))
      · refine r_con (v := 1) cd_329_22 rfl (by decide) ?_
        exact r_ret cd_329_23 (Or.inr rfl) (by rw [show r = (i : Int) from hr.trans (fiF_y (by simp [n1, n2])), show decide ((i : Int) = -1) = false from decide_eq_false (by omega)]; rfl)
    · exact absurd n1 (by omega)
theorem c_329 {h : aH} {s w : Nat → Int} (hM : h.2.2 226 = .inr (8, Mo s)) (hw : h.2.2 227 = .inl (0, 211, .inl w)) (hI : Inv0 w) (x : Int) (hx : inR x) : Ct 3 329 [aR 226, aI x] h (.inl (some (aI (bz (!decide (paAt w x = -1))))), h) := by
  refine Ct.of [aR 226, aI x, aU] rfl ?_
  have hbn := hI.bNe
  have hpn := hI.pNe
  have x0 := hI.len
  have x1 := hI.hour
  have x2 := hI.gas
  have x3 := hI.leak
  have x4 := hI.gn
  have x5 := hI.bn
  have x6 := hI.pn
  refine r_con (v := 0) cd_329_0 rfl (by decide) ?_
  refine r_ist cd_329_1 rfl rfl (L' := [aR 226, aI x, aI 0]) rfl ?_
  exact lp_329 hM hw hI x hx (nP w) 0 _ (by omega) rfl
theorem baAt_b {w : Nat → Int} (x : Int) : -1 ≤ baAt w x ∧ baAt w x < (nB w : Int) := by
  have h1 := fiF_ge (f := batF w x) (i := 0) (m := nB w)
  have h2 := fiF_lt (f := batF w x) (i := 0) (m := nB w)
  unfold baAt
  omega
theorem c_327 {h : aH} {s w : Nat → Int} (hM : h.2.2 226 = .inr (8, Mo s)) (hw : h.2.2 227 = .inl (0, 211, .inl w)) (hI : Inv0 w) (x : Nat) (g0 : x < 30) : Ct 4 327 [aR 226, aI ((x : Nat) : Int)] h (.inl (some (aI (markI w x))), h) := by
  refine Ct.of [aR 226, aI ((x : Nat) : Int), aU] rfl ?_
  have hbn := hI.bNe
  have hpn := hI.pNe
  have x0 := hI.len
  have x1 := hI.hour
  have x2 := hI.gas
  have x3 := hI.leak
  have x4 := hI.gn
  have x5 := hI.bn
  have x6 := hI.pn
  have hba := baAt_b (w := w) ((x : Nat) : Int)
  refine r_aldR cd_327_0 rfl rfl ?_
  refine r_ild cd_327_1 rfl rfl ?_
  refine r_cI (c_328 hM hw hI ((x : Nat) : Int) ⟨by omega, by omega⟩) cd_327_2 rfl rfl rfl (rc0 hM rfl) rfl rfl rfl ?_
  refine r_ist cd_327_5 rfl rfl (L' := [aR 226, aI ((x : Nat) : Int), aI (baAt w ((x : Nat) : Int))]) rfl ?_
  refine r_ild cd_327_6 rfl rfl ?_
  refine r_con (v := (-1)) cd_327_7 rfl (by decide) ?_
  refine r_ic61 cd_327_8 rfl ⟨by omega, by omega⟩ ⟨by omega, by omega⟩ (fun n1 => ?_) (fun n1 => ?_)
  · refine r_aldR cd_327_16 rfl rfl ?_
    refine r_ild cd_327_17 rfl rfl ?_
    refine r_cI (c_329 hM hw hI ((x : Nat) : Int) ⟨by omega, by omega⟩) cd_327_18 rfl rfl rfl (rc0 hM rfl) rfl rfl rfl ?_
    refine r_if51b cd_327_21 rfl (fun n2 => ?_) (fun n2 => ?_)
    · refine r_aldR cd_327_27 rfl rfl ?_
      refine r_get cd_327_28 rfl hM rfl ?_
      refine r_con (v := 53) cd_327_31 rfl (by decide) ?_
      refine r_ild cd_327_33 rfl rfl ?_
      refine r_add (v := ((53 + x : Nat) : Int)) cd_327_34 rfl (by omega) ?_
      refine r_arr (i := 53 + x) cd_327_35 rfl hw rfl (by omega) rfl ?_
      refine r_if56 cd_327_36 rfl (inR_of (hI.trees x (by omega)) (by decide) (by decide)) (fun n3 => ?_) (fun n3 => ?_)
      · refine r_con (v := 116) cd_327_39 rfl (by decide) ?_
        refine r_goto cd_327_41 ?_
        exact r_ret cd_327_63 True.intro (rI (by first | (simp_all [markI]; done) | (simp_all [markI]; rw [if_neg (by omega), if_neg (by omega)])))
      · refine r_aldR cd_327_44 rfl rfl ?_
        refine r_get cd_327_45 rfl hM rfl ?_
        refine r_con (v := 23) cd_327_48 rfl (by decide) ?_
        refine r_ild cd_327_50 rfl rfl ?_
        refine r_add (v := ((23 + x : Nat) : Int)) cd_327_51 rfl (by omega) ?_
        refine r_arr (i := 23 + x) cd_327_52 rfl hw rfl (by omega) rfl ?_
        refine r_if56 cd_327_53 rfl (inR_of (hI.roofs x (by omega)) (by decide) (by decide)) (fun n4 => ?_) (fun n4 => ?_)
        · refine r_con (v := 114) cd_327_56 rfl (by decide) ?_
          refine r_goto cd_327_58 ?_
          exact r_ret cd_327_63 True.intro (rI (by first | (simp_all [markI]; done) | (simp_all [markI]; rw [if_neg (by omega), if_neg (by omega)])))
        · refine r_con (v := 46) cd_327_61 rfl (by decide) ?_
          exact r_ret cd_327_63 True.intro (rI (by first | (simp_all [markI]; done) | (simp_all [markI]; rw [if_neg (by omega), if_neg (by omega)])))
    · refine r_con (v := 112) cd_327_24 rfl (by decide) ?_
      exact r_ret cd_327_26 True.intro (rI (by first | (simp_all [markI]; done) | (simp_all [markI]; rw [if_neg (by omega), if_neg (by omega)])))
  · refine r_con (v := 48) cd_327_11 rfl (by decide) ?_
    refine r_ild cd_327_13 rfl rfl ?_
    refine r_add (v := 48 + (baAt w ((x : Nat) : Int))) cd_327_14 rfl (by rfl) ?_
    exact r_ret cd_327_15 True.intro (rI (by first | (simp_all [markI]; done) | (simp_all [markI]; rw [if_neg (by omega), if_neg (by omega)])))
