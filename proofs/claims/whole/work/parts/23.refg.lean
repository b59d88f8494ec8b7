/-! THE REFERENCE: numbers of the whole, copies (written by wip/whole/gen23.py) -/
theorem lp_325 {h : aH} {s w : Nat → Int} (hM : h.2.2 226 = .inr (8, Mo s)) (hw : h.2.2 227 = .inl (0, 211, .inl w)) (hI : Inv0 w) (p : Nat) (hp : p < nP w) : ∀ (m i : Nat) (acc r : Int) (t : aV), i + m = p → r = itF (dblG w p) i m acc → RU 2 325 (.inl (some (aI r)), h) (4, [aR 226, aI ((p : Nat) : Int), aI acc, aI ((i : Nat) : Int), t], [], 0, 0, h) := by
  have hbn := hI.bNe
  have hpn := hI.pNe
  have x0 := hI.len
  have x1 := hI.hour
  have x2 := hI.gas
  have x3 := hI.leak
  have x4 := hI.gn
  have x5 := hI.bn
  have x6 := hI.pn
  intro m
  induction m with
  | zero =>
    intro i acc r t hm hr
    refine r_ild cd_325_4 rfl rfl ?_
    refine r_ild cd_325_5 rfl rfl ?_
    refine r_ic64 cd_325_6 rfl ⟨by omega, by omega⟩ ⟨by omega, by omega⟩ (fun n1 => ?_) (fun n1 => ?_)
    · exact absurd n1 (by omega)
    · refine r_ild cd_325_70 rfl rfl ?_
      exact r_ret cd_325_71 True.intro (rI hr)
  | succ m ih =>
    intro i acc r t hm hr
    refine r_ild cd_325_4 rfl rfl ?_
    refine r_ild cd_325_5 rfl rfl ?_
    refine r_ic64 cd_325_6 rfl ⟨by omega, by omega⟩ ⟨by omega, by omega⟩ (fun n1 => ?_) (fun n1 => ?_)
    · refine r_aldR cd_325_9 rfl rfl ?_
      refine r_ild cd_325_10 rfl rfl ?_
      refine r_con (v := 4) cd_325_11 rfl (by decide) ?_
      refine r_cI (c_203 hM hw p 4 (by omega)) cd_325_12 rfl rfl rfl (rc0 hM rfl) rfl rfl rfl ?_
      refine r_con (v := 2) cd_325_15 rfl (by decide) ?_
      refine r_ic61 cd_325_16 rfl (hI.paR (by omega) (by omega)) ⟨by omega, by omega⟩ (fun n2 => ?_) (fun n2 => ?_)
      · refine r_con (v := 0) cd_325_33 rfl (by decide) ?_
        refine r_ist cd_325_34 rfl rfl (L' := [aR 226, aI ((p : Nat) : Int), aI acc, aI ((i : Nat) : Int), aI 0]) rfl ?_
        refine r_ild cd_325_36 rfl rfl ?_
        refine r_ild cd_325_37 rfl rfl ?_
        refine r_if51 cd_325_39 rfl ⟨by omega, by omega⟩ (fun n3 => ?_) (fun n3 => ?_)
        · refine r_con (v := 0) cd_325_61 rfl (by decide) ?_
          refine r_add (v := acc + 0) cd_325_62 rfl (by rfl) ?_
          refine r_ist cd_325_63 rfl rfl (L' := [aR 226, aI ((p : Nat) : Int), aI (acc + 0), aI ((i : Nat) : Int), aI 0]) rfl ?_
          refine r_inc (v := ((i + 1 : Nat) : Int)) cd_325_64 rfl rfl rfl (by omega) (L' := [aR 226, aI ((p : Nat) : Int), aI (acc + 0), aI ((i + 1 : Nat) : Int), aI 0]) rfl ?_
          refine r_goto cd_325_67 ?_
          exact ih (i + 1) (acc + 0) r _ (by omega) (hr.trans (itF_step (by first | (simp [dblG, n1, n2]; done) | (simp_all [dblG]; done))))
        · exact absurd n3 (by decide)
      · refine r_aldR cd_325_19 rfl rfl ?_
        refine r_ild cd_325_20 rfl rfl ?_
        refine r_con (v := 4) cd_325_21 rfl (by decide) ?_
        refine r_cI (c_203 hM hw i 4 (by omega)) cd_325_22 rfl rfl rfl (rc0 hM rfl) rfl rfl rfl ?_
        refine r_con (v := 2) cd_325_25 rfl (by decide) ?_
        refine r_ic61 cd_325_26 rfl (hI.paR (by omega) (by omega)) ⟨by omega, by omega⟩ (fun n4 => ?_) (fun n4 => ?_)
        · refine r_con (v := 0) cd_325_33 rfl (by decide) ?_
          refine r_ist cd_325_34 rfl rfl (L' := [aR 226, aI ((p : Nat) : Int), aI acc, aI ((i : Nat) : Int), aI 0]) rfl ?_
          refine r_ild cd_325_36 rfl rfl ?_
          refine r_ild cd_325_37 rfl rfl ?_
          refine r_if51 cd_325_39 rfl ⟨by omega, by omega⟩ (fun n5 => ?_) (fun n5 => ?_)
          · refine r_con (v := 0) cd_325_61 rfl (by decide) ?_
            refine r_add (v := acc + 0) cd_325_62 rfl (by rfl) ?_
            refine r_ist cd_325_63 rfl rfl (L' := [aR 226, aI ((p : Nat) : Int), aI (acc + 0), aI ((i : Nat) : Int), aI 0]) rfl ?_
            refine r_inc (v := ((i + 1 : Nat) : Int)) cd_325_64 rfl rfl rfl (by omega) (L' := [aR 226, aI ((p : Nat) : Int), aI (acc + 0), aI ((i + 1 : Nat) : Int), aI 0]) rfl ?_
            refine r_goto cd_325_67 ?_
            exact ih (i + 1) (acc + 0) r _ (by omega) (hr.trans (itF_step (by first | (simp [dblG, n1, n2, n4]; done) | (simp_all [dblG]; done))))
          · exact absurd n5 (by decide)
        · refine r_con (v := 1) cd_325_29 rfl (by decide) ?_
          refine r_goto cd_325_30 ?_
          refine r_ist cd_325_34 rfl rfl (L' := [aR 226, aI ((p : Nat) : Int), aI acc, aI ((i : Nat) : Int), aI 1]) rfl ?_
          refine r_ild cd_325_36 rfl rfl ?_
          refine r_ild cd_325_37 rfl rfl ?_
          refine r_if51 cd_325_39 rfl ⟨by omega, by omega⟩ (fun n6 => ?_) (fun n6 => ?_)
          · exact absurd n6 (by decide)
          · refine r_aldR cd_325_42 rfl rfl ?_
            refine r_ild cd_325_43 rfl rfl ?_
            refine r_con (v := 3) cd_325_44 rfl (by decide) ?_
            refine r_cI (c_203 hM hw p 3 (by omega)) cd_325_45 rfl rfl rfl (rc0 hM rfl) rfl rfl rfl ?_
            refine r_aldR cd_325_48 rfl rfl ?_
            refine r_ild cd_325_49 rfl rfl ?_
            refine r_con (v := 3) cd_325_50 rfl (by decide) ?_
            refine r_cI (c_203 hM hw i 3 (by omega)) cd_325_51 rfl rfl rfl (rc0 hM rfl) rfl rfl rfl ?_
            refine r_ic62 cd_325_54 rfl (hI.paR (by omega) (by omega)) (hI.paR (by omega) (by omega)) (fun n7 => ?_) (fun n7 => ?_)
            · refine r_con (v := 1) cd_325_57 rfl (by decide) ?_
              refine r_goto cd_325_58 ?_
              refine r_add (v := acc + 1) cd_325_62 rfl (by rfl) ?_
              refine r_ist cd_325_63 rfl rfl (L' := [aR 226, aI ((p : Nat) : Int), aI (acc + 1), aI ((i : Nat) : Int), aI 1]) rfl ?_
              refine r_inc (v := ((i + 1 : Nat) : Int)) cd_325_64 rfl rfl rfl (by omega) (L' := [aR 226, aI ((p : Nat) : Int), aI (acc + 1), aI ((i + 1 : Nat) : Int), aI 1]) rfl ?_
              refine r_goto cd_325_67 ?_
              exact ih (i + 1) (acc + 1) r _ (by omega) (hr.trans (itF_step (by first | (simp [dblG, n1, n2, n4, n7]; done) | (simp_all [dblG]; done))))
            · refine r_con (v := 0) cd_325_61 rfl (by decide) ?_
              refine r_add (v := acc + 0) cd_325_62 rfl (by rfl) ?_
              refine r_ist cd_325_63 rfl rfl (L' := [aR 226, aI ((p : Nat) : Int), aI (acc + 0), aI ((i : Nat) : Int), aI 1]) rfl ?_
              refine r_inc (v := ((i + 1 : Nat) : Int)) cd_325_64 rfl rfl rfl (by omega) (L' := [aR 226, aI ((p : Nat) : Int), aI (acc + 0), aI ((i + 1 : Nat) : Int), aI 1]) rfl ?_
              refine r_goto cd_325_67 ?_
              exact ih (i + 1) (acc + 0) r _ (by omega) (hr.trans (itF_step (by first | (simp [dblG, n1, n2, n4, n7]; done) | (simp_all [dblG]; done))))
    · exact absurd n1 (by omega)
theorem c_325 {h : aH} {s w : Nat → Int} (hM : h.2.2 226 = .inr (8, Mo s)) (hw : h.2.2 227 = .inl (0, 211, .inl w)) (hI : Inv0 w) (p : Nat) (g0 : p < nP w) : Ct 2 325 [aR 226, aI ((p : Nat) : Int)] h (.inl (some (aI (dbl w p))), h) := by
  refine Ct.of [aR 226, aI ((p : Nat) : Int), aU, aU, aU] rfl ?_
  have hbn := hI.bNe
  have hpn := hI.pNe
  have x0 := hI.len
  have x1 := hI.hour
  have x2 := hI.gas
  have x3 := hI.leak
  have x4 := hI.gn
  have x5 := hI.bn
  have x6 := hI.pn
  refine r_con (v := 0) cd_325_0 rfl (by decide) ?_
  refine r_ist cd_325_1 rfl rfl (L' := [aR 226, aI ((p : Nat) : Int), aI 0, aU, aU]) rfl ?_
  refine r_con (v := 0) cd_325_2 rfl (by decide) ?_
  refine r_ist cd_325_3 rfl rfl (L' := [aR 226, aI ((p : Nat) : Int), aI 0, aI 0, aU]) rfl ?_
  exact lp_325 hM hw hI p (by omega) p 0 0 _ aU (by omega) rfl
theorem lp_324_31 {h : aH} {s w : Nat → Int} (hM : h.2.2 226 = .inr (8, Mo s)) (hw : h.2.2 227 = .inl (0, 211, .inl w)) (hI : Inv0 w) {res : aRes} : ∀ (m i : Nat) (acc : Int), i + m = nB w → RU 5 324 res (72, [aR 226, aI (itF (ovrG w) i m acc), aI ((i + m : Nat) : Int)], [], 0, 0, h) → RU 5 324 res (31, [aR 226, aI acc, aI ((i : Nat) : Int)], [], 0, 0, h) := by
  have hbn := hI.bNe
  have hpn := hI.pNe
  have x0 := hI.len
  have x1 := hI.hour
  have x2 := hI.gas
  have x3 := hI.leak
  have x4 := hI.gn
  have x5 := hI.bn
  have x6 := hI.pn
  intro m
  induction m with
  | zero =>
    intro i acc hm hk
    refine r_ild cd_324_31 rfl rfl ?_
    refine r_aldR cd_324_32 rfl rfl ?_
    refine r_get cd_324_33 rfl hM rfl ?_
    refine r_con (v := 5) cd_324_36 rfl (by decide) ?_
    refine r_arr (i := 5) cd_324_37 rfl hw rfl (by omega) rfl ?_
    refine r_ic64 cd_324_38 rfl ⟨by omega, by omega⟩ (inR_of hI.bn (by decide) (by decide)) (fun n1 => ?_) (fun n1 => ?_)
    · exact absurd n1 (by omega)
    · exact hk
  | succ m ih =>
    intro i acc hm hk
    refine r_ild cd_324_31 rfl rfl ?_
    refine r_aldR cd_324_32 rfl rfl ?_
    refine r_get cd_324_33 rfl hM rfl ?_
    refine r_con (v := 5) cd_324_36 rfl (by decide) ?_
    refine r_arr (i := 5) cd_324_37 rfl hw rfl (by omega) rfl ?_
    refine r_ic64 cd_324_38 rfl ⟨by omega, by omega⟩ (inR_of hI.bn (by decide) (by decide)) (fun n1 => ?_) (fun n1 => ?_)
    · refine r_ild cd_324_41 rfl rfl ?_
      refine r_aldR cd_324_42 rfl rfl ?_
      refine r_ild cd_324_43 rfl rfl ?_
      refine r_cI (c_212 hM hw hI i (by omega)) cd_324_44 rfl rfl rfl (rc0 hM rfl) rfl rfl rfl ?_
      refine r_if56 cd_324_47 rfl (inR_of (hI.spr (b := i) (by omega)) (by decide) (by decide)) (fun n2 => ?_) (fun n2 => ?_)
      · refine r_aldR cd_324_50 rfl rfl ?_
        refine r_ild cd_324_51 rfl rfl ?_
        refine r_cI (c_210 hM hw hI i (by omega)) cd_324_52 rfl rfl rfl (rc0 hM rfl) rfl rfl rfl ?_
        refine r_con (v := 4) cd_324_55 rfl (by decide) ?_
        refine r_ic66 cd_324_56 rfl (inR_of (hI.knot i) (by decide) (by decide)) ⟨by omega, by omega⟩ (fun n3 => ?_) (fun n3 => ?_)
        · refine r_con (v := 1) cd_324_59 rfl (by decide) ?_
          refine r_goto cd_324_60 ?_
          refine r_add (v := acc + 1) cd_324_64 rfl (by rfl) ?_
          refine r_ist cd_324_65 rfl rfl (L' := [aR 226, aI (acc + 1), aI ((i : Nat) : Int)]) rfl ?_
          refine r_inc (v := ((i + 1 : Nat) : Int)) cd_324_66 rfl rfl rfl (by omega) (L' := [aR 226, aI (acc + 1), aI ((i + 1 : Nat) : Int)]) rfl ?_
          refine r_goto cd_324_69 ?_
          have e9 : itF (ovrG w) i (m + 1) acc = itF (ovrG w) (i + 1) m (acc + 1) := itF_step (by first | rfl | (simp [ovrG, bz, n1, n2, n3]; done) | (simp [ovrG, bz, n1, n2, n3]; omega) | (unfold ovrG; split <;> first | rfl | omega | (simp_all; done) | (simp_all; omega)))
          rw [e9, show i + (m + 1) = i + 1 + m by omega] at hk
          exact ih (i + 1) (acc + 1) (by omega) hk
        · refine r_con (v := 0) cd_324_63 rfl (by decide) ?_
          refine r_add (v := acc + 0) cd_324_64 rfl (by rfl) ?_
          refine r_ist cd_324_65 rfl rfl (L' := [aR 226, aI (acc + 0), aI ((i : Nat) : Int)]) rfl ?_
          refine r_inc (v := ((i + 1 : Nat) : Int)) cd_324_66 rfl rfl rfl (by omega) (L' := [aR 226, aI (acc + 0), aI ((i + 1 : Nat) : Int)]) rfl ?_
          refine r_goto cd_324_69 ?_
          have e9 : itF (ovrG w) i (m + 1) acc = itF (ovrG w) (i + 1) m (acc + 0) := itF_step (by first | rfl | (simp [ovrG, bz, n1, n2, n3]; done) | (simp [ovrG, bz, n1, n2, n3]; omega) | (unfold ovrG; split <;> first | rfl | omega | (simp_all; done) | (simp_all; omega)))
          rw [e9, show i + (m + 1) = i + 1 + m by omega] at hk
          exact ih (i + 1) (acc + 0) (by omega) hk
      · refine r_con (v := 1) cd_324_59 rfl (by decide) ?_
        refine r_goto cd_324_60 ?_
        refine r_add (v := acc + 1) cd_324_64 rfl (by rfl) ?_
        refine r_ist cd_324_65 rfl rfl (L' := [aR 226, aI (acc + 1), aI ((i : Nat) : Int)]) rfl ?_
        refine r_inc (v := ((i + 1 : Nat) : Int)) cd_324_66 rfl rfl rfl (by omega) (L' := [aR 226, aI (acc + 1), aI ((i + 1 : Nat) : Int)]) rfl ?_
        refine r_goto cd_324_69 ?_
        have e9 : itF (ovrG w) i (m + 1) acc = itF (ovrG w) (i + 1) m (acc + 1) := itF_step (by first | rfl | (simp [ovrG, bz, n1, n2]; done) | (simp [ovrG, bz, n1, n2]; omega) | (unfold ovrG; split <;> first | rfl | omega | (simp_all; done) | (simp_all; omega)))
        rw [e9, show i + (m + 1) = i + 1 + m by omega] at hk
        exact ih (i + 1) (acc + 1) (by omega) hk
    · exact absurd n1 (by omega)
theorem lp_324_74 {h : aH} {s w : Nat → Int} (hM : h.2.2 226 = .inr (8, Mo s)) (hw : h.2.2 227 = .inl (0, 211, .inl w)) (hI : Inv0 w) {res : aRes} : ∀ (m i : Nat) (acc : Int), i + m = nP w → RU 5 324 res (99, [aR 226, aI (itF (dbsG w) i m acc), aI ((i + m : Nat) : Int)], [], 0, 0, h) → RU 5 324 res (74, [aR 226, aI acc, aI ((i : Nat) : Int)], [], 0, 0, h) := by
  have hbn := hI.bNe
  have hpn := hI.pNe
  have x0 := hI.len
  have x1 := hI.hour
  have x2 := hI.gas
  have x3 := hI.leak
  have x4 := hI.gn
  have x5 := hI.bn
  have x6 := hI.pn
  intro m
  induction m with
  | zero =>
    intro i acc hm hk
    refine r_ild cd_324_74 rfl rfl ?_
    refine r_aldR cd_324_75 rfl rfl ?_
    refine r_get cd_324_76 rfl hM rfl ?_
    refine r_con (v := 6) cd_324_79 rfl (by decide) ?_
    refine r_arr (i := 6) cd_324_81 rfl hw rfl (by omega) rfl ?_
    refine r_ic64 cd_324_82 rfl ⟨by omega, by omega⟩ (inR_of hI.pn (by decide) (by decide)) (fun n1 => ?_) (fun n1 => ?_)
    · exact absurd n1 (by omega)
    · exact hk
  | succ m ih =>
    intro i acc hm hk
    refine r_ild cd_324_74 rfl rfl ?_
    refine r_aldR cd_324_75 rfl rfl ?_
    refine r_get cd_324_76 rfl hM rfl ?_
    refine r_con (v := 6) cd_324_79 rfl (by decide) ?_
    refine r_arr (i := 6) cd_324_81 rfl hw rfl (by omega) rfl ?_
    refine r_ic64 cd_324_82 rfl ⟨by omega, by omega⟩ (inR_of hI.pn (by decide) (by decide)) (fun n1 => ?_) (fun n1 => ?_)
    · refine r_ild cd_324_85 rfl rfl ?_
      refine r_aldR cd_324_86 rfl rfl ?_
      refine r_ild cd_324_87 rfl rfl ?_
      refine r_cI (c_325 hM hw hI i (by omega)) cd_324_88 rfl rfl rfl (rc0 hM rfl) rfl rfl rfl ?_
      refine r_add (v := acc + (dbl w i)) cd_324_91 rfl (by rfl) ?_
      refine r_ist cd_324_92 rfl rfl (L' := [aR 226, aI (acc + (dbl w i)), aI ((i : Nat) : Int)]) rfl ?_
      refine r_inc (v := ((i + 1 : Nat) : Int)) cd_324_93 rfl rfl rfl (by omega) (L' := [aR 226, aI (acc + (dbl w i)), aI ((i + 1 : Nat) : Int)]) rfl ?_
      refine r_goto cd_324_96 ?_
      have e9 : itF (dbsG w) i (m + 1) acc = itF (dbsG w) (i + 1) m (acc + (dbl w i)) := itF_step (by first | rfl | (simp [dbsG, bz, n1]; done) | (simp [dbsG, bz, n1]; omega) | (unfold dbsG; split <;> first | rfl | omega | (simp_all; done) | (simp_all; omega)))
      rw [e9, show i + (m + 1) = i + 1 + m by omega] at hk
      exact ih (i + 1) (acc + (dbl w i)) (by omega) hk
    · exact absurd n1 (by omega)
theorem c_324 {h : aH} {s w : Nat → Int} (hM : h.2.2 226 = .inr (8, Mo s)) (hw : h.2.2 227 = .inl (0, 211, .inl w)) (hI : Inv0 w)  : Ct 5 324 [aR 226] h (.inl (some (aI (viol w))), sw h 226 (.inr (8, Mo (va_up s 15 (0))))) := by
  refine Ct.of [aR 226, aU, aU] rfl ?_
  have hbn := hI.bNe
  have hpn := hI.pNe
  have x0 := hI.len
  have x1 := hI.hour
  have x2 := hI.gas
  have x3 := hI.leak
  have x4 := hI.gn
  have x5 := hI.bn
  have x6 := hI.pn
  refine r_aldR cd_324_0 rfl rfl ?_
  refine r_con (v := 0) cd_324_1 rfl (by decide) ?_
  refine r_put (fs' := Mo (va_up s 15 0)) cd_324_2 rfl hM rfl rfl ?_
  refine r_aldR cd_324_5 rfl rfl ?_
  refine r_get cd_324_6 rfl (sw_at _ _ _) rfl ?_
  refine r_con (v := 9) cd_324_9 rfl (by decide) ?_
  refine r_arr (i := 9) cd_324_11 rfl ((sw_ne (by decide)).trans hw) rfl (by omega) rfl ?_
  refine r_aldR cd_324_12 rfl rfl ?_
  refine r_cI (c_322 (sw_at _ _ _) ((sw_ne (by decide)).trans hw) hI ) cd_324_13 rfl rfl rfl (rc0 (sw_at _ _ _) rfl) rfl rfl rfl ?_
  refine r_sub (v := (w 9) - (lftS w)) cd_324_16 rfl (by rfl) ?_
  refine r_aldR cd_324_17 rfl rfl ?_
  refine r_get cd_324_18 rfl (sw_at _ _ _) rfl ?_
  refine r_con (v := 10) cd_324_21 rfl (by decide) ?_
  refine r_arr (i := 10) cd_324_23 rfl ((sw_ne (by decide)).trans hw) rfl (by omega) rfl ?_
  refine r_sub (v := ((w 9) - (lftS w)) - (w 10)) cd_324_24 rfl (by rfl) ?_
  refine r_cI (c_239v (((w 9) - (lftS w)) - (w 10))) cd_324_25 rfl rfl rfl True.intro rfl rfl rfl ?_
  refine r_ist cd_324_28 rfl rfl (L' := [aR 226, aI (absV (((w 9) - (lftS w)) - (w 10))), aU]) rfl ?_
  refine r_con (v := 0) cd_324_29 rfl (by decide) ?_
  refine r_ist cd_324_30 rfl rfl (L' := [aR 226, aI (absV (((w 9) - (lftS w)) - (w 10))), aI 0]) rfl ?_
  refine lp_324_31 (sw_at _ _ _) ((sw_ne (by decide)).trans hw) hI  (nB w) 0 (absV (((w 9) - (lftS w)) - (w 10))) (by omega) ?_
  refine r_con (v := 0) cd_324_72 rfl (by decide) ?_
  refine r_ist cd_324_73 rfl rfl (L' := [aR 226, aI (itF (ovrG w) 0 (nB w) (absV (((w 9) - (lftS w)) - (w 10)))), aI 0]) rfl ?_
  refine lp_324_74 (sw_at _ _ _) ((sw_ne (by decide)).trans hw) hI  (nP w) 0 (itF (ovrG w) 0 (nB w) (absV (((w 9) - (lftS w)) - (w 10)))) (by omega) ?_
  refine r_ild cd_324_99 rfl rfl ?_
  exact r_ret cd_324_100 True.intro (rfl)
def meanD (w : Nat → Int) : aV := if w 5 = 0 then aW (.double FP.dconst0) else aW (.double (FP.ddiv (FP.i2d (i32 (lftS w))) (FP.i2d (i32 (w 5)))))
def shareF (w : Nat → Int) : aV := if w 6 = 0 then aW (.float FP.fconst0) else aW (.float (FP.fdiv (FP.i2f (i32 (clmS w))) (FP.i2f (i32 (w 6)))))
theorem mean_ok : (List.range 241).all (fun x => (List.range 9).all fun z => Nat.beq z 0 || decide (FP.ddiv (FP.i2d (Int32.ofNat x)) (FP.i2d (Int32.ofNat z)) &&& 0x7fffffffffffffff ≤ 0x7ff0000000000000)) = true := by decide +kernel
theorem share_ok : (List.range 17).all (fun x => (List.range 17).all fun z => Nat.beq z 0 || decide (FP.fdiv (FP.i2f (Int32.ofNat x)) (FP.i2f (Int32.ofNat z)) &&& 0x7fffffff ≤ 0x7f800000)) = true := by decide +kernel
theorem Inv0.lft {w : Nat → Int} (hI : Inv0 w) : 0 ≤ lftS w ∧ lftS w ≤ 240 := by
  have h := itF_ind (g := lftG w) (P := fun p a => 0 ≤ a ∧ a ≤ 30 * (p : Int)) (m := nB w) (i := 0) (a := 0) ⟨by omega, by omega⟩ (fun p a _ h2 h3 => by
    have h4 := (hI.bs p (by omega)).2.1
    unfold lftG
    omega)
  have h5 := hI.bNe
  have h6 : lftS w = itF (lftG w) 0 (nB w) 0 := rfl
  rw [← h6] at h
  omega
theorem Inv0.clm {w : Nat → Int} (hI : Inv0 w) : 0 ≤ clmS w ∧ clmS w ≤ 16 := by
  have h := itF_ind (g := clmG w) (P := fun p a => 0 ≤ a ∧ a ≤ (p : Int)) (m := nP w) (i := 0) (a := 0) ⟨by omega, by omega⟩ (fun p a _ h2 h3 => by
    unfold clmG
    split <;> omega)
  have h5 := hI.pNe
  have h6 : clmS w = itF (clmG w) 0 (nP w) 0 := rfl
  rw [← h6] at h
  omega
theorem mean_nn {x z : Int} (h0 : 0 ≤ x) (h1 : x ≤ 240) (g0 : 0 < z) (g1 : z ≤ 8) : FP.ddiv (FP.i2d (i32 x)) (FP.i2d (i32 z)) &&& 0x7fffffffffffffff ≤ 0x7ff0000000000000 := by
  obtain ⟨a, rfl⟩ : ∃ a : Nat, x = (a : Int) := ⟨x.toNat, by omega⟩
  obtain ⟨b, rfl⟩ : ∃ b : Nat, z = (b : Int) := ⟨z.toNat, by omega⟩
  have h := List.all_eq_true.mp (List.all_eq_true.mp mean_ok a (List.mem_range.mpr (by omega))) b (List.mem_range.mpr (by omega))
  rw [i32_nat, i32_nat]
  simp only [Bool.or_eq_true, decide_eq_true_eq] at h
  rcases h with h | h
  · have := Nat.eq_of_beq_eq_true h
    omega
  · exact h
theorem share_nn {x z : Int} (h0 : 0 ≤ x) (h1 : x ≤ 16) (g0 : 0 < z) (g1 : z ≤ 16) : FP.fdiv (FP.i2f (i32 x)) (FP.i2f (i32 z)) &&& 0x7fffffff ≤ 0x7f800000 := by
  obtain ⟨a, rfl⟩ : ∃ a : Nat, x = (a : Int) := ⟨x.toNat, by omega⟩
  obtain ⟨b, rfl⟩ : ∃ b : Nat, z = (b : Int) := ⟨z.toNat, by omega⟩
  have h := List.all_eq_true.mp (List.all_eq_true.mp share_ok a (List.mem_range.mpr (by omega))) b (List.mem_range.mpr (by omega))
  rw [i32_nat, i32_nat]
  simp only [Bool.or_eq_true, decide_eq_true_eq] at h
  rcases h with h | h
  · have := Nat.eq_of_beq_eq_true h
    omega
  · exact h
theorem c_321 {h : aH} {s w : Nat → Int} (hM : h.2.2 226 = .inr (8, Mo s)) (hw : h.2.2 227 = .inl (0, 211, .inl w)) (hI : Inv0 w)  : Ct 3 321 [aR 226] h (.inl (some (meanD w)), sw h 226 (.inr (8, Mo (va_up s 15 (0))))) := by
  refine Ct.of [aR 226] rfl ?_
  have hbn := hI.bNe
  have hpn := hI.pNe
  have x0 := hI.len
  have x1 := hI.hour
  have x2 := hI.gas
  have x3 := hI.leak
  have x4 := hI.gn
  have x5 := hI.bn
  have x6 := hI.pn
  have hl9 := hI.lft
  refine r_aldR cd_321_0 rfl rfl ?_
  refine r_con (v := 0) cd_321_1 rfl (by decide) ?_
  refine r_put (fs' := Mo (va_up s 15 0)) cd_321_2 rfl hM rfl rfl ?_
  refine r_aldR cd_321_5 rfl rfl ?_
  refine r_get cd_321_6 rfl (sw_at _ _ _) rfl ?_
  refine r_con (v := 5) cd_321_9 rfl (by decide) ?_
  refine r_arr (i := 5) cd_321_10 rfl ((sw_ne (by decide)).trans hw) rfl (by omega) rfl ?_
  refine r_if52 cd_321_11 rfl (inR_of hI.bn (by decide) (by decide)) (fun n1 => ?_) (fun n1 => ?_)
  · refine r_fc (v := aW (.double FP.dconst0)) cd_321_14 rfl rfl ?_
    refine r_goto cd_321_15 ?_
    exact r_ret cd_321_31 True.intro (by first | rfl | (simp [meanD, bz, n1]; done))
  · refine r_aldR cd_321_18 rfl rfl ?_
    refine r_cI (c_322 (sw_at _ _ _) ((sw_ne (by decide)).trans hw) hI ) cd_321_19 rfl rfl rfl (rc0 (sw_at _ _ _) rfl) rfl rfl rfl ?_
    refine r_i2d cd_321_22 rfl ?_
    refine r_aldR cd_321_23 rfl rfl ?_
    refine r_get cd_321_24 rfl (sw_at _ _ _) rfl ?_
    refine r_con (v := 5) cd_321_27 rfl (by decide) ?_
    refine r_arr (i := 5) cd_321_28 rfl ((sw_ne (by decide)).trans hw) rfl (by omega) rfl ?_
    refine r_i2d cd_321_29 rfl ?_
    refine r_ddiv cd_321_30 rfl (mean_nn hl9.1 hl9.2 (by omega) (by omega)) ?_
    exact r_ret cd_321_31 True.intro (by first | rfl | (simp [meanD, bz, n1]; done))
theorem lp_323_9 {h : aH} {s w : Nat → Int} (hM : h.2.2 226 = .inr (8, Mo s)) (hw : h.2.2 227 = .inl (0, 211, .inl w)) (hI : Inv0 w) {res : aRes} : ∀ (m i : Nat) (acc : Int), i + m = nP w → RU 2 323 res (44, [aR 226, aI (itF (clmG w) i m acc), aI ((i + m : Nat) : Int)], [], 0, 0, h) → RU 2 323 res (9, [aR 226, aI acc, aI ((i : Nat) : Int)], [], 0, 0, h) := by
  have hbn := hI.bNe
  have hpn := hI.pNe
  have x0 := hI.len
  have x1 := hI.hour
  have x2 := hI.gas
  have x3 := hI.leak
  have x4 := hI.gn
  have x5 := hI.bn
  have x6 := hI.pn
  intro m
  induction m with
  | zero =>
    intro i acc hm hk
    refine r_ild cd_323_9 rfl rfl ?_
    refine r_aldR cd_323_10 rfl rfl ?_
    refine r_get cd_323_11 rfl hM rfl ?_
    refine r_con (v := 6) cd_323_14 rfl (by decide) ?_
    refine r_arr (i := 6) cd_323_16 rfl hw rfl (by omega) rfl ?_
    refine r_ic64 cd_323_17 rfl ⟨by omega, by omega⟩ (inR_of hI.pn (by decide) (by decide)) (fun n1 => ?_) (fun n1 => ?_)
    · exact absurd n1 (by omega)
    · exact hk
  | succ m ih =>
    intro i acc hm hk
    refine r_ild cd_323_9 rfl rfl ?_
    refine r_aldR cd_323_10 rfl rfl ?_
    refine r_get cd_323_11 rfl hM rfl ?_
    refine r_con (v := 6) cd_323_14 rfl (by decide) ?_
    refine r_arr (i := 6) cd_323_16 rfl hw rfl (by omega) rfl ?_
    refine r_ic64 cd_323_17 rfl ⟨by omega, by omega⟩ (inR_of hI.pn (by decide) (by decide)) (fun n1 => ?_) (fun n1 => ?_)
    · refine r_ild cd_323_20 rfl rfl ?_
      refine r_aldR cd_323_21 rfl rfl ?_
      refine r_ild cd_323_22 rfl rfl ?_
      refine r_con (v := 4) cd_323_23 rfl (by decide) ?_
      refine r_cI (c_203 hM hw i 4 (by omega)) cd_323_24 rfl rfl rfl (rc0 hM rfl) rfl rfl rfl ?_
      refine r_con (v := 2) cd_323_27 rfl (by decide) ?_
      refine r_ic62 cd_323_28 rfl (hI.paR (by omega) (by omega)) ⟨by omega, by omega⟩ (fun n2 => ?_) (fun n2 => ?_)
      · refine r_con (v := 1) cd_323_31 rfl (by decide) ?_
        refine r_goto cd_323_32 ?_
        refine r_add (v := acc + 1) cd_323_36 rfl (by rfl) ?_
        refine r_ist cd_323_37 rfl rfl (L' := [aR 226, aI (acc + 1), aI ((i : Nat) : Int)]) rfl ?_
        refine r_inc (v := ((i + 1 : Nat) : Int)) cd_323_38 rfl rfl rfl (by omega) (L' := [aR 226, aI (acc + 1), aI ((i + 1 : Nat) : Int)]) rfl ?_
        refine r_goto cd_323_41 ?_
        have e9 : itF (clmG w) i (m + 1) acc = itF (clmG w) (i + 1) m (acc + 1) := itF_step (by first | rfl | (simp [clmG, bz, n1, n2]; done) | (simp [clmG, bz, n1, n2]; omega) | (unfold clmG; split <;> first | rfl | omega | (simp_all; done) | (simp_all; omega)))
        rw [e9, show i + (m + 1) = i + 1 + m by omega] at hk
        exact ih (i + 1) (acc + 1) (by omega) hk
      · refine r_con (v := 0) cd_323_35 rfl (by decide) ?_
        refine r_add (v := acc + 0) cd_323_36 rfl (by rfl) ?_
        refine r_ist cd_323_37 rfl rfl (L' := [aR 226, aI (acc + 0), aI ((i : Nat) : Int)]) rfl ?_
        refine r_inc (v := ((i + 1 : Nat) : Int)) cd_323_38 rfl rfl rfl (by omega) (L' := [aR 226, aI (acc + 0), aI ((i + 1 : Nat) : Int)]) rfl ?_
        refine r_goto cd_323_41 ?_
        have e9 : itF (clmG w) i (m + 1) acc = itF (clmG w) (i + 1) m (acc + 0) := itF_step (by first | rfl | (simp [clmG, bz, n1, n2]; done) | (simp [clmG, bz, n1, n2]; omega) | (unfold clmG; split <;> first | rfl | omega | (simp_all; done) | (simp_all; omega)))
        rw [e9, show i + (m + 1) = i + 1 + m by omega] at hk
        exact ih (i + 1) (acc + 0) (by omega) hk
    · exact absurd n1 (by omega)
theorem c_323 {h : aH} {s w : Nat → Int} (hM : h.2.2 226 = .inr (8, Mo s)) (hw : h.2.2 227 = .inl (0, 211, .inl w)) (hI : Inv0 w)  : Ct 2 323 [aR 226] h (.inl (some (shareF w)), sw h 226 (.inr (8, Mo (va_up s 15 (0))))) := by
  refine Ct.of [aR 226, aU, aU] rfl ?_
  have hbn := hI.bNe
  have hpn := hI.pNe
  have x0 := hI.len
  have x1 := hI.hour
  have x2 := hI.gas
  have x3 := hI.leak
  have x4 := hI.gn
  have x5 := hI.bn
  have x6 := hI.pn
  have hl9 := hI.clm
  refine r_aldR cd_323_0 rfl rfl ?_
  refine r_con (v := 0) cd_323_1 rfl (by decide) ?_
  refine r_put (fs' := Mo (va_up s 15 0)) cd_323_2 rfl hM rfl rfl ?_
  refine r_con (v := 0) cd_323_5 rfl (by decide) ?_
  refine r_ist cd_323_6 rfl rfl (L' := [aR 226, aI 0, aU]) rfl ?_
  refine r_con (v := 0) cd_323_7 rfl (by decide) ?_
  refine r_ist cd_323_8 rfl rfl (L' := [aR 226, aI 0, aI 0]) rfl ?_
  refine lp_323_9 (sw_at _ _ _) ((sw_ne (by decide)).trans hw) hI  (nP w) 0 (0) (by omega) ?_
  refine r_aldR cd_323_44 rfl rfl ?_
  refine r_get cd_323_45 rfl (sw_at _ _ _) rfl ?_
  refine r_con (v := 6) cd_323_48 rfl (by decide) ?_
  refine r_arr (i := 6) cd_323_50 rfl ((sw_ne (by decide)).trans hw) rfl (by omega) rfl ?_
  refine r_if52 cd_323_51 rfl (inR_of hI.pn (by decide) (by decide)) (fun n1 => ?_) (fun n1 => ?_)
  · refine r_fc (v := aW (.float FP.fconst0)) cd_323_54 rfl rfl ?_
    refine r_goto cd_323_55 ?_
    exact r_ret cd_323_69 True.intro (by first | rfl | (simp [shareF, clmS, bz, n1]; done))
  · refine r_ild cd_323_58 rfl rfl ?_
    refine r_i2f cd_323_59 rfl ?_
    refine r_aldR cd_323_60 rfl rfl ?_
    refine r_get cd_323_61 rfl (sw_at _ _ _) rfl ?_
    refine r_con (v := 6) cd_323_64 rfl (by decide) ?_
    refine r_arr (i := 6) cd_323_66 rfl ((sw_ne (by decide)).trans hw) rfl (by omega) rfl ?_
    refine r_i2f cd_323_67 rfl ?_
    refine r_fdiv cd_323_68 rfl (share_nn hl9.1 hl9.2 (by omega) (by omega)) ?_
    exact r_ret cd_323_69 True.intro (by first | rfl | (simp [shareF, clmS, bz, n1]; done))
theorem cp_252_2 {s : Nat → Int} {res : aRes} {f : Nat → Int} : ∀ (m k : Nat) {h : aH} {d : Nat → Int}, h.2.2 226 = .inr (8, Mo s) → h.2.2 227 = .inl (0, 211, .inl f) → h.2.2 228 = .inl (0, 211, .inl d) → k + m = 211 → RU 1 252 res (27, [aR 226, aI ((k + m : Nat) : Int)], [], 0, 0, sw h 228 (.inl (0, 211, .inl (cpF f (0) (0) k m d)))) → RU 1 252 res (2, [aR 226, aI ((k : Nat) : Int)], [], 0, 0, h) := by
  intro m
  induction m with
  | zero =>
    intro k h d hM hf hd hm hk
    refine r_ild cd_252_2 rfl rfl ?_
    refine r_con (v := 211) cd_252_3 rfl (by decide) ?_
    refine r_ic64 cd_252_6 rfl ⟨by omega, by omega⟩ ⟨by omega, by omega⟩ (fun n1 => ?_) (fun n1 => ?_)
    · exact absurd n1 (by omega)
    · rw [sw_id (show h.2.2 228 = .inl (0, 211, .inl (cpF f (0) (0) k 0 d)) from hd)] at hk
      exact hk
  | succ m ih =>
    intro k h d hM hf hd hm hk
    refine r_ild cd_252_2 rfl rfl ?_
    refine r_con (v := 211) cd_252_3 rfl (by decide) ?_
    refine r_ic64 cd_252_6 rfl ⟨by omega, by omega⟩ ⟨by omega, by omega⟩ (fun n1 => ?_) (fun n1 => ?_)
    · refine r_aldR cd_252_9 rfl rfl ?_
      refine r_get cd_252_10 rfl hM rfl ?_
      refine r_ild cd_252_13 rfl rfl ?_
      refine r_aldR cd_252_14 rfl rfl ?_
      refine r_get cd_252_15 rfl hM rfl ?_
      refine r_ild cd_252_18 rfl rfl ?_
      refine r_arr (i := 0 + k) cd_252_19 rfl hf (by omega) (by omega) rfl ?_
      refine r_arsI (i := 0 + k) cd_252_20 rfl rfl hd (by omega) (by omega) rfl ?_
      refine r_inc (v := ((k + 1 : Nat) : Int)) cd_252_21 rfl rfl rfl (by omega) (L' := [aR 226, aI ((k + 1 : Nat) : Int)]) rfl ?_
      refine r_goto cd_252_24 ?_
      show RU 1 252 res (2, [aR 226, aI ((k + 1 : Nat) : Int)], [], 0, 0, sw h 228 (.inl (0, 211, .inl (va_up d (0 + k) (f (0 + k))))))
      refine ih (k + 1) (h := sw h 228 (.inl (0, 211, .inl (va_up d (0 + k) (f (0 + k)))))) ((sw_ne (by decide)).trans hM) ((sw_ne (by decide)).trans hf) (sw_at _ _ _) (by omega) ?_
      rw [show cpF f (0) (0) k (m + 1) d = cpF f (0) (0) (k + 1) m (va_up d (0 + k) (f (0 + k))) from rfl, show k + (m + 1) = k + 1 + m by omega] at hk
      rw [sw_sw]
      exact hk
    · exact absurd n1 (by omega)
theorem cp_314_2 {s : Nat → Int} {res : aRes} {f : Nat → Int} : ∀ (m k : Nat) {h : aH} {d : Nat → Int}, h.2.2 226 = .inr (8, Mo s) → h.2.2 227 = .inl (0, 211, .inl f) → h.2.2 229 = .inl (0, 211, .inl d) → k + m = 211 → RU 1 314 res (27, [aR 226, aI ((k + m : Nat) : Int)], [], 0, 0, sw h 229 (.inl (0, 211, .inl (cpF f (0) (0) k m d)))) → RU 1 314 res (2, [aR 226, aI ((k : Nat) : Int)], [], 0, 0, h) := by
  intro m
  induction m with
  | zero =>
    intro k h d hM hf hd hm hk
    refine r_ild cd_314_2 rfl rfl ?_
    refine r_con (v := 211) cd_314_3 rfl (by decide) ?_
    refine r_ic64 cd_314_6 rfl ⟨by omega, by omega⟩ ⟨by omega, by omega⟩ (fun n1 => ?_) (fun n1 => ?_)
    · exact absurd n1 (by omega)
    · rw [sw_id (show h.2.2 229 = .inl (0, 211, .inl (cpF f (0) (0) k 0 d)) from hd)] at hk
      exact hk
  | succ m ih =>
    intro k h d hM hf hd hm hk
    refine r_ild cd_314_2 rfl rfl ?_
    refine r_con (v := 211) cd_314_3 rfl (by decide) ?_
    refine r_ic64 cd_314_6 rfl ⟨by omega, by omega⟩ ⟨by omega, by omega⟩ (fun n1 => ?_) (fun n1 => ?_)
    · refine r_aldR cd_314_9 rfl rfl ?_
      refine r_get cd_314_10 rfl hM rfl ?_
      refine r_ild cd_314_13 rfl rfl ?_
      refine r_aldR cd_314_14 rfl rfl ?_
      refine r_get cd_314_15 rfl hM rfl ?_
      refine r_ild cd_314_18 rfl rfl ?_
      refine r_arr (i := 0 + k) cd_314_19 rfl hf (by omega) (by omega) rfl ?_
      refine r_arsI (i := 0 + k) cd_314_20 rfl rfl hd (by omega) (by omega) rfl ?_
      refine r_inc (v := ((k + 1 : Nat) : Int)) cd_314_21 rfl rfl rfl (by omega) (L' := [aR 226, aI ((k + 1 : Nat) : Int)]) rfl ?_
      refine r_goto cd_314_24 ?_
      show RU 1 314 res (2, [aR 226, aI ((k + 1 : Nat) : Int)], [], 0, 0, sw h 229 (.inl (0, 211, .inl (va_up d (0 + k) (f (0 + k))))))
      refine ih (k + 1) (h := sw h 229 (.inl (0, 211, .inl (va_up d (0 + k) (f (0 + k)))))) ((sw_ne (by decide)).trans hM) ((sw_ne (by decide)).trans hf) (sw_at _ _ _) (by omega) ?_
      rw [show cpF f (0) (0) k (m + 1) d = cpF f (0) (0) (k + 1) m (va_up d (0 + k) (f (0 + k))) from rfl, show k + (m + 1) = k + 1 + m by omega] at hk
      rw [sw_sw]
      exact hk
    · exact absurd n1 (by omega)
theorem cp_315_2 {s : Nat → Int} {res : aRes} {f : Nat → Int} : ∀ (m k : Nat) {h : aH} {d : Nat → Int}, h.2.2 226 = .inr (8, Mo s) → h.2.2 229 = .inl (0, 211, .inl f) → h.2.2 227 = .inl (0, 211, .inl d) → k + m = 211 → RU 1 315 res (27, [aR 226, aI ((k + m : Nat) : Int)], [], 0, 0, sw h 227 (.inl (0, 211, .inl (cpF f (0) (0) k m d)))) → RU 1 315 res (2, [aR 226, aI ((k : Nat) : Int)], [], 0, 0, h) := by
  intro m
  induction m with
  | zero =>
    intro k h d hM hf hd hm hk
    refine r_ild cd_315_2 rfl rfl ?_
    refine r_con (v := 211) cd_315_3 rfl (by decide) ?_
    refine r_ic64 cd_315_6 rfl ⟨by omega, by omega⟩ ⟨by omega, by omega⟩ (fun n1 => ?_) (fun n1 => ?_)
    · exact absurd n1 (by omega)
    · rw [sw_id (show h.2.2 227 = .inl (0, 211, .inl (cpF f (0) (0) k 0 d)) from hd)] at hk
      exact hk
  | succ m ih =>
    intro k h d hM hf hd hm hk
    refine r_ild cd_315_2 rfl rfl ?_
    refine r_con (v := 211) cd_315_3 rfl (by decide) ?_
    refine r_ic64 cd_315_6 rfl ⟨by omega, by omega⟩ ⟨by omega, by omega⟩ (fun n1 => ?_) (fun n1 => ?_)
    · refine r_aldR cd_315_9 rfl rfl ?_
      refine r_get cd_315_10 rfl hM rfl ?_
      refine r_ild cd_315_13 rfl rfl ?_
      refine r_aldR cd_315_14 rfl rfl ?_
      refine r_get cd_315_15 rfl hM rfl ?_
      refine r_ild cd_315_18 rfl rfl ?_
      refine r_arr (i := 0 + k) cd_315_19 rfl hf (by omega) (by omega) rfl ?_
      refine r_arsI (i := 0 + k) cd_315_20 rfl rfl hd (by omega) (by omega) rfl ?_
      refine r_inc (v := ((k + 1 : Nat) : Int)) cd_315_21 rfl rfl rfl (by omega) (L' := [aR 226, aI ((k + 1 : Nat) : Int)]) rfl ?_
      refine r_goto cd_315_24 ?_
      show RU 1 315 res (2, [aR 226, aI ((k + 1 : Nat) : Int)], [], 0, 0, sw h 227 (.inl (0, 211, .inl (va_up d (0 + k) (f (0 + k))))))
      refine ih (k + 1) (h := sw h 227 (.inl (0, 211, .inl (va_up d (0 + k) (f (0 + k)))))) ((sw_ne (by decide)).trans hM) ((sw_ne (by decide)).trans hf) (sw_at _ _ _) (by omega) ?_
      rw [show cpF f (0) (0) k (m + 1) d = cpF f (0) (0) (k + 1) m (va_up d (0 + k) (f (0 + k))) from rfl, show k + (m + 1) = k + 1 + m by omega] at hk
      rw [sw_sw]
      exact hk
    · exact absurd n1 (by omega)
theorem c_252 {h : aH} {s f d : Nat → Int} (hM : h.2.2 226 = .inr (8, Mo s)) (hf : h.2.2 227 = .inl (0, 211, .inl f)) (hd : h.2.2 228 = .inl (0, 211, .inl d)) : Ct 1 252 [aR 226] h (.inl none, sw h 228 (.inl (0, 211, .inl (cpF f 0 0 0 211 d)))) := by
  refine Ct.of [aR 226, aU] rfl ?_
  refine r_con (v := 0) cd_252_0 rfl (by decide) ?_
  refine r_ist cd_252_1 rfl rfl (L' := [aR 226, aI 0]) rfl ?_
  refine cp_252_2 (211) 0 hM hf hd (by omega) ?_
  exact r_void cd_252_27 rfl (rfl)
theorem c_314 {h : aH} {s f d : Nat → Int} (hM : h.2.2 226 = .inr (8, Mo s)) (hf : h.2.2 227 = .inl (0, 211, .inl f)) (hd : h.2.2 229 = .inl (0, 211, .inl d)) : Ct 1 314 [aR 226] h (.inl none, sw h 229 (.inl (0, 211, .inl (cpF f 0 0 0 211 d)))) := by
  refine Ct.of [aR 226, aU] rfl ?_
  refine r_con (v := 0) cd_314_0 rfl (by decide) ?_
  refine r_ist cd_314_1 rfl rfl (L' := [aR 226, aI 0]) rfl ?_
  refine cp_314_2 (211) 0 hM hf hd (by omega) ?_
  exact r_void cd_314_27 rfl (rfl)
theorem c_315 {h : aH} {s f d : Nat → Int} (hM : h.2.2 226 = .inr (8, Mo s)) (hf : h.2.2 229 = .inl (0, 211, .inl f)) (hd : h.2.2 227 = .inl (0, 211, .inl d)) : Ct 1 315 [aR 226] h (.inl none, sw h 227 (.inl (0, 211, .inl (cpF f 0 0 0 211 d)))) := by
  refine Ct.of [aR 226, aU] rfl ?_
  refine r_con (v := 0) cd_315_0 rfl (by decide) ?_
  refine r_ist cd_315_1 rfl rfl (L' := [aR 226, aI 0]) rfl ?_
  refine cp_315_2 (211) 0 hM hf hd (by omega) ?_
  exact r_void cd_315_27 rfl (rfl)
