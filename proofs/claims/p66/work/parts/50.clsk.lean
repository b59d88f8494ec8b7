/-! THE CLASS: leaking (written by wip/whole/gen50.py) -/
theorem los_0 {w : Nat → Int} {b : Nat} : losW w b 0 = w := by
  unfold losW sbo bo
  rw [Int.sub_zero, Int.add_zero, vu_id, vu_id]
/-- what leaks in the hour that ends now -/
def clW (w : Nat → Int) (b : Nat) : Nat → Int := if (w 1 + 1) % w 3 = 0 then leakW w b else w
theorem v_99 {h : aH} {B : Nat} {w : Nat → Int} (hR : Rp h B w) (hI : Inv0 w) (b : Nat) (g0 : b < nB w) : ∃ h', Ct 3 99 [aR B, aI ((b : Nat) : Int)] h (.inl none, h') ∧ Rp h' B (clW w b) ∧ Fr B h h' := by
  obtain ⟨c, W, A⟩ := id hR
  obtain ⟨o0, o1, o2, o3, o4, o5, o6, o7, o8, o9, o10, o11, o12, o13, o14, o15, o16, o17⟩ := id W
  obtain ⟨a0, a1, a2, a3, a4, a5, a6, a7, a8, a9, a10, a11, a12, a13, a14⟩ := id A
  have hbn := hI.bNe
  have hpn := hI.pNe
  have x0 := hI.len
  have x1 := hI.hour
  have x2 := hI.gas
  have x3 := hI.leak
  have x4 := hI.gn
  have x5 := hI.bn
  have x6 := hI.pn
  have hb0 := hI.bs b (by omega)
  by_cases f1 : bo w b 3 = 1
  rotate_left
  · rw [show clW w b = w by unfold clW leakW; rw [if_pos f1]; split <;> rfl]
    refine ⟨h, Ct.of [aR B, aI ((b : Nat) : Int), aU] rfl ?_, hR, Fr.rf⟩
    refine r_aldR cd_99_0 rfl rfl ?_
    refine r_get cd_99_1 rfl o0 rfl ?_
    refine r_ild cd_99_4 rfl rfl ?_
    refine r_cI (k_4 hR hI b (by omega)) cd_99_5 rfl rfl rfl (rc0 o5 rfl) rfl rfl rfl ?_
    refine r_if51b cd_99_8 rfl (fun n1 => ?_) (fun n1 => ?_)
    · exact r_void cd_99_25 rfl (rfl)
    · exact absurd (of_decide_eq_true n1) f1
  by_cases f2 : (w 1 + 1) % w 3 = 0
  rotate_left
  · rw [show clW w b = w by unfold clW; rw [if_neg f2]]
    refine ⟨h, Ct.of [aR B, aI ((b : Nat) : Int), aU] rfl ?_, hR, Fr.rf⟩
    refine r_aldR cd_99_0 rfl rfl ?_
    refine r_get cd_99_1 rfl o0 rfl ?_
    refine r_ild cd_99_4 rfl rfl ?_
    refine r_cI (k_4 hR hI b (by omega)) cd_99_5 rfl rfl rfl (rc0 o5 rfl) rfl rfl rfl ?_
    refine r_if51b cd_99_8 rfl (fun n1 => ?_) (fun n1 => ?_)
    · exact absurd f1 (of_decide_eq_false n1)
    · refine r_aldR cd_99_11 rfl rfl ?_
      refine r_get cd_99_12 rfl o0 rfl ?_
      refine r_aldR cd_99_15 rfl rfl ?_
      refine r_get cd_99_16 rfl o0 rfl ?_
      refine r_cI (k_57 hR hI (w 1) (inR_of hI.hour (by decide) (by decide)) (by omega) (by omega)) cd_99_19 rfl rfl rfl (rc0 o1 rfl) rfl rfl rfl ?_
      refine r_if52b cd_99_22 rfl (fun n2 => ?_) (fun n2 => ?_)
      · exact r_void cd_99_25 rfl (rfl)
      · exact absurd (of_decide_eq_true n2) f2
  have nf1 : ¬ ¬ bo w b 3 = 1 := fun e => e f1
  by_cases f3 : bo w b 1 = 1
  · rw [show clW w b = relW (sbo w b 3 0) b by unfold clW leakW le1; rw [if_pos f2, if_neg nf1, if_pos (Or.inl f3), if_pos f3, los_0]]
    obtain ⟨h1, d1, R1, F1⟩ := v_90 hR hI b g0
    have hI1 : Inv0 (sbo w b 3 0) := hI.setB (k := 3) g0 (by omega) (by omega) (by omega) (by omega) (by omega)
    obtain ⟨h2, d2, R2, F2⟩ := v_93 R1 hI1 b (by rw [sbo_bN]; exact g0)
    obtain ⟨c1, W1, A1⟩ := id R1
    obtain ⟨p1_0, p1_1, p1_2, p1_3, p1_4, p1_5, p1_6, p1_7, p1_8, p1_9, p1_10, p1_11, p1_12, p1_13, p1_14, p1_15, p1_16, p1_17⟩ := id W1
    obtain ⟨q1_0, q1_1, q1_2, q1_3, q1_4, q1_5, q1_6, q1_7, q1_8, q1_9, q1_10, q1_11, q1_12, q1_13, q1_14⟩ := id A1
    refine ⟨h2, Ct.of [aR B, aI ((b : Nat) : Int), aU] rfl ?_, R2, F1.tr F2⟩
    refine r_aldR cd_99_0 rfl rfl ?_
    refine r_get cd_99_1 rfl o0 rfl ?_
    refine r_ild cd_99_4 rfl rfl ?_
    refine r_cI (k_4 hR hI b (by omega)) cd_99_5 rfl rfl rfl (rc0 o5 rfl) rfl rfl rfl ?_
    refine r_if51b cd_99_8 rfl (fun n1 => ?_) (fun n1 => ?_)
    · exact absurd f1 (of_decide_eq_false n1)
    · refine r_aldR cd_99_11 rfl rfl ?_
      refine r_get cd_99_12 rfl o0 rfl ?_
      refine r_aldR cd_99_15 rfl rfl ?_
      refine r_get cd_99_16 rfl o0 rfl ?_
      refine r_cI (k_57 hR hI (w 1) (inR_of hI.hour (by decide) (by decide)) (by omega) (by omega)) cd_99_19 rfl rfl rfl (rc0 o1 rfl) rfl rfl rfl ?_
      refine r_if52b cd_99_22 rfl (fun n2 => ?_) (fun n2 => ?_)
      · exact absurd f2 (of_decide_eq_false n2)
      · refine r_aldR cd_99_26 rfl rfl ?_
        refine r_get cd_99_27 rfl o0 rfl ?_
        refine r_get cd_99_30 rfl o5 rfl ?_
        refine r_ild cd_99_33 rfl rfl ?_
        refine r_arr (i := b) cd_99_34 rfl o7 rfl (by omega) rfl ?_
        rw [a4 (b) (by omega)]
        refine r_con (v := 1) cd_99_35 rfl (by decide) ?_
        refine r_ic65 cd_99_36 rfl (hI.boR (b := b) (k := 1) (by omega) (by decide)) ⟨by omega, by omega⟩ (fun n3 => ?_) (fun n3 => ?_)
        · exact absurd n3 (by omega)
        · refine r_con (v := 1) cd_99_39 rfl (by decide) ?_
          refine r_goto cd_99_40 ?_
          refine r_ist cd_99_44 rfl rfl (L' := [aR B, aI ((b : Nat) : Int), aI 1]) rfl ?_
          refine r_ild cd_99_45 rfl rfl ?_
          refine r_if52 cd_99_46 rfl ⟨by omega, by omega⟩ (fun n4 => ?_) (fun n4 => ?_)
          · exact absurd n4 (by decide)
          · refine r_ild cd_99_55 rfl rfl ?_
            refine r_if52 cd_99_56 rfl ⟨by omega, by omega⟩ (fun n5 => ?_) (fun n5 => ?_)
            · exact absurd n5 (by decide)
            · refine r_aldR cd_99_67 rfl rfl ?_
              refine r_ild cd_99_68 rfl rfl ?_
              refine r_cI d1 cd_99_69 rfl rfl rfl (rc0 o0 rfl) rfl rfl rfl ?_
              refine r_pop cd_99_72 rfl rfl ?_
              refine r_aldR cd_99_73 rfl rfl ?_
              refine r_ild cd_99_74 rfl rfl ?_
              refine r_cI d2 cd_99_75 rfl rfl rfl (rc0 p1_0 rfl) rfl rfl rfl ?_
              refine r_pop cd_99_78 rfl rfl ?_
              exact r_void cd_99_79 rfl (rfl)
  have el : le1 w b = losW w b 1 := by unfold le1; rw [if_neg f3]
  obtain ⟨h1, d1, R1, F1⟩ := v_92 hR hI b 1 g0
  have hI1 : Inv0 (losW w b 1) := los_inv hI g0 (by omega) (by omega)
  have hb1 : b < nB (losW w b 1) := by rw [los_bN]; exact g0
  obtain ⟨c1, W1, A1⟩ := id R1
  obtain ⟨p1_0, p1_1, p1_2, p1_3, p1_4, p1_5, p1_6, p1_7, p1_8, p1_9, p1_10, p1_11, p1_12, p1_13, p1_14, p1_15, p1_16, p1_17⟩ := id W1
  obtain ⟨q1_0, q1_1, q1_2, q1_3, q1_4, q1_5, q1_6, q1_7, q1_8, q1_9, q1_10, q1_11, q1_12, q1_13, q1_14⟩ := id A1
  by_cases f4 : 0 < spare (losW w b 1) b
  · rw [show clW w b = losW w b 1 by unfold clW leakW; rw [if_pos f2, if_neg nf1, el, if_neg (fun e => e.elim f3 (fun e2 => e2 f4))]]
    refine ⟨h1, Ct.of [aR B, aI ((b : Nat) : Int), aU] rfl ?_, R1, F1⟩
    refine r_aldR cd_99_0 rfl rfl ?_
    refine r_get cd_99_1 rfl o0 rfl ?_
    refine r_ild cd_99_4 rfl rfl ?_
    refine r_cI (k_4 hR hI b (by omega)) cd_99_5 rfl rfl rfl (rc0 o5 rfl) rfl rfl rfl ?_
    refine r_if51b cd_99_8 rfl (fun n1 => ?_) (fun n1 => ?_)
    · exact absurd f1 (of_decide_eq_false n1)
    · refine r_aldR cd_99_11 rfl rfl ?_
      refine r_get cd_99_12 rfl o0 rfl ?_
      refine r_aldR cd_99_15 rfl rfl ?_
      refine r_get cd_99_16 rfl o0 rfl ?_
      refine r_cI (k_57 hR hI (w 1) (inR_of hI.hour (by decide) (by decide)) (by omega) (by omega)) cd_99_19 rfl rfl rfl (rc0 o1 rfl) rfl rfl rfl ?_
      refine r_if52b cd_99_22 rfl (fun n2 => ?_) (fun n2 => ?_)
      · exact absurd f2 (of_decide_eq_false n2)
      · refine r_aldR cd_99_26 rfl rfl ?_
        refine r_get cd_99_27 rfl o0 rfl ?_
        refine r_get cd_99_30 rfl o5 rfl ?_
        refine r_ild cd_99_33 rfl rfl ?_
        refine r_arr (i := b) cd_99_34 rfl o7 rfl (by omega) rfl ?_
        rw [a4 (b) (by omega)]
        refine r_con (v := 1) cd_99_35 rfl (by decide) ?_
        refine r_ic65 cd_99_36 rfl (hI.boR (b := b) (k := 1) (by omega) (by decide)) ⟨by omega, by omega⟩ (fun n3 => ?_) (fun n3 => ?_)
        · refine r_con (v := 0) cd_99_43 rfl (by decide) ?_
          refine r_ist cd_99_44 rfl rfl (L' := [aR B, aI ((b : Nat) : Int), aI 0]) rfl ?_
          refine r_ild cd_99_45 rfl rfl ?_
          refine r_if52 cd_99_46 rfl ⟨by omega, by omega⟩ (fun n4 => ?_) (fun n4 => ?_)
          · refine r_aldR cd_99_49 rfl rfl ?_
            refine r_ild cd_99_50 rfl rfl ?_
            refine r_con (v := 1) cd_99_51 rfl (by decide) ?_
            refine r_cV d1 cd_99_52 rfl rfl rfl (rc0 o0 rfl) rfl rfl rfl ?_
            refine r_ild cd_99_55 rfl rfl ?_
            refine r_if52 cd_99_56 rfl ⟨by omega, by omega⟩ (fun n5 => ?_) (fun n5 => ?_)
            · refine r_aldR cd_99_59 rfl rfl ?_
              refine r_ild cd_99_60 rfl rfl ?_
              refine r_cI (k_78 R1 hI1 b hb1) cd_99_61 rfl rfl rfl (rc0 p1_0 rfl) rfl rfl rfl ?_
              refine r_if55 cd_99_64 rfl (inR_of (hI1.spr hb1) (by decide) (by decide)) (fun n6 => ?_) (fun n6 => ?_)
              · exact r_void cd_99_79 rfl (rfl)
              · exact absurd f4 n6
            · exact absurd n5 (by decide)
          · exact absurd n4 (by decide)
        · exact absurd n3 (by omega)
  · rw [show clW w b = relW (sbo (losW w b 1) b 3 0) b by unfold clW leakW; rw [if_pos f2, if_neg nf1, el, if_pos (Or.inr f4)]]
    obtain ⟨h2, d2, R2, F2⟩ := v_90 R1 hI1 b hb1
    have hI2 : Inv0 (sbo (losW w b 1) b 3 0) := hI1.setB (k := 3) hb1 (by omega) (by omega) (by omega) (by omega) (by omega)
    obtain ⟨h3, d3, R3, F3⟩ := v_93 R2 hI2 b (by rw [sbo_bN]; exact hb1)
    obtain ⟨c2, W2, A2⟩ := id R2
    obtain ⟨p2_0, p2_1, p2_2, p2_3, p2_4, p2_5, p2_6, p2_7, p2_8, p2_9, p2_10, p2_11, p2_12, p2_13, p2_14, p2_15, p2_16, p2_17⟩ := id W2
    obtain ⟨q2_0, q2_1, q2_2, q2_3, q2_4, q2_5, q2_6, q2_7, q2_8, q2_9, q2_10, q2_11, q2_12, q2_13, q2_14⟩ := id A2
    refine ⟨h3, Ct.of [aR B, aI ((b : Nat) : Int), aU] rfl ?_, R3, (F1.tr F2).tr F3⟩
    refine r_aldR cd_99_0 rfl rfl ?_
    refine r_get cd_99_1 rfl o0 rfl ?_
    refine r_ild cd_99_4 rfl rfl ?_
    refine r_cI (k_4 hR hI b (by omega)) cd_99_5 rfl rfl rfl (rc0 o5 rfl) rfl rfl rfl ?_
    refine r_if51b cd_99_8 rfl (fun n1 => ?_) (fun n1 => ?_)
    · exact absurd f1 (of_decide_eq_false n1)
    · refine r_aldR cd_99_11 rfl rfl ?_
      refine r_get cd_99_12 rfl o0 rfl ?_
      refine r_aldR cd_99_15 rfl rfl ?_
      refine r_get cd_99_16 rfl o0 rfl ?_
      refine r_cI (k_57 hR hI (w 1) (inR_of hI.hour (by decide) (by decide)) (by omega) (by omega)) cd_99_19 rfl rfl rfl (rc0 o1 rfl) rfl rfl rfl ?_
      refine r_if52b cd_99_22 rfl (fun n2 => ?_) (fun n2 => ?_)
      · exact absurd f2 (of_decide_eq_false n2)
      · refine r_aldR cd_99_26 rfl rfl ?_
        refine r_get cd_99_27 rfl o0 rfl ?_
        refine r_get cd_99_30 rfl o5 rfl ?_
        refine r_ild cd_99_33 rfl rfl ?_
        refine r_arr (i := b) cd_99_34 rfl o7 rfl (by omega) rfl ?_
        rw [a4 (b) (by omega)]
        refine r_con (v := 1) cd_99_35 rfl (by decide) ?_
        refine r_ic65 cd_99_36 rfl (hI.boR (b := b) (k := 1) (by omega) (by decide)) ⟨by omega, by omega⟩ (fun n3 => ?_) (fun n3 => ?_)
        · refine r_con (v := 0) cd_99_43 rfl (by decide) ?_
          refine r_ist cd_99_44 rfl rfl (L' := [aR B, aI ((b : Nat) : Int), aI 0]) rfl ?_
          refine r_ild cd_99_45 rfl rfl ?_
          refine r_if52 cd_99_46 rfl ⟨by omega, by omega⟩ (fun n4 => ?_) (fun n4 => ?_)
          · refine r_aldR cd_99_49 rfl rfl ?_
            refine r_ild cd_99_50 rfl rfl ?_
            refine r_con (v := 1) cd_99_51 rfl (by decide) ?_
            refine r_cV d1 cd_99_52 rfl rfl rfl (rc0 o0 rfl) rfl rfl rfl ?_
            refine r_ild cd_99_55 rfl rfl ?_
            refine r_if52 cd_99_56 rfl ⟨by omega, by omega⟩ (fun n5 => ?_) (fun n5 => ?_)
            · refine r_aldR cd_99_59 rfl rfl ?_
              refine r_ild cd_99_60 rfl rfl ?_
              refine r_cI (k_78 R1 hI1 b hb1) cd_99_61 rfl rfl rfl (rc0 p1_0 rfl) rfl rfl rfl ?_
              refine r_if55 cd_99_64 rfl (inR_of (hI1.spr hb1) (by decide) (by decide)) (fun n6 => ?_) (fun n6 => ?_)
              · exact absurd n6 f4
              · refine r_aldR cd_99_67 rfl rfl ?_
                refine r_ild cd_99_68 rfl rfl ?_
                refine r_cI d2 cd_99_69 rfl rfl rfl (rc0 p1_0 rfl) rfl rfl rfl ?_
                refine r_pop cd_99_72 rfl rfl ?_
                refine r_aldR cd_99_73 rfl rfl ?_
                refine r_ild cd_99_74 rfl rfl ?_
                refine r_cI d3 cd_99_75 rfl rfl rfl (rc0 p2_0 rfl) rfl rfl rfl ?_
                refine r_pop cd_99_78 rfl rfl ?_
                exact r_void cd_99_79 rfl (rfl)
            · exact absurd n5 (by decide)
          · exact absurd n4 (by decide)
        · exact absurd n3 (by omega)
