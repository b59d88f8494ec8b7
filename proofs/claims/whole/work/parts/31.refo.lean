/-! THE REFERENCE: gust, parcel, claim of a script; its words (written by wip/whole/gen31.py) -/
theorem r_195 {h : aH} {s w nu tx : Nat → Int} {N i : Nat} (hM : h.2.2 226 = .inr (8, Mo s)) (htx : h.2.2 233 = .inl (0, 600, .inl tx)) (hb : TxB tx) (hN6 : N ≤ 600) (hT : PS s tx N i) (hi : i ≤ N) (hw : h.2.2 227 = .inl (0, 211, .inl w)) (hnu : h.2.2 235 = .inl (0, 4, .inl nu)) (hI : Inv0 w) : CP 6 195 [aR 226] h s w N (cGus tx N i w) := by
  have hbn := hI.bNe
  have hpn := hI.pNe
  have x0 := hI.len
  have x1 := hI.hour
  have x2 := hI.gas
  have x3 := hI.leak
  have x4 := hI.gn
  have x5 := hI.bn
  have x6 := hI.pn
  have heb := tEnd_b (tx := tx) (N := N) hi
  by_cases hE : saysB tx N i (sT 34) = true
  rotate_left
  by_cases hW : saysB tx N i (sT 35) = true
  rotate_left
  · rw [show cGus tx N i w = .inl (1, ((tOff tx N i : Nat) : Int)) by simp [cGus, dirA, bnd, hE, hW]]
    refine ⟨sw h 226 (.inr (8, Mo (erS s 1))), Ct.of [aR 226, aU] rfl ?_, PE.er (RZ.rf hM hw hnu) Fx.rf hT.2.2.2.1⟩
    refine r_aldR cd_195_0 rfl rfl ?_
    refine r_cst cd_195_1 rfl ?_
    refine r_cI (c_182 hM htx hb hN6 hT hi 34 (by decide) (by decide)) cd_195_3 rfl rfl rfl (rc0 hM rfl) rfl rfl rfl ?_
    refine r_if51b cd_195_6 rfl (fun n1 => ?_) (fun n1 => ?_)
    · refine r_aldR cd_195_13 rfl rfl ?_
      refine r_cst cd_195_14 rfl ?_
      refine r_cI (c_182 hM htx hb hN6 hT hi 35 (by decide) (by decide)) cd_195_16 rfl rfl rfl (rc0 hM rfl) rfl rfl rfl ?_
      refine r_if51b cd_195_19 rfl (fun n2 => ?_) (fun n2 => ?_)
      · refine r_con (v := 0) cd_195_26 rfl (by decide) ?_
        refine r_ist cd_195_27 rfl rfl (L' := [aR 226, aI 0]) rfl ?_
        refine r_ild cd_195_28 rfl rfl ?_
        refine r_if52 cd_195_29 rfl ⟨by omega, by omega⟩ (fun n3 => ?_) (fun n3 => ?_)
        · refine r_aldR cd_195_32 rfl rfl ?_
          refine r_con (v := 1) cd_195_33 rfl (by decide) ?_
          refine r_cI (c_183 hM hT.2.1 1) cd_195_34 rfl rfl rfl (rc0 hM rfl) rfl rfl rfl ?_
          exact r_ret cd_195_37 (Or.inl rfl) (rfl)
        · exact absurd n3 (by decide)
      · exact absurd n2 hW
    · exact absurd n1 hE
  · have hD : dirA tx N i = .inr (1, tEnd tx N i) := by simp [dirA, hE]
    obtain ⟨sN, hcN, hn2, hn3⟩ := c_179 hM htx hb hT.1 hN6 hT.2.2.2.2.1 heb.2.1
    have rN : RZ h (sw h 226 (.inr (8, Mo sN))) sN w nu := (RZ.rf hM hw hnu).s
    have tN : PS sN tx N (tEnd tx N i) := ⟨(hn3 10 (by omega)).trans hT.1, (hn3 11 (by omega)).trans hT.2.1, hn2⟩
    have lN := heb.2.1
    have fN : Fx s sN := Fx.nx hn3
    rcases hA1 : numA tx N (tEnd tx N i) 0 (3) with ⟨ek, eo⟩ | ⟨v1, j1⟩
    · rw [show cGus tx N i w = .inl (ek, eo) by simp [cGus, bnd, hD, hA1]]
      obtain ⟨he, hcE, hPE⟩ := c_184e rN.1 ((rN.2.2.2.1 233 (by decide) (by decide) (by decide)).trans htx) hb hN6 tN lN rN.2.1 rN.2.2.1 0 (by decide) 0 ⟨by decide, by decide⟩ 3 ⟨by decide, by decide⟩ (by decide) hA1
      refine ⟨he, Ct.of [aR 226, aU] rfl ?_, hPE.tr' rN fN⟩
      refine r_aldR cd_195_0 rfl rfl ?_
      refine r_cst cd_195_1 rfl ?_
      refine r_cI (c_182 hM htx hb hN6 hT hi 34 (by decide) (by decide)) cd_195_3 rfl rfl rfl (rc0 hM rfl) rfl rfl rfl ?_
      refine r_if51b cd_195_6 rfl (fun n1 => ?_) (fun n1 => ?_)
      · exact Bool.noConfusion (n1.symm.trans hE)
      · refine r_con (v := 1) cd_195_9 rfl (by decide) ?_
        refine r_goto cd_195_10 ?_
        refine r_ist cd_195_27 rfl rfl (L' := [aR 226, aI 1]) rfl ?_
        refine r_ild cd_195_28 rfl rfl ?_
        refine r_if52 cd_195_29 rfl ⟨by omega, by omega⟩ (fun n2 => ?_) (fun n2 => ?_)
        · exact absurd n2 (by decide)
        · refine r_aldR cd_195_38 rfl rfl ?_
          refine r_cV hcN cd_195_39 rfl rfl rfl (rc0 hM rfl) rfl rfl rfl ?_
          refine r_aldR cd_195_42 rfl rfl ?_
          refine r_con (v := 0) cd_195_43 rfl (by decide) ?_
          refine r_con (v := 0) cd_195_44 rfl (by decide) ?_
          refine r_con (v := 3) cd_195_45 rfl (by decide) ?_
          refine r_cI hcE cd_195_46 rfl rfl rfl (rc0 rN.1 rfl) rfl rfl rfl ?_
          refine r_if51 cd_195_49 rfl ⟨by omega, by omega⟩ (fun n3 => ?_) (fun n3 => ?_)
          · refine r_con (v := 0) cd_195_75 rfl (by decide) ?_
            exact r_ret cd_195_76 (Or.inl rfl) (rfl)
          · exact absurd n3 (by decide)
    obtain ⟨h1, s1, hc1, r1, t1, l1, f1⟩ := c_184o rN.1 ((rN.2.2.2.1 233 (by decide) (by decide) (by decide)).trans htx) hb hN6 tN lN rN.2.1 rN.2.2.1 0 (by decide) 0 ⟨by decide, by decide⟩ 3 ⟨by decide, by decide⟩ (by decide) hA1
    have q1 := numA_o hA1 (by decide)
    rcases hS : semA tx N j1 (decide (w 4 < 12)) with ⟨ek, eo⟩ | jS
    · rw [show cGus tx N i w = .inl (ek, eo) by simp [cGus, bnd, hD, hA1, hS]]
      obtain ⟨he, hcS, hPE⟩ := c_194e r1.1 ((r1.2.2.2.1 233 (by decide) (by decide) (by decide)).trans ((rN.2.2.2.1 233 (by decide) (by decide) (by decide)).trans htx)) hb hN6 t1 l1 r1.2.1 r1.2.2.1 hS
      refine ⟨he, Ct.of [aR 226, aU] rfl ?_, hPE.tr' (rN.tr r1) (fN.tr f1)⟩
      refine r_aldR cd_195_0 rfl rfl ?_
      refine r_cst cd_195_1 rfl ?_
      refine r_cI (c_182 hM htx hb hN6 hT hi 34 (by decide) (by decide)) cd_195_3 rfl rfl rfl (rc0 hM rfl) rfl rfl rfl ?_
      refine r_if51b cd_195_6 rfl (fun n1 => ?_) (fun n1 => ?_)
      · exact Bool.noConfusion (n1.symm.trans hE)
      · refine r_con (v := 1) cd_195_9 rfl (by decide) ?_
        refine r_goto cd_195_10 ?_
        refine r_ist cd_195_27 rfl rfl (L' := [aR 226, aI 1]) rfl ?_
        refine r_ild cd_195_28 rfl rfl ?_
        refine r_if52 cd_195_29 rfl ⟨by omega, by omega⟩ (fun n2 => ?_) (fun n2 => ?_)
        · exact absurd n2 (by decide)
        · refine r_aldR cd_195_38 rfl rfl ?_
          refine r_cV hcN cd_195_39 rfl rfl rfl (rc0 hM rfl) rfl rfl rfl ?_
          refine r_aldR cd_195_42 rfl rfl ?_
          refine r_con (v := 0) cd_195_43 rfl (by decide) ?_
          refine r_con (v := 0) cd_195_44 rfl (by decide) ?_
          refine r_con (v := 3) cd_195_45 rfl (by decide) ?_
          refine r_cI hc1 cd_195_46 rfl rfl rfl (rc0 rN.1 rfl) rfl rfl rfl ?_
          refine r_if51 cd_195_49 rfl ⟨by omega, by omega⟩ (fun n3 => ?_) (fun n3 => ?_)
          · exact absurd n3 (by decide)
          · refine r_aldR cd_195_52 rfl rfl ?_
            refine r_aldR cd_195_53 rfl rfl ?_
            refine r_get cd_195_54 rfl r1.1 rfl ?_
            refine r_con (v := 4) cd_195_57 rfl (by decide) ?_
            refine r_arr (i := 4) cd_195_58 rfl r1.2.1 rfl (by omega) rfl ?_
            refine r_con (v := 12) cd_195_59 rfl (by decide) ?_
            refine r_ic64 cd_195_61 rfl (inR_of hI.gn (by decide) (by decide)) ⟨by omega, by omega⟩ (fun n4 => ?_) (fun n4 => ?_)
            · refine r_con (v := 1) cd_195_64 rfl (by decide) ?_
              refine r_goto cd_195_65 ?_
              refine r_cI (by rw [← bz_t (t := decide (w 4 < 12)) (by simp [n1, n4])]; exact hcS) cd_195_69 rfl rfl rfl (rc0 r1.1 rfl) rfl rfl rfl ?_
              refine r_if52 cd_195_72 rfl ⟨by omega, by omega⟩ (fun n5 => ?_) (fun n5 => ?_)
              · refine r_con (v := 0) cd_195_75 rfl (by decide) ?_
                exact r_ret cd_195_76 (Or.inl rfl) (rfl)
              · exact absurd n5 (by decide)
            · refine r_con (v := 0) cd_195_68 rfl (by decide) ?_
              refine r_cI (by rw [← bz_f (t := decide (w 4 < 12)) (by simp [n1, n4])]; exact hcS) cd_195_69 rfl rfl rfl (rc0 r1.1 rfl) rfl rfl rfl ?_
              refine r_if52 cd_195_72 rfl ⟨by omega, by omega⟩ (fun n6 => ?_) (fun n6 => ?_)
              · refine r_con (v := 0) cd_195_75 rfl (by decide) ?_
                exact r_ret cd_195_76 (Or.inl rfl) (rfl)
              · exact absurd n6 (by decide)
    · rw [show cGus tx N i w = .inr (jS, blowW w (1 * ((v1 : Nat) : Int))) by simp [cGus, bnd, hD, hA1, hS]]
      have hcS := c_194o r1.1 ((r1.2.2.2.1 233 (by decide) (by decide) (by decide)).trans ((rN.2.2.2.1 233 (by decide) (by decide) (by decide)).trans htx)) hb hN6 t1 l1 hS
      have qS := semA_o hS
      have hej := (tEnd_b (tx := tx) (N := N) l1).2.1
      have qS2 : w 4 < 12 := by simpa using qS.2.1
      refine ⟨sw h1 227 (.inl (0, 211, .inl (blowW w (1 * ((v1 : Nat) : Int))))), s1, (va_up nu 0 ((v1 : Nat) : Int)), Ct.of [aR 226, aU] rfl ?_, (rN.tr r1).w, t1.2.2.2.2.1.trans (by rw [qS.2.2]), t1.1, t1.2.1, by rw [qS.2.2]; exact hej, (fN.tr f1)⟩
      refine r_aldR cd_195_0 rfl rfl ?_
      refine r_cst cd_195_1 rfl ?_
      refine r_cI (c_182 hM htx hb hN6 hT hi 34 (by decide) (by decide)) cd_195_3 rfl rfl rfl (rc0 hM rfl) rfl rfl rfl ?_
      refine r_if51b cd_195_6 rfl (fun n1 => ?_) (fun n1 => ?_)
      · exact Bool.noConfusion (n1.symm.trans hE)
      · refine r_con (v := 1) cd_195_9 rfl (by decide) ?_
        refine r_goto cd_195_10 ?_
        refine r_ist cd_195_27 rfl rfl (L' := [aR 226, aI 1]) rfl ?_
        refine r_ild cd_195_28 rfl rfl ?_
        refine r_if52 cd_195_29 rfl ⟨by omega, by omega⟩ (fun n2 => ?_) (fun n2 => ?_)
        · exact absurd n2 (by decide)
        · refine r_aldR cd_195_38 rfl rfl ?_
          refine r_cV hcN cd_195_39 rfl rfl rfl (rc0 hM rfl) rfl rfl rfl ?_
          refine r_aldR cd_195_42 rfl rfl ?_
          refine r_con (v := 0) cd_195_43 rfl (by decide) ?_
          refine r_con (v := 0) cd_195_44 rfl (by decide) ?_
          refine r_con (v := 3) cd_195_45 rfl (by decide) ?_
          refine r_cI hc1 cd_195_46 rfl rfl rfl (rc0 rN.1 rfl) rfl rfl rfl ?_
          refine r_if51 cd_195_49 rfl ⟨by omega, by omega⟩ (fun n3 => ?_) (fun n3 => ?_)
          · exact absurd n3 (by decide)
          · refine r_aldR cd_195_52 rfl rfl ?_
            refine r_aldR cd_195_53 rfl rfl ?_
            refine r_get cd_195_54 rfl r1.1 rfl ?_
            refine r_con (v := 4) cd_195_57 rfl (by decide) ?_
            refine r_arr (i := 4) cd_195_58 rfl r1.2.1 rfl (by omega) rfl ?_
            refine r_con (v := 12) cd_195_59 rfl (by decide) ?_
            refine r_ic64 cd_195_61 rfl (inR_of hI.gn (by decide) (by decide)) ⟨by omega, by omega⟩ (fun n4 => ?_) (fun n4 => ?_)
            · refine r_con (v := 1) cd_195_64 rfl (by decide) ?_
              refine r_goto cd_195_65 ?_
              refine r_cI (by rw [← bz_t (t := decide (w 4 < 12)) (by simp [n1, n4])]; exact hcS) cd_195_69 rfl rfl rfl (rc0 r1.1 rfl) rfl rfl rfl ?_
              refine r_if52 cd_195_72 rfl ⟨by omega, by omega⟩ (fun n5 => ?_) (fun n5 => ?_)
              · exact absurd n5 (by decide)
              · refine r_aldR cd_195_77 rfl rfl ?_
                refine r_ild cd_195_78 rfl rfl ?_
                refine r_aldR cd_195_79 rfl rfl ?_
                refine r_get cd_195_80 rfl r1.1 rfl ?_
                refine r_con (v := 0) cd_195_83 rfl (by decide) ?_
                refine r_arr (i := 0) cd_195_84 rfl r1.2.2.1 rfl (by omega) rfl ?_
                refine RU.cast (pc2 := 85) (S2 := [aI ((v1 : Nat) : Int), aI 1, aR 226]) rfl rfl rfl ?_
                refine r_mul (v := ((1 * v1 : Nat) : Int)) cd_195_85 rfl (by omega) ?_
                refine r_cI (c_196 r1.1 r1.2.1 ((1 * v1 : Nat) : Int) (by omega) (by omega)) cd_195_86 rfl rfl rfl (rc0 r1.1 rfl) rfl rfl rfl ?_
                refine r_pop cd_195_89 rfl rfl ?_
                refine r_con (v := 1) cd_195_90 rfl (by decide) ?_
                exact r_ret cd_195_91 (Or.inr rfl) (rfl)
            · refine r_con (v := 0) cd_195_68 rfl (by decide) ?_
              refine r_cI (by rw [← bz_f (t := decide (w 4 < 12)) (by simp [n1, n4])]; exact hcS) cd_195_69 rfl rfl rfl (rc0 r1.1 rfl) rfl rfl rfl ?_
              refine r_if52 cd_195_72 rfl ⟨by omega, by omega⟩ (fun n6 => ?_) (fun n6 => ?_)
              · exact absurd n6 (by decide)
              · refine r_aldR cd_195_77 rfl rfl ?_
                refine r_ild cd_195_78 rfl rfl ?_
                refine r_aldR cd_195_79 rfl rfl ?_
                refine r_get cd_195_80 rfl r1.1 rfl ?_
                refine r_con (v := 0) cd_195_83 rfl (by decide) ?_
                refine r_arr (i := 0) cd_195_84 rfl r1.2.2.1 rfl (by omega) rfl ?_
                refine RU.cast (pc2 := 85) (S2 := [aI ((v1 : Nat) : Int), aI 1, aR 226]) rfl rfl rfl ?_
                refine r_mul (v := ((1 * v1 : Nat) : Int)) cd_195_85 rfl (by omega) ?_
                refine r_cI (c_196 r1.1 r1.2.1 ((1 * v1 : Nat) : Int) (by omega) (by omega)) cd_195_86 rfl rfl rfl (rc0 r1.1 rfl) rfl rfl rfl ?_
                refine r_pop cd_195_89 rfl rfl ?_
                refine r_con (v := 1) cd_195_90 rfl (by decide) ?_
                exact r_ret cd_195_91 (Or.inr rfl) (rfl)
  · have hD : dirA tx N i = .inr ((-1), tEnd tx N i) := by simp [dirA, hE, hW]
    obtain ⟨sN, hcN, hn2, hn3⟩ := c_179 hM htx hb hT.1 hN6 hT.2.2.2.2.1 heb.2.1
    have rN : RZ h (sw h 226 (.inr (8, Mo sN))) sN w nu := (RZ.rf hM hw hnu).s
    have tN : PS sN tx N (tEnd tx N i) := ⟨(hn3 10 (by omega)).trans hT.1, (hn3 11 (by omega)).trans hT.2.1, hn2⟩
    have lN := heb.2.1
    have fN : Fx s sN := Fx.nx hn3
    rcases hA1 : numA tx N (tEnd tx N i) 0 (3) with ⟨ek, eo⟩ | ⟨v1, j1⟩
    · rw [show cGus tx N i w = .inl (ek, eo) by simp [cGus, bnd, hD, hA1]]
      obtain ⟨he, hcE, hPE⟩ := c_184e rN.1 ((rN.2.2.2.1 233 (by decide) (by decide) (by decide)).trans htx) hb hN6 tN lN rN.2.1 rN.2.2.1 0 (by decide) 0 ⟨by decide, by decide⟩ 3 ⟨by decide, by decide⟩ (by decide) hA1
      refine ⟨he, Ct.of [aR 226, aU] rfl ?_, hPE.tr' rN fN⟩
      refine r_aldR cd_195_0 rfl rfl ?_
      refine r_cst cd_195_1 rfl ?_
      refine r_cI (c_182 hM htx hb hN6 hT hi 34 (by decide) (by decide)) cd_195_3 rfl rfl rfl (rc0 hM rfl) rfl rfl rfl ?_
      refine r_if51b cd_195_6 rfl (fun n1 => ?_) (fun n1 => ?_)
      · refine r_aldR cd_195_13 rfl rfl ?_
        refine r_cst cd_195_14 rfl ?_
        refine r_cI (c_182 hM htx hb hN6 hT hi 35 (by decide) (by decide)) cd_195_16 rfl rfl rfl (rc0 hM rfl) rfl rfl rfl ?_
        refine r_if51b cd_195_19 rfl (fun n2 => ?_) (fun n2 => ?_)
        · exact Bool.noConfusion (n2.symm.trans hW)
        · refine r_con (v := (-1)) cd_195_22 rfl (by decide) ?_
          refine r_goto cd_195_23 ?_
          refine r_ist cd_195_27 rfl rfl (L' := [aR 226, aI (-1)]) rfl ?_
          refine r_ild cd_195_28 rfl rfl ?_
          refine r_if52 cd_195_29 rfl ⟨by omega, by omega⟩ (fun n3 => ?_) (fun n3 => ?_)
          · exact absurd n3 (by decide)
          · refine r_aldR cd_195_38 rfl rfl ?_
            refine r_cV hcN cd_195_39 rfl rfl rfl (rc0 hM rfl) rfl rfl rfl ?_
            refine r_aldR cd_195_42 rfl rfl ?_
            refine r_con (v := 0) cd_195_43 rfl (by decide) ?_
            refine r_con (v := 0) cd_195_44 rfl (by decide) ?_
            refine r_con (v := 3) cd_195_45 rfl (by decide) ?_
            refine r_cI hcE cd_195_46 rfl rfl rfl (rc0 rN.1 rfl) rfl rfl rfl ?_
            refine r_if51 cd_195_49 rfl ⟨by omega, by omega⟩ (fun n4 => ?_) (fun n4 => ?_)
            · refine r_con (v := 0) cd_195_75 rfl (by decide) ?_
              exact r_ret cd_195_76 (Or.inl rfl) (rfl)
            · exact absurd n4 (by decide)
      · exact absurd n1 hE
    obtain ⟨h1, s1, hc1, r1, t1, l1, f1⟩ := c_184o rN.1 ((rN.2.2.2.1 233 (by decide) (by decide) (by decide)).trans htx) hb hN6 tN lN rN.2.1 rN.2.2.1 0 (by decide) 0 ⟨by decide, by decide⟩ 3 ⟨by decide, by decide⟩ (by decide) hA1
    have q1 := numA_o hA1 (by decide)
    rcases hS : semA tx N j1 (decide (w 4 < 12)) with ⟨ek, eo⟩ | jS
    · rw [show cGus tx N i w = .inl (ek, eo) by simp [cGus, bnd, hD, hA1, hS]]
      obtain ⟨he, hcS, hPE⟩ := c_194e r1.1 ((r1.2.2.2.1 233 (by decide) (by decide) (by decide)).trans ((rN.2.2.2.1 233 (by decide) (by decide) (by decide)).trans htx)) hb hN6 t1 l1 r1.2.1 r1.2.2.1 hS
      refine ⟨he, Ct.of [aR 226, aU] rfl ?_, hPE.tr' (rN.tr r1) (fN.tr f1)⟩
      refine r_aldR cd_195_0 rfl rfl ?_
      refine r_cst cd_195_1 rfl ?_
      refine r_cI (c_182 hM htx hb hN6 hT hi 34 (by decide) (by decide)) cd_195_3 rfl rfl rfl (rc0 hM rfl) rfl rfl rfl ?_
      refine r_if51b cd_195_6 rfl (fun n1 => ?_) (fun n1 => ?_)
      · refine r_aldR cd_195_13 rfl rfl ?_
        refine r_cst cd_195_14 rfl ?_
        refine r_cI (c_182 hM htx hb hN6 hT hi 35 (by decide) (by decide)) cd_195_16 rfl rfl rfl (rc0 hM rfl) rfl rfl rfl ?_
        refine r_if51b cd_195_19 rfl (fun n2 => ?_) (fun n2 => ?_)
        · exact Bool.noConfusion (n2.symm.trans hW)
        · refine r_con (v := (-1)) cd_195_22 rfl (by decide) ?_
          refine r_goto cd_195_23 ?_
          refine r_ist cd_195_27 rfl rfl (L' := [aR 226, aI (-1)]) rfl ?_
          refine r_ild cd_195_28 rfl rfl ?_
          refine r_if52 cd_195_29 rfl ⟨by omega, by omega⟩ (fun n3 => ?_) (fun n3 => ?_)
          · exact absurd n3 (by decide)
          · refine r_aldR cd_195_38 rfl rfl ?_
            refine r_cV hcN cd_195_39 rfl rfl rfl (rc0 hM rfl) rfl rfl rfl ?_
            refine r_aldR cd_195_42 rfl rfl ?_
            refine r_con (v := 0) cd_195_43 rfl (by decide) ?_
            refine r_con (v := 0) cd_195_44 rfl (by decide) ?_
            refine r_con (v := 3) cd_195_45 rfl (by decide) ?_
            refine r_cI hc1 cd_195_46 rfl rfl rfl (rc0 rN.1 rfl) rfl rfl rfl ?_
            refine r_if51 cd_195_49 rfl ⟨by omega, by omega⟩ (fun n4 => ?_) (fun n4 => ?_)
            · exact absurd n4 (by decide)
            · refine r_aldR cd_195_52 rfl rfl ?_
              refine r_aldR cd_195_53 rfl rfl ?_
              refine r_get cd_195_54 rfl r1.1 rfl ?_
              refine r_con (v := 4) cd_195_57 rfl (by decide) ?_
              refine r_arr (i := 4) cd_195_58 rfl r1.2.1 rfl (by omega) rfl ?_
              refine r_con (v := 12) cd_195_59 rfl (by decide) ?_
              refine r_ic64 cd_195_61 rfl (inR_of hI.gn (by decide) (by decide)) ⟨by omega, by omega⟩ (fun n5 => ?_) (fun n5 => ?_)
              · refine r_con (v := 1) cd_195_64 rfl (by decide) ?_
                refine r_goto cd_195_65 ?_
                refine r_cI (by rw [← bz_t (t := decide (w 4 < 12)) (by simp [n1, n2, n5])]; exact hcS) cd_195_69 rfl rfl rfl (rc0 r1.1 rfl) rfl rfl rfl ?_
                refine r_if52 cd_195_72 rfl ⟨by omega, by omega⟩ (fun n6 => ?_) (fun n6 => ?_)
                · refine r_con (v := 0) cd_195_75 rfl (by decide) ?_
                  exact r_ret cd_195_76 (Or.inl rfl) (rfl)
                · exact absurd n6 (by decide)
              · refine r_con (v := 0) cd_195_68 rfl (by decide) ?_
                refine r_cI (by rw [← bz_f (t := decide (w 4 < 12)) (by simp [n1, n2, n5])]; exact hcS) cd_195_69 rfl rfl rfl (rc0 r1.1 rfl) rfl rfl rfl ?_
                refine r_if52 cd_195_72 rfl ⟨by omega, by omega⟩ (fun n7 => ?_) (fun n7 => ?_)
                · refine r_con (v := 0) cd_195_75 rfl (by decide) ?_
                  exact r_ret cd_195_76 (Or.inl rfl) (rfl)
                · exact absurd n7 (by decide)
      · exact absurd n1 hE
    · rw [show cGus tx N i w = .inr (jS, blowW w ((-1) * ((v1 : Nat) : Int))) by simp [cGus, bnd, hD, hA1, hS]]
      have hcS := c_194o r1.1 ((r1.2.2.2.1 233 (by decide) (by decide) (by decide)).trans ((rN.2.2.2.1 233 (by decide) (by decide) (by decide)).trans htx)) hb hN6 t1 l1 hS
      have qS := semA_o hS
      have hej := (tEnd_b (tx := tx) (N := N) l1).2.1
      have qS2 : w 4 < 12 := by simpa using qS.2.1
      refine ⟨sw h1 227 (.inl (0, 211, .inl (blowW w ((-1) * ((v1 : Nat) : Int))))), s1, (va_up nu 0 ((v1 : Nat) : Int)), Ct.of [aR 226, aU] rfl ?_, (rN.tr r1).w, t1.2.2.2.2.1.trans (by rw [qS.2.2]), t1.1, t1.2.1, by rw [qS.2.2]; exact hej, (fN.tr f1)⟩
      refine r_aldR cd_195_0 rfl rfl ?_
      refine r_cst cd_195_1 rfl ?_
      refine r_cI (c_182 hM htx hb hN6 hT hi 34 (by decide) (by decide)) cd_195_3 rfl rfl rfl (rc0 hM rfl) rfl rfl rfl ?_
      refine r_if51b cd_195_6 rfl (fun n1 => ?_) (fun n1 => ?_)
      · refine r_aldR cd_195_13 rfl rfl ?_
        refine r_cst cd_195_14 rfl ?_
        refine r_cI (c_182 hM htx hb hN6 hT hi 35 (by decide) (by decide)) cd_195_16 rfl rfl rfl (rc0 hM rfl) rfl rfl rfl ?_
        refine r_if51b cd_195_19 rfl (fun n2 => ?_) (fun n2 => ?_)
        · exact Bool.noConfusion (n2.symm.trans hW)
        · refine r_con (v := (-1)) cd_195_22 rfl (by decide) ?_
          refine r_goto cd_195_23 ?_
          refine r_ist cd_195_27 rfl rfl (L' := [aR 226, aI (-1)]) rfl ?_
          refine r_ild cd_195_28 rfl rfl ?_
          refine r_if52 cd_195_29 rfl ⟨by omega, by omega⟩ (fun n3 => ?_) (fun n3 => ?_)
          · exact absurd n3 (by decide)
          · refine r_aldR cd_195_38 rfl rfl ?_
            refine r_cV hcN cd_195_39 rfl rfl rfl (rc0 hM rfl) rfl rfl rfl ?_
            refine r_aldR cd_195_42 rfl rfl ?_
            refine r_con (v := 0) cd_195_43 rfl (by decide) ?_
            refine r_con (v := 0) cd_195_44 rfl (by decide) ?_
            refine r_con (v := 3) cd_195_45 rfl (by decide) ?_
            refine r_cI hc1 cd_195_46 rfl rfl rfl (rc0 rN.1 rfl) rfl rfl rfl ?_
            refine r_if51 cd_195_49 rfl ⟨by omega, by omega⟩ (fun n4 => ?_) (fun n4 => ?_)
            · exact absurd n4 (by decide)
            · refine r_aldR cd_195_52 rfl rfl ?_
              refine r_aldR cd_195_53 rfl rfl ?_
              refine r_get cd_195_54 rfl r1.1 rfl ?_
              refine r_con (v := 4) cd_195_57 rfl (by decide) ?_
              refine r_arr (i := 4) cd_195_58 rfl r1.2.1 rfl (by omega) rfl ?_
              refine r_con (v := 12) cd_195_59 rfl (by decide) ?_
              refine r_ic64 cd_195_61 rfl (inR_of hI.gn (by decide) (by decide)) ⟨by omega, by omega⟩ (fun n5 => ?_) (fun n5 => ?_)
              · refine r_con (v := 1) cd_195_64 rfl (by decide) ?_
                refine r_goto cd_195_65 ?_
                refine r_cI (by rw [← bz_t (t := decide (w 4 < 12)) (by simp [n1, n2, n5])]; exact hcS) cd_195_69 rfl rfl rfl (rc0 r1.1 rfl) rfl rfl rfl ?_
                refine r_if52 cd_195_72 rfl ⟨by omega, by omega⟩ (fun n6 => ?_) (fun n6 => ?_)
                · exact absurd n6 (by decide)
                · refine r_aldR cd_195_77 rfl rfl ?_
                  refine r_ild cd_195_78 rfl rfl ?_
                  refine r_aldR cd_195_79 rfl rfl ?_
                  refine r_get cd_195_80 rfl r1.1 rfl ?_
                  refine r_con (v := 0) cd_195_83 rfl (by decide) ?_
                  refine r_arr (i := 0) cd_195_84 rfl r1.2.2.1 rfl (by omega) rfl ?_
                  refine RU.cast (pc2 := 85) (S2 := [aI ((v1 : Nat) : Int), aI (-1), aR 226]) rfl rfl rfl ?_
                  refine r_mul (v := (-1) * ((v1 : Nat) : Int)) cd_195_85 rfl (by rfl) ?_
                  refine r_cI (c_196 r1.1 r1.2.1 ((-1) * ((v1 : Nat) : Int)) (by omega) (by omega)) cd_195_86 rfl rfl rfl (rc0 r1.1 rfl) rfl rfl rfl ?_
                  refine r_pop cd_195_89 rfl rfl ?_
                  refine r_con (v := 1) cd_195_90 rfl (by decide) ?_
                  exact r_ret cd_195_91 (Or.inr rfl) (rfl)
              · refine r_con (v := 0) cd_195_68 rfl (by decide) ?_
                refine r_cI (by rw [← bz_f (t := decide (w 4 < 12)) (by simp [n1, n2, n5])]; exact hcS) cd_195_69 rfl rfl rfl (rc0 r1.1 rfl) rfl rfl rfl ?_
                refine r_if52 cd_195_72 rfl ⟨by omega, by omega⟩ (fun n7 => ?_) (fun n7 => ?_)
                · exact absurd n7 (by decide)
                · refine r_aldR cd_195_77 rfl rfl ?_
                  refine r_ild cd_195_78 rfl rfl ?_
                  refine r_aldR cd_195_79 rfl rfl ?_
                  refine r_get cd_195_80 rfl r1.1 rfl ?_
                  refine r_con (v := 0) cd_195_83 rfl (by decide) ?_
                  refine r_arr (i := 0) cd_195_84 rfl r1.2.2.1 rfl (by omega) rfl ?_
                  refine RU.cast (pc2 := 85) (S2 := [aI ((v1 : Nat) : Int), aI (-1), aR 226]) rfl rfl rfl ?_
                  refine r_mul (v := (-1) * ((v1 : Nat) : Int)) cd_195_85 rfl (by rfl) ?_
                  refine r_cI (c_196 r1.1 r1.2.1 ((-1) * ((v1 : Nat) : Int)) (by omega) (by omega)) cd_195_86 rfl rfl rfl (rc0 r1.1 rfl) rfl rfl rfl ?_
                  refine r_pop cd_195_89 rfl rfl ?_
                  refine r_con (v := 1) cd_195_90 rfl (by decide) ?_
                  exact r_ret cd_195_91 (Or.inr rfl) (rfl)
      · exact absurd n1 hE
theorem r_201 {h : aH} {s w nu tx : Nat → Int} {N i : Nat} (hM : h.2.2 226 = .inr (8, Mo s)) (htx : h.2.2 233 = .inl (0, 600, .inl tx)) (hb : TxB tx) (hN6 : N ≤ 600) (hT : PS s tx N i) (hi : i ≤ N) (hw : h.2.2 227 = .inl (0, 211, .inl w)) (hnu : h.2.2 235 = .inl (0, 4, .inl nu)) (hI : Inv0 w) : CP 5 201 [aR 226] h s w N (cPar tx N i w) := by
  have hbn := hI.bNe
  have hpn := hI.pNe
  have x0 := hI.len
  have x1 := hI.hour
  have x2 := hI.gas
  have x3 := hI.leak
  have x4 := hI.gn
  have x5 := hI.bn
  have x6 := hI.pn
  rcases hA1 : numA tx N i 1 (9) with ⟨ek, eo⟩ | ⟨v1, j1⟩
  · rw [show cPar tx N i w = .inl (ek, eo) by simp [cPar, bnd, hA1]]
    obtain ⟨he, hcE, hPE⟩ := c_184e hM htx hb hN6 hT hi hw hnu 0 (by decide) 1 ⟨by decide, by decide⟩ 9 ⟨by decide, by decide⟩ (by decide) hA1
    refine ⟨he, Ct.of [aR 226] rfl ?_, hPE.tr' (RZ.rf hM hw hnu) Fx.rf⟩
    refine r_aldR cd_201_0 rfl rfl ?_
    refine r_con (v := 0) cd_201_1 rfl (by decide) ?_
    refine r_con (v := 1) cd_201_2 rfl (by decide) ?_
    refine r_con (v := 9) cd_201_3 rfl (by decide) ?_
    refine r_cI hcE cd_201_5 rfl rfl rfl (rc0 hM rfl) rfl rfl rfl ?_
    refine r_if51 cd_201_8 rfl ⟨by omega, by omega⟩ (fun n1 => ?_) (fun n1 => ?_)
    · refine r_con (v := 0) cd_201_19 rfl (by decide) ?_
      exact r_ret cd_201_20 (Or.inl rfl) (rfl)
    · exact absurd n1 (by decide)
  obtain ⟨h1, s1, hc1, r1, t1, l1, f1⟩ := c_184o hM htx hb hN6 hT hi hw hnu 0 (by decide) 1 ⟨by decide, by decide⟩ 9 ⟨by decide, by decide⟩ (by decide) hA1
  have q1 := numA_o hA1 (by decide)
  rcases hA2 : numA tx N j1 0 (w 0 - 1) with ⟨ek, eo⟩ | ⟨v2, j2⟩
  · rw [show cPar tx N i w = .inl (ek, eo) by simp [cPar, bnd, hA1, hA2]]
    obtain ⟨he, hcE, hPE⟩ := c_193e r1.1 ((r1.2.2.2.1 233 (by decide) (by decide) (by decide)).trans htx) hb hN6 t1 l1 r1.2.1 r1.2.2.1 hI 1 (by decide) hA2
    refine ⟨he, Ct.of [aR 226] rfl ?_, hPE.tr' ((RZ.rf hM hw hnu).tr r1) (Fx.rf.tr f1)⟩
    refine r_aldR cd_201_0 rfl rfl ?_
    refine r_con (v := 0) cd_201_1 rfl (by decide) ?_
    refine r_con (v := 1) cd_201_2 rfl (by decide) ?_
    refine r_con (v := 9) cd_201_3 rfl (by decide) ?_
    refine r_cI hc1 cd_201_5 rfl rfl rfl (rc0 hM rfl) rfl rfl rfl ?_
    refine r_if51 cd_201_8 rfl ⟨by omega, by omega⟩ (fun n1 => ?_) (fun n1 => ?_)
    · exact absurd n1 (by decide)
    · refine r_aldR cd_201_11 rfl rfl ?_
      refine r_con (v := 1) cd_201_12 rfl (by decide) ?_
      refine r_cI hcE cd_201_13 rfl rfl rfl (rc0 r1.1 rfl) rfl rfl rfl ?_
      refine r_if52 cd_201_16 rfl ⟨by omega, by omega⟩ (fun n2 => ?_) (fun n2 => ?_)
      · refine r_con (v := 0) cd_201_19 rfl (by decide) ?_
        exact r_ret cd_201_20 (Or.inl rfl) (rfl)
      · exact absurd n2 (by decide)
  obtain ⟨h2, s2, hc2, r2, t2, l2, f2⟩ := c_193o r1.1 ((r1.2.2.2.1 233 (by decide) (by decide) (by decide)).trans htx) hb hN6 t1 l1 r1.2.1 r1.2.2.1 hI 1 (by decide) hA2
  have q2 := numA_o hA2 (by decide)
  by_cases hO : tKnd tx N j2 = 3 ∧ tVal tx N j2 = ((v2 : Nat) : Int)
  · rw [show cPar tx N i w = .inl (2, ((tOff tx N j2 : Nat) : Int)) by simp [cPar, bnd, hA1, hA2, othA, hO]]
    refine ⟨sw h2 226 (.inr (8, Mo (erS s2 2))), Ct.of [aR 226] rfl ?_, PE.er (((RZ.rf hM hw hnu).tr r1).tr r2) ((Fx.rf.tr f1).tr f2) t2.2.2.2.1⟩
    refine r_aldR cd_201_0 rfl rfl ?_
    refine r_con (v := 0) cd_201_1 rfl (by decide) ?_
    refine r_con (v := 1) cd_201_2 rfl (by decide) ?_
    refine r_con (v := 9) cd_201_3 rfl (by decide) ?_
    refine r_cI hc1 cd_201_5 rfl rfl rfl (rc0 hM rfl) rfl rfl rfl ?_
    refine r_if51 cd_201_8 rfl ⟨by omega, by omega⟩ (fun n1 => ?_) (fun n1 => ?_)
    · exact absurd n1 (by decide)
    · refine r_aldR cd_201_11 rfl rfl ?_
      refine r_con (v := 1) cd_201_12 rfl (by decide) ?_
      refine r_cI hc2 cd_201_13 rfl rfl rfl (rc0 r1.1 rfl) rfl rfl rfl ?_
      refine r_if52 cd_201_16 rfl ⟨by omega, by omega⟩ (fun n2 => ?_) (fun n2 => ?_)
      · exact absurd n2 (by decide)
      · refine r_aldR cd_201_21 rfl rfl ?_
        refine r_get (v := aI (tKnd tx N j2)) cd_201_22 rfl r2.1 (by rw [← t2.2.2.1]; rfl) ?_
        refine r_con (v := 3) cd_201_25 rfl (by decide) ?_
        refine r_ic62 cd_201_26 rfl (inR_of (tKnd_b (tx := tx) (N := N) (i := j2)) (by decide) (by decide)) ⟨by omega, by omega⟩ (fun n3 => ?_) (fun n3 => ?_)
        · refine r_aldR cd_201_29 rfl rfl ?_
          refine r_get (v := aI (tVal tx N j2)) cd_201_30 rfl r2.1 (by rw [← t2.2.2.2.2.2 n3]; rfl) ?_
          refine r_aldR cd_201_33 rfl rfl ?_
          refine r_get cd_201_34 rfl r2.1 rfl ?_
          refine r_con (v := 1) cd_201_37 rfl (by decide) ?_
          refine r_arr (i := 1) cd_201_38 rfl r2.2.2.1 rfl (by omega) rfl ?_
          refine RU.cast (pc2 := 39) (S2 := [aI ((v2 : Nat) : Int), aI (tVal tx N j2)]) rfl rfl rfl ?_
          refine r_ic62 cd_201_39 rfl (tVal_in hb n3) ⟨by omega, by omega⟩ (fun n4 => ?_) (fun n4 => ?_)
          · refine r_aldR cd_201_42 rfl rfl ?_
            refine r_con (v := 2) cd_201_43 rfl (by decide) ?_
            refine r_cI (c_183 r2.1 t2.2.1 2) cd_201_44 rfl rfl rfl (rc0 r2.1 rfl) rfl rfl rfl ?_
            exact r_ret cd_201_47 (Or.inl rfl) (rfl)
          · exact absurd hO.2 n4
        · exact absurd hO.1 n3
  rcases hA3 : numA tx N j2 0 (w 0 - 1) with ⟨ek, eo⟩ | ⟨v3, j3⟩
  · rw [show cPar tx N i w = .inl (ek, eo) by simp [cPar, bnd, hA1, hA2, othA, hO, hA3]]
    obtain ⟨he, hcE, hPE⟩ := c_193e r2.1 ((r2.2.2.2.1 233 (by decide) (by decide) (by decide)).trans ((r1.2.2.2.1 233 (by decide) (by decide) (by decide)).trans htx)) hb hN6 t2 l2 r2.2.1 r2.2.2.1 hI 2 (by decide) hA3
    refine ⟨he, Ct.of [aR 226] rfl ?_, hPE.tr' (((RZ.rf hM hw hnu).tr r1).tr r2) ((Fx.rf.tr f1).tr f2)⟩
    refine r_aldR cd_201_0 rfl rfl ?_
    refine r_con (v := 0) cd_201_1 rfl (by decide) ?_
    refine r_con (v := 1) cd_201_2 rfl (by decide) ?_
    refine r_con (v := 9) cd_201_3 rfl (by decide) ?_
    refine r_cI hc1 cd_201_5 rfl rfl rfl (rc0 hM rfl) rfl rfl rfl ?_
    refine r_if51 cd_201_8 rfl ⟨by omega, by omega⟩ (fun n1 => ?_) (fun n1 => ?_)
    · exact absurd n1 (by decide)
    · refine r_aldR cd_201_11 rfl rfl ?_
      refine r_con (v := 1) cd_201_12 rfl (by decide) ?_
      refine r_cI hc2 cd_201_13 rfl rfl rfl (rc0 r1.1 rfl) rfl rfl rfl ?_
      refine r_if52 cd_201_16 rfl ⟨by omega, by omega⟩ (fun n2 => ?_) (fun n2 => ?_)
      · exact absurd n2 (by decide)
      · refine r_aldR cd_201_21 rfl rfl ?_
        refine r_get (v := aI (tKnd tx N j2)) cd_201_22 rfl r2.1 (by rw [← t2.2.2.1]; rfl) ?_
        refine r_con (v := 3) cd_201_25 rfl (by decide) ?_
        refine r_ic62 cd_201_26 rfl (inR_of (tKnd_b (tx := tx) (N := N) (i := j2)) (by decide) (by decide)) ⟨by omega, by omega⟩ (fun n3 => ?_) (fun n3 => ?_)
        · refine r_aldR cd_201_29 rfl rfl ?_
          refine r_get (v := aI (tVal tx N j2)) cd_201_30 rfl r2.1 (by rw [← t2.2.2.2.2.2 n3]; rfl) ?_
          refine r_aldR cd_201_33 rfl rfl ?_
          refine r_get cd_201_34 rfl r2.1 rfl ?_
          refine r_con (v := 1) cd_201_37 rfl (by decide) ?_
          refine r_arr (i := 1) cd_201_38 rfl r2.2.2.1 rfl (by omega) rfl ?_
          refine RU.cast (pc2 := 39) (S2 := [aI ((v2 : Nat) : Int), aI (tVal tx N j2)]) rfl rfl rfl ?_
          refine r_ic62 cd_201_39 rfl (tVal_in hb n3) ⟨by omega, by omega⟩ (fun n4 => ?_) (fun n4 => ?_)
          · exact absurd ⟨n3, n4⟩ hO
          · refine r_aldR cd_201_48 rfl rfl ?_
            refine r_con (v := 2) cd_201_49 rfl (by decide) ?_
            refine r_cI hcE cd_201_50 rfl rfl rfl (rc0 r2.1 rfl) rfl rfl rfl ?_
            refine r_if51 cd_201_53 rfl ⟨by omega, by omega⟩ (fun n5 => ?_) (fun n5 => ?_)
            · refine r_con (v := 0) cd_201_113 rfl (by decide) ?_
              exact r_ret cd_201_114 (Or.inl rfl) (rfl)
            · exact absurd n5 (by decide)
        · refine r_aldR cd_201_48 rfl rfl ?_
          refine r_con (v := 2) cd_201_49 rfl (by decide) ?_
          refine r_cI hcE cd_201_50 rfl rfl rfl (rc0 r2.1 rfl) rfl rfl rfl ?_
          refine r_if51 cd_201_53 rfl ⟨by omega, by omega⟩ (fun n6 => ?_) (fun n6 => ?_)
          · refine r_con (v := 0) cd_201_113 rfl (by decide) ?_
            exact r_ret cd_201_114 (Or.inl rfl) (rfl)
          · exact absurd n6 (by decide)
  obtain ⟨h3, s3, hc3, r3, t3, l3, f3⟩ := c_193o r2.1 ((r2.2.2.2.1 233 (by decide) (by decide) (by decide)).trans ((r1.2.2.2.1 233 (by decide) (by decide) (by decide)).trans htx)) hb hN6 t2 l2 r2.2.1 r2.2.2.1 hI 2 (by decide) hA3
  have q3 := numA_o hA3 (by decide)
  rcases hA4 : numA tx N j3 0 (99) with ⟨ek, eo⟩ | ⟨v4, j4⟩
  · rw [show cPar tx N i w = .inl (ek, eo) by simp [cPar, bnd, hA1, hA2, othA, hO, hA3, hA4]]
    obtain ⟨he, hcE, hPE⟩ := c_184e r3.1 ((r3.2.2.2.1 233 (by decide) (by decide) (by decide)).trans ((r2.2.2.2.1 233 (by decide) (by decide) (by decide)).trans ((r1.2.2.2.1 233 (by decide) (by decide) (by decide)).trans htx))) hb hN6 t3 l3 r3.2.1 r3.2.2.1 3 (by decide) 0 ⟨by decide, by decide⟩ 99 ⟨by decide, by decide⟩ (by decide) hA4
    refine ⟨he, Ct.of [aR 226] rfl ?_, hPE.tr' ((((RZ.rf hM hw hnu).tr r1).tr r2).tr r3) (((Fx.rf.tr f1).tr f2).tr f3)⟩
    refine r_aldR cd_201_0 rfl rfl ?_
    refine r_con (v := 0) cd_201_1 rfl (by decide) ?_
    refine r_con (v := 1) cd_201_2 rfl (by decide) ?_
    refine r_con (v := 9) cd_201_3 rfl (by decide) ?_
    refine r_cI hc1 cd_201_5 rfl rfl rfl (rc0 hM rfl) rfl rfl rfl ?_
    refine r_if51 cd_201_8 rfl ⟨by omega, by omega⟩ (fun n1 => ?_) (fun n1 => ?_)
    · exact absurd n1 (by decide)
    · refine r_aldR cd_201_11 rfl rfl ?_
      refine r_con (v := 1) cd_201_12 rfl (by decide) ?_
      refine r_cI hc2 cd_201_13 rfl rfl rfl (rc0 r1.1 rfl) rfl rfl rfl ?_
      refine r_if52 cd_201_16 rfl ⟨by omega, by omega⟩ (fun n2 => ?_) (fun n2 => ?_)
      · exact absurd n2 (by decide)
      · refine r_aldR cd_201_21 rfl rfl ?_
        refine r_get (v := aI (tKnd tx N j2)) cd_201_22 rfl r2.1 (by rw [← t2.2.2.1]; rfl) ?_
        refine r_con (v := 3) cd_201_25 rfl (by decide) ?_
        refine r_ic62 cd_201_26 rfl (inR_of (tKnd_b (tx := tx) (N := N) (i := j2)) (by decide) (by decide)) ⟨by omega, by omega⟩ (fun n3 => ?_) (fun n3 => ?_)
        · refine r_aldR cd_201_29 rfl rfl ?_
          refine r_get (v := aI (tVal tx N j2)) cd_201_30 rfl r2.1 (by rw [← t2.2.2.2.2.2 n3]; rfl) ?_
          refine r_aldR cd_201_33 rfl rfl ?_
          refine r_get cd_201_34 rfl r2.1 rfl ?_
          refine r_con (v := 1) cd_201_37 rfl (by decide) ?_
          refine r_arr (i := 1) cd_201_38 rfl r2.2.2.1 rfl (by omega) rfl ?_
          refine RU.cast (pc2 := 39) (S2 := [aI ((v2 : Nat) : Int), aI (tVal tx N j2)]) rfl rfl rfl ?_
          refine r_ic62 cd_201_39 rfl (tVal_in hb n3) ⟨by omega, by omega⟩ (fun n4 => ?_) (fun n4 => ?_)
          · exact absurd ⟨n3, n4⟩ hO
          · refine r_aldR cd_201_48 rfl rfl ?_
            refine r_con (v := 2) cd_201_49 rfl (by decide) ?_
            refine r_cI hc3 cd_201_50 rfl rfl rfl (rc0 r2.1 rfl) rfl rfl rfl ?_
            refine r_if51 cd_201_53 rfl ⟨by omega, by omega⟩ (fun n5 => ?_) (fun n5 => ?_)
            · exact absurd n5 (by decide)
            · refine r_aldR cd_201_56 rfl rfl ?_
              refine r_con (v := 3) cd_201_57 rfl (by decide) ?_
              refine r_con (v := 0) cd_201_58 rfl (by decide) ?_
              refine r_con (v := 99) cd_201_59 rfl (by decide) ?_
              refine r_cI hcE cd_201_61 rfl rfl rfl (rc0 r3.1 rfl) rfl rfl rfl ?_
              refine r_if51 cd_201_64 rfl ⟨by omega, by omega⟩ (fun n6 => ?_) (fun n6 => ?_)
              · refine r_con (v := 0) cd_201_113 rfl (by decide) ?_
                exact r_ret cd_201_114 (Or.inl rfl) (rfl)
              · exact absurd n6 (by decide)
        · refine r_aldR cd_201_48 rfl rfl ?_
          refine r_con (v := 2) cd_201_49 rfl (by decide) ?_
          refine r_cI hc3 cd_201_50 rfl rfl rfl (rc0 r2.1 rfl) rfl rfl rfl ?_
          refine r_if51 cd_201_53 rfl ⟨by omega, by omega⟩ (fun n7 => ?_) (fun n7 => ?_)
          · exact absurd n7 (by decide)
          · refine r_aldR cd_201_56 rfl rfl ?_
            refine r_con (v := 3) cd_201_57 rfl (by decide) ?_
            refine r_con (v := 0) cd_201_58 rfl (by decide) ?_
            refine r_con (v := 99) cd_201_59 rfl (by decide) ?_
            refine r_cI hcE cd_201_61 rfl rfl rfl (rc0 r3.1 rfl) rfl rfl rfl ?_
            refine r_if51 cd_201_64 rfl ⟨by omega, by omega⟩ (fun n8 => ?_) (fun n8 => ?_)
            · refine r_con (v := 0) cd_201_113 rfl (by decide) ?_
              exact r_ret cd_201_114 (Or.inl rfl) (rfl)
            · exact absurd n8 (by decide)
  obtain ⟨h4, s4, hc4, r4, t4, l4, f4⟩ := c_184o r3.1 ((r3.2.2.2.1 233 (by decide) (by decide) (by decide)).trans ((r2.2.2.2.1 233 (by decide) (by decide) (by decide)).trans ((r1.2.2.2.1 233 (by decide) (by decide) (by decide)).trans htx))) hb hN6 t3 l3 r3.2.1 r3.2.2.1 3 (by decide) 0 ⟨by decide, by decide⟩ 99 ⟨by decide, by decide⟩ (by decide) hA4
  have q4 := numA_o hA4 (by decide)
  rcases hS : semA tx N j4 (decide (w 6 < 16) && decide (numbd w ((v4 : Nat) : Int) = -1)) with ⟨ek, eo⟩ | jS
  · rw [show cPar tx N i w = .inl (ek, eo) by simp [cPar, bnd, hA1, hA2, othA, hO, hA3, hA4, hS]]
    obtain ⟨qe1, ⟨qe2, qe3⟩ | ⟨qe2, qe3, qe4⟩⟩ := semA_e hS
    · subst qe2
      refine ⟨sw h4 226 (.inr (8, Mo (erS s4 1))), Ct.of [aR 226] rfl ?_, PE.er (((((RZ.rf hM hw hnu).tr r1).tr r2).tr r3).tr r4) ((((Fx.rf.tr f1).tr f2).tr f3).tr f4) (t4.2.2.2.1.trans qe1.symm)⟩
      refine r_aldR cd_201_0 rfl rfl ?_
      refine r_con (v := 0) cd_201_1 rfl (by decide) ?_
      refine r_con (v := 1) cd_201_2 rfl (by decide) ?_
      refine r_con (v := 9) cd_201_3 rfl (by decide) ?_
      refine r_cI hc1 cd_201_5 rfl rfl rfl (rc0 hM rfl) rfl rfl rfl ?_
      refine r_if51 cd_201_8 rfl ⟨by omega, by omega⟩ (fun n1 => ?_) (fun n1 => ?_)
      · exact absurd n1 (by decide)
      · refine r_aldR cd_201_11 rfl rfl ?_
        refine r_con (v := 1) cd_201_12 rfl (by decide) ?_
        refine r_cI hc2 cd_201_13 rfl rfl rfl (rc0 r1.1 rfl) rfl rfl rfl ?_
        refine r_if52 cd_201_16 rfl ⟨by omega, by omega⟩ (fun n2 => ?_) (fun n2 => ?_)
        · exact absurd n2 (by decide)
        · refine r_aldR cd_201_21 rfl rfl ?_
          refine r_get (v := aI (tKnd tx N j2)) cd_201_22 rfl r2.1 (by rw [← t2.2.2.1]; rfl) ?_
          refine r_con (v := 3) cd_201_25 rfl (by decide) ?_
          refine r_ic62 cd_201_26 rfl (inR_of (tKnd_b (tx := tx) (N := N) (i := j2)) (by decide) (by decide)) ⟨by omega, by omega⟩ (fun n3 => ?_) (fun n3 => ?_)
          · refine r_aldR cd_201_29 rfl rfl ?_
            refine r_get (v := aI (tVal tx N j2)) cd_201_30 rfl r2.1 (by rw [← t2.2.2.2.2.2 n3]; rfl) ?_
            refine r_aldR cd_201_33 rfl rfl ?_
            refine r_get cd_201_34 rfl r2.1 rfl ?_
            refine r_con (v := 1) cd_201_37 rfl (by decide) ?_
            refine r_arr (i := 1) cd_201_38 rfl r2.2.2.1 rfl (by omega) rfl ?_
            refine RU.cast (pc2 := 39) (S2 := [aI ((v2 : Nat) : Int), aI (tVal tx N j2)]) rfl rfl rfl ?_
            refine r_ic62 cd_201_39 rfl (tVal_in hb n3) ⟨by omega, by omega⟩ (fun n4 => ?_) (fun n4 => ?_)
            · exact absurd ⟨n3, n4⟩ hO
            · refine r_aldR cd_201_48 rfl rfl ?_
              refine r_con (v := 2) cd_201_49 rfl (by decide) ?_
              refine r_cI hc3 cd_201_50 rfl rfl rfl (rc0 r2.1 rfl) rfl rfl rfl ?_
              refine r_if51 cd_201_53 rfl ⟨by omega, by omega⟩ (fun n5 => ?_) (fun n5 => ?_)
              · exact absurd n5 (by decide)
              · refine r_aldR cd_201_56 rfl rfl ?_
                refine r_con (v := 3) cd_201_57 rfl (by decide) ?_
                refine r_con (v := 0) cd_201_58 rfl (by decide) ?_
                refine r_con (v := 99) cd_201_59 rfl (by decide) ?_
                refine r_cI hc4 cd_201_61 rfl rfl rfl (rc0 r3.1 rfl) rfl rfl rfl ?_
                refine r_if51 cd_201_64 rfl ⟨by omega, by omega⟩ (fun n6 => ?_) (fun n6 => ?_)
                · exact absurd n6 (by decide)
                · refine r_aldR cd_201_67 rfl rfl ?_
                  refine r_con (v := 1) cd_201_68 rfl (by decide) ?_
                  refine r_cI (c_185e r4.1 t4.2.1 1 ⟨by decide, by decide⟩ (by rw [t4.2.2.1]; exact inR_of tKnd_b (by decide) (by decide)) (by rw [t4.2.2.1]; exact qe3)) cd_201_69 rfl rfl rfl (rc0 r4.1 rfl) rfl rfl rfl ?_
                  refine r_if51 cd_201_72 rfl ⟨by omega, by omega⟩ (fun n7 => ?_) (fun n7 => ?_)
                  · refine r_con (v := 0) cd_201_113 rfl (by decide) ?_
                    exact r_ret cd_201_114 (Or.inl rfl) (rfl)
                  · exact absurd n7 (by decide)
          · refine r_aldR cd_201_48 rfl rfl ?_
            refine r_con (v := 2) cd_201_49 rfl (by decide) ?_
            refine r_cI hc3 cd_201_50 rfl rfl rfl (rc0 r2.1 rfl) rfl rfl rfl ?_
            refine r_if51 cd_201_53 rfl ⟨by omega, by omega⟩ (fun n8 => ?_) (fun n8 => ?_)
            · exact absurd n8 (by decide)
            · refine r_aldR cd_201_56 rfl rfl ?_
              refine r_con (v := 3) cd_201_57 rfl (by decide) ?_
              refine r_con (v := 0) cd_201_58 rfl (by decide) ?_
              refine r_con (v := 99) cd_201_59 rfl (by decide) ?_
              refine r_cI hc4 cd_201_61 rfl rfl rfl (rc0 r3.1 rfl) rfl rfl rfl ?_
              refine r_if51 cd_201_64 rfl ⟨by omega, by omega⟩ (fun n9 => ?_) (fun n9 => ?_)
              · exact absurd n9 (by decide)
              · refine r_aldR cd_201_67 rfl rfl ?_
                refine r_con (v := 1) cd_201_68 rfl (by decide) ?_
                refine r_cI (c_185e r4.1 t4.2.1 1 ⟨by decide, by decide⟩ (by rw [t4.2.2.1]; exact inR_of tKnd_b (by decide) (by decide)) (by rw [t4.2.2.1]; exact qe3)) cd_201_69 rfl rfl rfl (rc0 r4.1 rfl) rfl rfl rfl ?_
                refine r_if51 cd_201_72 rfl ⟨by omega, by omega⟩ (fun n10 => ?_) (fun n10 => ?_)
                · refine r_con (v := 0) cd_201_113 rfl (by decide) ?_
                  exact r_ret cd_201_114 (Or.inl rfl) (rfl)
                · exact absurd n10 (by decide)
    · obtain ⟨he, hcS, hPE⟩ := c_194e r4.1 ((r4.2.2.2.1 233 (by decide) (by decide) (by decide)).trans ((r3.2.2.2.1 233 (by decide) (by decide) (by decide)).trans ((r2.2.2.2.1 233 (by decide) (by decide) (by decide)).trans ((r1.2.2.2.1 233 (by decide) (by decide) (by decide)).trans htx)))) hb hN6 t4 l4 r4.2.1 r4.2.2.1 hS
      refine ⟨he, Ct.of [aR 226] rfl ?_, hPE.tr' (((((RZ.rf hM hw hnu).tr r1).tr r2).tr r3).tr r4) ((((Fx.rf.tr f1).tr f2).tr f3).tr f4)⟩
      refine r_aldR cd_201_0 rfl rfl ?_
      refine r_con (v := 0) cd_201_1 rfl (by decide) ?_
      refine r_con (v := 1) cd_201_2 rfl (by decide) ?_
      refine r_con (v := 9) cd_201_3 rfl (by decide) ?_
      refine r_cI hc1 cd_201_5 rfl rfl rfl (rc0 hM rfl) rfl rfl rfl ?_
      refine r_if51 cd_201_8 rfl ⟨by omega, by omega⟩ (fun n1 => ?_) (fun n1 => ?_)
      · exact absurd n1 (by decide)
      · refine r_aldR cd_201_11 rfl rfl ?_
        refine r_con (v := 1) cd_201_12 rfl (by decide) ?_
        refine r_cI hc2 cd_201_13 rfl rfl rfl (rc0 r1.1 rfl) rfl rfl rfl ?_
        refine r_if52 cd_201_16 rfl ⟨by omega, by omega⟩ (fun n2 => ?_) (fun n2 => ?_)
        · exact absurd n2 (by decide)
        · refine r_aldR cd_201_21 rfl rfl ?_
          refine r_get (v := aI (tKnd tx N j2)) cd_201_22 rfl r2.1 (by rw [← t2.2.2.1]; rfl) ?_
          refine r_con (v := 3) cd_201_25 rfl (by decide) ?_
          refine r_ic62 cd_201_26 rfl (inR_of (tKnd_b (tx := tx) (N := N) (i := j2)) (by decide) (by decide)) ⟨by omega, by omega⟩ (fun n3 => ?_) (fun n3 => ?_)
          · refine r_aldR cd_201_29 rfl rfl ?_
            refine r_get (v := aI (tVal tx N j2)) cd_201_30 rfl r2.1 (by rw [← t2.2.2.2.2.2 n3]; rfl) ?_
            refine r_aldR cd_201_33 rfl rfl ?_
            refine r_get cd_201_34 rfl r2.1 rfl ?_
            refine r_con (v := 1) cd_201_37 rfl (by decide) ?_
            refine r_arr (i := 1) cd_201_38 rfl r2.2.2.1 rfl (by omega) rfl ?_
            refine RU.cast (pc2 := 39) (S2 := [aI ((v2 : Nat) : Int), aI (tVal tx N j2)]) rfl rfl rfl ?_
            refine r_ic62 cd_201_39 rfl (tVal_in hb n3) ⟨by omega, by omega⟩ (fun n4 => ?_) (fun n4 => ?_)
            · exact absurd ⟨n3, n4⟩ hO
            · refine r_aldR cd_201_48 rfl rfl ?_
              refine r_con (v := 2) cd_201_49 rfl (by decide) ?_
              refine r_cI hc3 cd_201_50 rfl rfl rfl (rc0 r2.1 rfl) rfl rfl rfl ?_
              refine r_if51 cd_201_53 rfl ⟨by omega, by omega⟩ (fun n5 => ?_) (fun n5 => ?_)
              · exact absurd n5 (by decide)
              · refine r_aldR cd_201_56 rfl rfl ?_
                refine r_con (v := 3) cd_201_57 rfl (by decide) ?_
                refine r_con (v := 0) cd_201_58 rfl (by decide) ?_
                refine r_con (v := 99) cd_201_59 rfl (by decide) ?_
                refine r_cI hc4 cd_201_61 rfl rfl rfl (rc0 r3.1 rfl) rfl rfl rfl ?_
                refine r_if51 cd_201_64 rfl ⟨by omega, by omega⟩ (fun n6 => ?_) (fun n6 => ?_)
                · exact absurd n6 (by decide)
                · refine r_aldR cd_201_67 rfl rfl ?_
                  refine r_con (v := 1) cd_201_68 rfl (by decide) ?_
                  refine r_cI (c_185o r4.1 t4.2.1 1 ⟨by decide, by decide⟩ (by rw [t4.2.2.1]; exact inR_of tKnd_b (by decide) (by decide)) (by rw [t4.2.2.1]; exact qe3)) cd_201_69 rfl rfl rfl (rc0 r4.1 rfl) rfl rfl rfl ?_
                  refine r_if51 cd_201_72 rfl ⟨by omega, by omega⟩ (fun n7 => ?_) (fun n7 => ?_)
                  · exact absurd n7 (by decide)
                  · refine r_aldR cd_201_75 rfl rfl ?_
                    refine r_aldR cd_201_76 rfl rfl ?_
                    refine r_get cd_201_77 rfl r4.1 rfl ?_
                    refine r_con (v := 6) cd_201_80 rfl (by decide) ?_
                    refine r_arr (i := 6) cd_201_82 rfl r4.2.1 rfl (by omega) rfl ?_
                    refine r_con (v := 16) cd_201_83 rfl (by decide) ?_
                    refine r_ic64 cd_201_85 rfl (inR_of hI.pn (by decide) (by decide)) ⟨by omega, by omega⟩ (fun n8 => ?_) (fun n8 => ?_)
                    · refine r_aldR cd_201_88 rfl rfl ?_
                      refine r_aldR cd_201_89 rfl rfl ?_
                      refine r_get cd_201_90 rfl r4.1 rfl ?_
                      refine r_con (v := 3) cd_201_93 rfl (by decide) ?_
                      refine r_arr (i := 3) cd_201_94 rfl r4.2.2.1 rfl (by omega) rfl ?_
                      refine RU.cast (pc2 := 95) (S2 := [aI ((v4 : Nat) : Int), aR 226, aR 226]) rfl rfl rfl ?_
                      refine r_cI (c_202 r4.1 r4.2.1 hI ((v4 : Nat) : Int) ⟨by omega, by omega⟩) cd_201_95 rfl rfl rfl (rc0 r4.1 rfl) rfl rfl rfl ?_
                      refine r_con (v := (-1)) cd_201_98 rfl (by decide) ?_
                      refine r_ic62 cd_201_99 rfl ⟨by have := (numbd_b (w := w) ((v4 : Nat) : Int)).1; omega, by have := (numbd_b (w := w) ((v4 : Nat) : Int)).2; omega⟩ ⟨by omega, by omega⟩ (fun n9 => ?_) (fun n9 => ?_)
                      · refine r_con (v := 1) cd_201_102 rfl (by decide) ?_
                        refine r_goto cd_201_103 ?_
                        refine r_cI (by rw [← bz_t (t := decide (w 6 < 16) && decide (numbd w ((v4 : Nat) : Int) = -1)) (by simp [n3, n4, n8, n9])]; exact hcS) cd_201_107 rfl rfl rfl (rc0 r4.1 rfl) rfl rfl rfl ?_
                        refine r_if52 cd_201_110 rfl ⟨by omega, by omega⟩ (fun n10 => ?_) (fun n10 => ?_)
                        · refine r_con (v := 0) cd_201_113 rfl (by decide) ?_
                          exact r_ret cd_201_114 (Or.inl rfl) (rfl)
                        · exact absurd n10 (by decide)
                      · refine r_con (v := 0) cd_201_106 rfl (by decide) ?_
                        refine r_cI (by rw [← bz_f (t := decide (w 6 < 16) && decide (numbd w ((v4 : Nat) : Int) = -1)) (by simp [n3, n4, n8, n9])]; exact hcS) cd_201_107 rfl rfl rfl (rc0 r4.1 rfl) rfl rfl rfl ?_
                        refine r_if52 cd_201_110 rfl ⟨by omega, by omega⟩ (fun n11 => ?_) (fun n11 => ?_)
                        · refine r_con (v := 0) cd_201_113 rfl (by decide) ?_
                          exact r_ret cd_201_114 (Or.inl rfl) (rfl)
                        · exact absurd n11 (by decide)
                    · refine r_con (v := 0) cd_201_106 rfl (by decide) ?_
                      refine r_cI (by rw [← bz_f (t := decide (w 6 < 16) && decide (numbd w ((v4 : Nat) : Int) = -1)) (by simp [n3, n4, n8])]; exact hcS) cd_201_107 rfl rfl rfl (rc0 r4.1 rfl) rfl rfl rfl ?_
                      refine r_if52 cd_201_110 rfl ⟨by omega, by omega⟩ (fun n12 => ?_) (fun n12 => ?_)
                      · refine r_con (v := 0) cd_201_113 rfl (by decide) ?_
                        exact r_ret cd_201_114 (Or.inl rfl) (rfl)
                      · exact absurd n12 (by decide)
          · refine r_aldR cd_201_48 rfl rfl ?_
            refine r_con (v := 2) cd_201_49 rfl (by decide) ?_
            refine r_cI hc3 cd_201_50 rfl rfl rfl (rc0 r2.1 rfl) rfl rfl rfl ?_
            refine r_if51 cd_201_53 rfl ⟨by omega, by omega⟩ (fun n13 => ?_) (fun n13 => ?_)
            · exact absurd n13 (by decide)
            · refine r_aldR cd_201_56 rfl rfl ?_
              refine r_con (v := 3) cd_201_57 rfl (by decide) ?_
              refine r_con (v := 0) cd_201_58 rfl (by decide) ?_
              refine r_con (v := 99) cd_201_59 rfl (by decide) ?_
              refine r_cI hc4 cd_201_61 rfl rfl rfl (rc0 r3.1 rfl) rfl rfl rfl ?_
              refine r_if51 cd_201_64 rfl ⟨by omega, by omega⟩ (fun n14 => ?_) (fun n14 => ?_)
              · exact absurd n14 (by decide)
              · refine r_aldR cd_201_67 rfl rfl ?_
                refine r_con (v := 1) cd_201_68 rfl (by decide) ?_
                refine r_cI (c_185o r4.1 t4.2.1 1 ⟨by decide, by decide⟩ (by rw [t4.2.2.1]; exact inR_of tKnd_b (by decide) (by decide)) (by rw [t4.2.2.1]; exact qe3)) cd_201_69 rfl rfl rfl (rc0 r4.1 rfl) rfl rfl rfl ?_
                refine r_if51 cd_201_72 rfl ⟨by omega, by omega⟩ (fun n15 => ?_) (fun n15 => ?_)
                · exact absurd n15 (by decide)
                · refine r_aldR cd_201_75 rfl rfl ?_
                  refine r_aldR cd_201_76 rfl rfl ?_
                  refine r_get cd_201_77 rfl r4.1 rfl ?_
                  refine r_con (v := 6) cd_201_80 rfl (by decide) ?_
                  refine r_arr (i := 6) cd_201_82 rfl r4.2.1 rfl (by omega) rfl ?_
                  refine r_con (v := 16) cd_201_83 rfl (by decide) ?_
                  refine r_ic64 cd_201_85 rfl (inR_of hI.pn (by decide) (by decide)) ⟨by omega, by omega⟩ (fun n16 => ?_) (fun n16 => ?_)
                  · refine r_aldR cd_201_88 rfl rfl ?_
                    refine r_aldR cd_201_89 rfl rfl ?_
                    refine r_get cd_201_90 rfl r4.1 rfl ?_
                    refine r_con (v := 3) cd_201_93 rfl (by decide) ?_
                    refine r_arr (i := 3) cd_201_94 rfl r4.2.2.1 rfl (by omega) rfl ?_
                    refine RU.cast (pc2 := 95) (S2 := [aI ((v4 : Nat) : Int), aR 226, aR 226]) rfl rfl rfl ?_
                    refine r_cI (c_202 r4.1 r4.2.1 hI ((v4 : Nat) : Int) ⟨by omega, by omega⟩) cd_201_95 rfl rfl rfl (rc0 r4.1 rfl) rfl rfl rfl ?_
                    refine r_con (v := (-1)) cd_201_98 rfl (by decide) ?_
                    refine r_ic62 cd_201_99 rfl ⟨by have := (numbd_b (w := w) ((v4 : Nat) : Int)).1; omega, by have := (numbd_b (w := w) ((v4 : Nat) : Int)).2; omega⟩ ⟨by omega, by omega⟩ (fun n17 => ?_) (fun n17 => ?_)
                    · refine r_con (v := 1) cd_201_102 rfl (by decide) ?_
                      refine r_goto cd_201_103 ?_
                      refine r_cI (by rw [← bz_t (t := decide (w 6 < 16) && decide (numbd w ((v4 : Nat) : Int) = -1)) (by simp [n3, n16, n17])]; exact hcS) cd_201_107 rfl rfl rfl (rc0 r4.1 rfl) rfl rfl rfl ?_
                      refine r_if52 cd_201_110 rfl ⟨by omega, by omega⟩ (fun n18 => ?_) (fun n18 => ?_)
                      · refine r_con (v := 0) cd_201_113 rfl (by decide) ?_
                        exact r_ret cd_201_114 (Or.inl rfl) (rfl)
                      · exact absurd n18 (by decide)
                    · refine r_con (v := 0) cd_201_106 rfl (by decide) ?_
                      refine r_cI (by rw [← bz_f (t := decide (w 6 < 16) && decide (numbd w ((v4 : Nat) : Int) = -1)) (by simp [n3, n16, n17])]; exact hcS) cd_201_107 rfl rfl rfl (rc0 r4.1 rfl) rfl rfl rfl ?_
                      refine r_if52 cd_201_110 rfl ⟨by omega, by omega⟩ (fun n19 => ?_) (fun n19 => ?_)
                      · refine r_con (v := 0) cd_201_113 rfl (by decide) ?_
                        exact r_ret cd_201_114 (Or.inl rfl) (rfl)
                      · exact absurd n19 (by decide)
                  · refine r_con (v := 0) cd_201_106 rfl (by decide) ?_
                    refine r_cI (by rw [← bz_f (t := decide (w 6 < 16) && decide (numbd w ((v4 : Nat) : Int) = -1)) (by simp [n3, n16])]; exact hcS) cd_201_107 rfl rfl rfl (rc0 r4.1 rfl) rfl rfl rfl ?_
                    refine r_if52 cd_201_110 rfl ⟨by omega, by omega⟩ (fun n20 => ?_) (fun n20 => ?_)
                    · refine r_con (v := 0) cd_201_113 rfl (by decide) ?_
                      exact r_ret cd_201_114 (Or.inl rfl) (rfl)
                    · exact absurd n20 (by decide)
  · rw [show cPar tx N i w = .inr (jS, postW w ((v1 : Nat) : Int) ((v2 : Nat) : Int) ((v3 : Nat) : Int) ((v4 : Nat) : Int)) by simp [cPar, bnd, hA1, hA2, othA, hO, hA3, hA4, hS]]
    have hcS := c_194o r4.1 ((r4.2.2.2.1 233 (by decide) (by decide) (by decide)).trans ((r3.2.2.2.1 233 (by decide) (by decide) (by decide)).trans ((r2.2.2.2.1 233 (by decide) (by decide) (by decide)).trans ((r1.2.2.2.1 233 (by decide) (by decide) (by decide)).trans htx)))) hb hN6 t4 l4 hS
    have qS := semA_o hS
    have hej := (tEnd_b (tx := tx) (N := N) l4).2.1
    have qS2 := qS.2.1
    simp only [Bool.and_eq_true, decide_eq_true_eq] at qS2
    refine ⟨sw h4 227 (.inl (0, 211, .inl (postW w ((v1 : Nat) : Int) ((v2 : Nat) : Int) ((v3 : Nat) : Int) ((v4 : Nat) : Int)))), s4, (va_up (va_up (va_up (va_up nu 0 ((v1 : Nat) : Int)) 1 ((v2 : Nat) : Int)) 2 ((v3 : Nat) : Int)) 3 ((v4 : Nat) : Int)), Ct.of [aR 226] rfl ?_, (((((RZ.rf hM hw hnu).tr r1).tr r2).tr r3).tr r4).w, t4.2.2.2.2.1.trans (by rw [qS.2.2]), t4.1, t4.2.1, by rw [qS.2.2]; exact hej, ((((Fx.rf.tr f1).tr f2).tr f3).tr f4)⟩
    refine r_aldR cd_201_0 rfl rfl ?_
    refine r_con (v := 0) cd_201_1 rfl (by decide) ?_
    refine r_con (v := 1) cd_201_2 rfl (by decide) ?_
    refine r_con (v := 9) cd_201_3 rfl (by decide) ?_
    refine r_cI hc1 cd_201_5 rfl rfl rfl (rc0 hM rfl) rfl rfl rfl ?_
    refine r_if51 cd_201_8 rfl ⟨by omega, by omega⟩ (fun n1 => ?_) (fun n1 => ?_)
    · exact absurd n1 (by decide)
    · refine r_aldR cd_201_11 rfl rfl ?_
      refine r_con (v := 1) cd_201_12 rfl (by decide) ?_
      refine r_cI hc2 cd_201_13 rfl rfl rfl (rc0 r1.1 rfl) rfl rfl rfl ?_
      refine r_if52 cd_201_16 rfl ⟨by omega, by omega⟩ (fun n2 => ?_) (fun n2 => ?_)
      · exact absurd n2 (by decide)
      · refine r_aldR cd_201_21 rfl rfl ?_
        refine r_get (v := aI (tKnd tx N j2)) cd_201_22 rfl r2.1 (by rw [← t2.2.2.1]; rfl) ?_
        refine r_con (v := 3) cd_201_25 rfl (by decide) ?_
        refine r_ic62 cd_201_26 rfl (inR_of (tKnd_b (tx := tx) (N := N) (i := j2)) (by decide) (by decide)) ⟨by omega, by omega⟩ (fun n3 => ?_) (fun n3 => ?_)
        · refine r_aldR cd_201_29 rfl rfl ?_
          refine r_get (v := aI (tVal tx N j2)) cd_201_30 rfl r2.1 (by rw [← t2.2.2.2.2.2 n3]; rfl) ?_
          refine r_aldR cd_201_33 rfl rfl ?_
          refine r_get cd_201_34 rfl r2.1 rfl ?_
          refine r_con (v := 1) cd_201_37 rfl (by decide) ?_
          refine r_arr (i := 1) cd_201_38 rfl r2.2.2.1 rfl (by omega) rfl ?_
          refine RU.cast (pc2 := 39) (S2 := [aI ((v2 : Nat) : Int), aI (tVal tx N j2)]) rfl rfl rfl ?_
          refine r_ic62 cd_201_39 rfl (tVal_in hb n3) ⟨by omega, by omega⟩ (fun n4 => ?_) (fun n4 => ?_)
          · exact absurd ⟨n3, n4⟩ hO
          · refine r_aldR cd_201_48 rfl rfl ?_
            refine r_con (v := 2) cd_201_49 rfl (by decide) ?_
            refine r_cI hc3 cd_201_50 rfl rfl rfl (rc0 r2.1 rfl) rfl rfl rfl ?_
            refine r_if51 cd_201_53 rfl ⟨by omega, by omega⟩ (fun n5 => ?_) (fun n5 => ?_)
            · exact absurd n5 (by decide)
            · refine r_aldR cd_201_56 rfl rfl ?_
              refine r_con (v := 3) cd_201_57 rfl (by decide) ?_
              refine r_con (v := 0) cd_201_58 rfl (by decide) ?_
              refine r_con (v := 99) cd_201_59 rfl (by decide) ?_
              refine r_cI hc4 cd_201_61 rfl rfl rfl (rc0 r3.1 rfl) rfl rfl rfl ?_
              refine r_if51 cd_201_64 rfl ⟨by omega, by omega⟩ (fun n6 => ?_) (fun n6 => ?_)
              · exact absurd n6 (by decide)
              · refine r_aldR cd_201_67 rfl rfl ?_
                refine r_con (v := 1) cd_201_68 rfl (by decide) ?_
                refine r_cI (c_185o r4.1 t4.2.1 1 ⟨by decide, by decide⟩ (by rw [t4.2.2.1]; exact inR_of tKnd_b (by decide) (by decide)) (by rw [t4.2.2.1]; exact qS.1)) cd_201_69 rfl rfl rfl (rc0 r4.1 rfl) rfl rfl rfl ?_
                refine r_if51 cd_201_72 rfl ⟨by omega, by omega⟩ (fun n7 => ?_) (fun n7 => ?_)
                · exact absurd n7 (by decide)
                · refine r_aldR cd_201_75 rfl rfl ?_
                  refine r_aldR cd_201_76 rfl rfl ?_
                  refine r_get cd_201_77 rfl r4.1 rfl ?_
                  refine r_con (v := 6) cd_201_80 rfl (by decide) ?_
                  refine r_arr (i := 6) cd_201_82 rfl r4.2.1 rfl (by omega) rfl ?_
                  refine r_con (v := 16) cd_201_83 rfl (by decide) ?_
                  refine r_ic64 cd_201_85 rfl (inR_of hI.pn (by decide) (by decide)) ⟨by omega, by omega⟩ (fun n8 => ?_) (fun n8 => ?_)
                  · refine r_aldR cd_201_88 rfl rfl ?_
                    refine r_aldR cd_201_89 rfl rfl ?_
                    refine r_get cd_201_90 rfl r4.1 rfl ?_
                    refine r_con (v := 3) cd_201_93 rfl (by decide) ?_
                    refine r_arr (i := 3) cd_201_94 rfl r4.2.2.1 rfl (by omega) rfl ?_
                    refine RU.cast (pc2 := 95) (S2 := [aI ((v4 : Nat) : Int), aR 226, aR 226]) rfl rfl rfl ?_
                    refine r_cI (c_202 r4.1 r4.2.1 hI ((v4 : Nat) : Int) ⟨by omega, by omega⟩) cd_201_95 rfl rfl rfl (rc0 r4.1 rfl) rfl rfl rfl ?_
                    refine r_con (v := (-1)) cd_201_98 rfl (by decide) ?_
                    refine r_ic62 cd_201_99 rfl ⟨by have := (numbd_b (w := w) ((v4 : Nat) : Int)).1; omega, by have := (numbd_b (w := w) ((v4 : Nat) : Int)).2; omega⟩ ⟨by omega, by omega⟩ (fun n9 => ?_) (fun n9 => ?_)
                    · refine r_con (v := 1) cd_201_102 rfl (by decide) ?_
                      refine r_goto cd_201_103 ?_
                      refine r_cI (by rw [← bz_t (t := decide (w 6 < 16) && decide (numbd w ((v4 : Nat) : Int) = -1)) (by simp [n3, n4, n8, n9])]; exact hcS) cd_201_107 rfl rfl rfl (rc0 r4.1 rfl) rfl rfl rfl ?_
                      refine r_if52 cd_201_110 rfl ⟨by omega, by omega⟩ (fun n10 => ?_) (fun n10 => ?_)
                      · exact absurd n10 (by decide)
                      · refine r_aldR cd_201_115 rfl rfl ?_
                        refine r_aldR cd_201_116 rfl rfl ?_
                        refine r_get cd_201_117 rfl r4.1 rfl ?_
                        refine r_con (v := 0) cd_201_120 rfl (by decide) ?_
                        refine r_arr (i := 0) cd_201_121 rfl r4.2.2.1 rfl (by omega) rfl ?_
                        refine RU.cast (pc2 := 122) (S2 := [aI ((v1 : Nat) : Int), aR 226]) rfl rfl rfl ?_
                        refine r_aldR cd_201_122 rfl rfl ?_
                        refine r_get cd_201_123 rfl r4.1 rfl ?_
                        refine r_con (v := 1) cd_201_126 rfl (by decide) ?_
                        refine r_arr (i := 1) cd_201_127 rfl r4.2.2.1 rfl (by omega) rfl ?_
                        refine RU.cast (pc2 := 128) (S2 := [aI ((v2 : Nat) : Int), aI ((v1 : Nat) : Int), aR 226]) rfl rfl rfl ?_
                        refine r_aldR cd_201_128 rfl rfl ?_
                        refine r_get cd_201_129 rfl r4.1 rfl ?_
                        refine r_con (v := 2) cd_201_132 rfl (by decide) ?_
                        refine r_arr (i := 2) cd_201_133 rfl r4.2.2.1 rfl (by omega) rfl ?_
                        refine RU.cast (pc2 := 134) (S2 := [aI ((v3 : Nat) : Int), aI ((v2 : Nat) : Int), aI ((v1 : Nat) : Int), aR 226]) rfl rfl rfl ?_
                        refine r_aldR cd_201_134 rfl rfl ?_
                        refine r_get cd_201_135 rfl r4.1 rfl ?_
                        refine r_con (v := 3) cd_201_138 rfl (by decide) ?_
                        refine r_arr (i := 3) cd_201_139 rfl r4.2.2.1 rfl (by omega) rfl ?_
                        refine RU.cast (pc2 := 140) (S2 := [aI ((v4 : Nat) : Int), aI ((v3 : Nat) : Int), aI ((v2 : Nat) : Int), aI ((v1 : Nat) : Int), aR 226]) rfl rfl rfl ?_
                        refine r_cI (c_204 r4.1 r4.2.1 hI ((v1 : Nat) : Int) ((v2 : Nat) : Int) ((v3 : Nat) : Int) ((v4 : Nat) : Int) (by omega)) cd_201_140 rfl rfl rfl (rc0 r4.1 rfl) rfl rfl rfl ?_
                        refine r_pop cd_201_143 rfl rfl ?_
                        refine r_con (v := 1) cd_201_144 rfl (by decide) ?_
                        exact r_ret cd_201_145 (Or.inr rfl) (rfl)
                    · refine r_con (v := 0) cd_201_106 rfl (by decide) ?_
                      refine r_cI (by rw [← bz_f (t := decide (w 6 < 16) && decide (numbd w ((v4 : Nat) : Int) = -1)) (by simp [n3, n4, n8, n9])]; exact hcS) cd_201_107 rfl rfl rfl (rc0 r4.1 rfl) rfl rfl rfl ?_
                      refine r_if52 cd_201_110 rfl ⟨by omega, by omega⟩ (fun n11 => ?_) (fun n11 => ?_)
                      · exact absurd n11 (by decide)
                      · refine r_aldR cd_201_115 rfl rfl ?_
                        refine r_aldR cd_201_116 rfl rfl ?_
                        refine r_get cd_201_117 rfl r4.1 rfl ?_
                        refine r_con (v := 0) cd_201_120 rfl (by decide) ?_
                        refine r_arr (i := 0) cd_201_121 rfl r4.2.2.1 rfl (by omega) rfl ?_
                        refine RU.cast (pc2 := 122) (S2 := [aI ((v1 : Nat) : Int), aR 226]) rfl rfl rfl ?_
                        refine r_aldR cd_201_122 rfl rfl ?_
                        refine r_get cd_201_123 rfl r4.1 rfl ?_
                        refine r_con (v := 1) cd_201_126 rfl (by decide) ?_
                        refine r_arr (i := 1) cd_201_127 rfl r4.2.2.1 rfl (by omega) rfl ?_
                        refine RU.cast (pc2 := 128) (S2 := [aI ((v2 : Nat) : Int), aI ((v1 : Nat) : Int), aR 226]) rfl rfl rfl ?_
                        refine r_aldR cd_201_128 rfl rfl ?_
                        refine r_get cd_201_129 rfl r4.1 rfl ?_
                        refine r_con (v := 2) cd_201_132 rfl (by decide) ?_
                        refine r_arr (i := 2) cd_201_133 rfl r4.2.2.1 rfl (by omega) rfl ?_
                        refine RU.cast (pc2 := 134) (S2 := [aI ((v3 : Nat) : Int), aI ((v2 : Nat) : Int), aI ((v1 : Nat) : Int), aR 226]) rfl rfl rfl ?_
                        refine r_aldR cd_201_134 rfl rfl ?_
                        refine r_get cd_201_135 rfl r4.1 rfl ?_
                        refine r_con (v := 3) cd_201_138 rfl (by decide) ?_
                        refine r_arr (i := 3) cd_201_139 rfl r4.2.2.1 rfl (by omega) rfl ?_
                        refine RU.cast (pc2 := 140) (S2 := [aI ((v4 : Nat) : Int), aI ((v3 : Nat) : Int), aI ((v2 : Nat) : Int), aI ((v1 : Nat) : Int), aR 226]) rfl rfl rfl ?_
                        refine r_cI (c_204 r4.1 r4.2.1 hI ((v1 : Nat) : Int) ((v2 : Nat) : Int) ((v3 : Nat) : Int) ((v4 : Nat) : Int) (by omega)) cd_201_140 rfl rfl rfl (rc0 r4.1 rfl) rfl rfl rfl ?_
                        refine r_pop cd_201_143 rfl rfl ?_
                        refine r_con (v := 1) cd_201_144 rfl (by decide) ?_
                        exact r_ret cd_201_145 (Or.inr rfl) (rfl)
                  · refine r_con (v := 0) cd_201_106 rfl (by decide) ?_
                    refine r_cI (by rw [← bz_f (t := decide (w 6 < 16) && decide (numbd w ((v4 : Nat) : Int) = -1)) (by simp [n3, n4, n8])]; exact hcS) cd_201_107 rfl rfl rfl (rc0 r4.1 rfl) rfl rfl rfl ?_
                    refine r_if52 cd_201_110 rfl ⟨by omega, by omega⟩ (fun n12 => ?_) (fun n12 => ?_)
                    · exact absurd n12 (by decide)
                    · refine r_aldR cd_201_115 rfl rfl ?_
                      refine r_aldR cd_201_116 rfl rfl ?_
                      refine r_get cd_201_117 rfl r4.1 rfl ?_
                      refine r_con (v := 0) cd_201_120 rfl (by decide) ?_
                      refine r_arr (i := 0) cd_201_121 rfl r4.2.2.1 rfl (by omega) rfl ?_
                      refine RU.cast (pc2 := 122) (S2 := [aI ((v1 : Nat) : Int), aR 226]) rfl rfl rfl ?_
                      refine r_aldR cd_201_122 rfl rfl ?_
                      refine r_get cd_201_123 rfl r4.1 rfl ?_
                      refine r_con (v := 1) cd_201_126 rfl (by decide) ?_
                      refine r_arr (i := 1) cd_201_127 rfl r4.2.2.1 rfl (by omega) rfl ?_
                      refine RU.cast (pc2 := 128) (S2 := [aI ((v2 : Nat) : Int), aI ((v1 : Nat) : Int), aR 226]) rfl rfl rfl ?_
                      refine r_aldR cd_201_128 rfl rfl ?_
                      refine r_get cd_201_129 rfl r4.1 rfl ?_
                      refine r_con (v := 2) cd_201_132 rfl (by decide) ?_
                      refine r_arr (i := 2) cd_201_133 rfl r4.2.2.1 rfl (by omega) rfl ?_
                      refine RU.cast (pc2 := 134) (S2 := [aI ((v3 : Nat) : Int), aI ((v2 : Nat) : Int), aI ((v1 : Nat) : Int), aR 226]) rfl rfl rfl ?_
                      refine r_aldR cd_201_134 rfl rfl ?_
                      refine r_get cd_201_135 rfl r4.1 rfl ?_
                      refine r_con (v := 3) cd_201_138 rfl (by decide) ?_
                      refine r_arr (i := 3) cd_201_139 rfl r4.2.2.1 rfl (by omega) rfl ?_
                      refine RU.cast (pc2 := 140) (S2 := [aI ((v4 : Nat) : Int), aI ((v3 : Nat) : Int), aI ((v2 : Nat) : Int), aI ((v1 : Nat) : Int), aR 226]) rfl rfl rfl ?_
                      refine r_cI (c_204 r4.1 r4.2.1 hI ((v1 : Nat) : Int) ((v2 : Nat) : Int) ((v3 : Nat) : Int) ((v4 : Nat) : Int) (by omega)) cd_201_140 rfl rfl rfl (rc0 r4.1 rfl) rfl rfl rfl ?_
                      refine r_pop cd_201_143 rfl rfl ?_
                      refine r_con (v := 1) cd_201_144 rfl (by decide) ?_
                      exact r_ret cd_201_145 (Or.inr rfl) (rfl)
        · refine r_aldR cd_201_48 rfl rfl ?_
          refine r_con (v := 2) cd_201_49 rfl (by decide) ?_
          refine r_cI hc3 cd_201_50 rfl rfl rfl (rc0 r2.1 rfl) rfl rfl rfl ?_
          refine r_if51 cd_201_53 rfl ⟨by omega, by omega⟩ (fun n13 => ?_) (fun n13 => ?_)
          · exact absurd n13 (by decide)
          · refine r_aldR cd_201_56 rfl rfl ?_
            refine r_con (v := 3) cd_201_57 rfl (by decide) ?_
            refine r_con (v := 0) cd_201_58 rfl (by decide) ?_
            refine r_con (v := 99) cd_201_59 rfl (by decide) ?_
            refine r_cI hc4 cd_201_61 rfl rfl rfl (rc0 r3.1 rfl) rfl rfl rfl ?_
            refine r_if51 cd_201_64 rfl ⟨by omega, by omega⟩ (fun n14 => ?_) (fun n14 => ?_)
            · exact absurd n14 (by decide)
            · refine r_aldR cd_201_67 rfl rfl ?_
              refine r_con (v := 1) cd_201_68 rfl (by decide) ?_
              refine r_cI (c_185o r4.1 t4.2.1 1 ⟨by decide, by decide⟩ (by rw [t4.2.2.1]; exact inR_of tKnd_b (by decide) (by decide)) (by rw [t4.2.2.1]; exact qS.1)) cd_201_69 rfl rfl rfl (rc0 r4.1 rfl) rfl rfl rfl ?_
              refine r_if51 cd_201_72 rfl ⟨by omega, by omega⟩ (fun n15 => ?_) (fun n15 => ?_)
              · exact absurd n15 (by decide)
              · refine r_aldR cd_201_75 rfl rfl ?_
                refine r_aldR cd_201_76 rfl rfl ?_
                refine r_get cd_201_77 rfl r4.1 rfl ?_
                refine r_con (v := 6) cd_201_80 rfl (by decide) ?_
                refine r_arr (i := 6) cd_201_82 rfl r4.2.1 rfl (by omega) rfl ?_
                refine r_con (v := 16) cd_201_83 rfl (by decide) ?_
                refine r_ic64 cd_201_85 rfl (inR_of hI.pn (by decide) (by decide)) ⟨by omega, by omega⟩ (fun n16 => ?_) (fun n16 => ?_)
                · refine r_aldR cd_201_88 rfl rfl ?_
                  refine r_aldR cd_201_89 rfl rfl ?_
                  refine r_get cd_201_90 rfl r4.1 rfl ?_
                  refine r_con (v := 3) cd_201_93 rfl (by decide) ?_
                  refine r_arr (i := 3) cd_201_94 rfl r4.2.2.1 rfl (by omega) rfl ?_
                  refine RU.cast (pc2 := 95) (S2 := [aI ((v4 : Nat) : Int), aR 226, aR 226]) rfl rfl rfl ?_
                  refine r_cI (c_202 r4.1 r4.2.1 hI ((v4 : Nat) : Int) ⟨by omega, by omega⟩) cd_201_95 rfl rfl rfl (rc0 r4.1 rfl) rfl rfl rfl ?_
                  refine r_con (v := (-1)) cd_201_98 rfl (by decide) ?_
                  refine r_ic62 cd_201_99 rfl ⟨by have := (numbd_b (w := w) ((v4 : Nat) : Int)).1; omega, by have := (numbd_b (w := w) ((v4 : Nat) : Int)).2; omega⟩ ⟨by omega, by omega⟩ (fun n17 => ?_) (fun n17 => ?_)
                  · refine r_con (v := 1) cd_201_102 rfl (by decide) ?_
                    refine r_goto cd_201_103 ?_
                    refine r_cI (by rw [← bz_t (t := decide (w 6 < 16) && decide (numbd w ((v4 : Nat) : Int) = -1)) (by simp [n3, n16, n17])]; exact hcS) cd_201_107 rfl rfl rfl (rc0 r4.1 rfl) rfl rfl rfl ?_
                    refine r_if52 cd_201_110 rfl ⟨by omega, by omega⟩ (fun n18 => ?_) (fun n18 => ?_)
                    · exact absurd n18 (by decide)
                    · refine r_aldR cd_201_115 rfl rfl ?_
                      refine r_aldR cd_201_116 rfl rfl ?_
                      refine r_get cd_201_117 rfl r4.1 rfl ?_
                      refine r_con (v := 0) cd_201_120 rfl (by decide) ?_
                      refine r_arr (i := 0) cd_201_121 rfl r4.2.2.1 rfl (by omega) rfl ?_
                      refine RU.cast (pc2 := 122) (S2 := [aI ((v1 : Nat) : Int), aR 226]) rfl rfl rfl ?_
                      refine r_aldR cd_201_122 rfl rfl ?_
                      refine r_get cd_201_123 rfl r4.1 rfl ?_
                      refine r_con (v := 1) cd_201_126 rfl (by decide) ?_
                      refine r_arr (i := 1) cd_201_127 rfl r4.2.2.1 rfl (by omega) rfl ?_
                      refine RU.cast (pc2 := 128) (S2 := [aI ((v2 : Nat) : Int), aI ((v1 : Nat) : Int), aR 226]) rfl rfl rfl ?_
                      refine r_aldR cd_201_128 rfl rfl ?_
                      refine r_get cd_201_129 rfl r4.1 rfl ?_
                      refine r_con (v := 2) cd_201_132 rfl (by decide) ?_
                      refine r_arr (i := 2) cd_201_133 rfl r4.2.2.1 rfl (by omega) rfl ?_
                      refine RU.cast (pc2 := 134) (S2 := [aI ((v3 : Nat) : Int), aI ((v2 : Nat) : Int), aI ((v1 : Nat) : Int), aR 226]) rfl rfl rfl ?_
                      refine r_aldR cd_201_134 rfl rfl ?_
                      refine r_get cd_201_135 rfl r4.1 rfl ?_
                      refine r_con (v := 3) cd_201_138 rfl (by decide) ?_
                      refine r_arr (i := 3) cd_201_139 rfl r4.2.2.1 rfl (by omega) rfl ?_
                      refine RU.cast (pc2 := 140) (S2 := [aI ((v4 : Nat) : Int), aI ((v3 : Nat) : Int), aI ((v2 : Nat) : Int), aI ((v1 : Nat) : Int), aR 226]) rfl rfl rfl ?_
                      refine r_cI (c_204 r4.1 r4.2.1 hI ((v1 : Nat) : Int) ((v2 : Nat) : Int) ((v3 : Nat) : Int) ((v4 : Nat) : Int) (by omega)) cd_201_140 rfl rfl rfl (rc0 r4.1 rfl) rfl rfl rfl ?_
                      refine r_pop cd_201_143 rfl rfl ?_
                      refine r_con (v := 1) cd_201_144 rfl (by decide) ?_
                      exact r_ret cd_201_145 (Or.inr rfl) (rfl)
                  · refine r_con (v := 0) cd_201_106 rfl (by decide) ?_
                    refine r_cI (by rw [← bz_f (t := decide (w 6 < 16) && decide (numbd w ((v4 : Nat) : Int) = -1)) (by simp [n3, n16, n17])]; exact hcS) cd_201_107 rfl rfl rfl (rc0 r4.1 rfl) rfl rfl rfl ?_
                    refine r_if52 cd_201_110 rfl ⟨by omega, by omega⟩ (fun n19 => ?_) (fun n19 => ?_)
                    · exact absurd n19 (by decide)
                    · refine r_aldR cd_201_115 rfl rfl ?_
                      refine r_aldR cd_201_116 rfl rfl ?_
                      refine r_get cd_201_117 rfl r4.1 rfl ?_
                      refine r_con (v := 0) cd_201_120 rfl (by decide) ?_
                      refine r_arr (i := 0) cd_201_121 rfl r4.2.2.1 rfl (by omega) rfl ?_
                      refine RU.cast (pc2 := 122) (S2 := [aI ((v1 : Nat) : Int), aR 226]) rfl rfl rfl ?_
                      refine r_aldR cd_201_122 rfl rfl ?_
                      refine r_get cd_201_123 rfl r4.1 rfl ?_
                      refine r_con (v := 1) cd_201_126 rfl (by decide) ?_
                      refine r_arr (i := 1) cd_201_127 rfl r4.2.2.1 rfl (by omega) rfl ?_
                      refine RU.cast (pc2 := 128) (S2 := [aI ((v2 : Nat) : Int), aI ((v1 : Nat) : Int), aR 226]) rfl rfl rfl ?_
                      refine r_aldR cd_201_128 rfl rfl ?_
                      refine r_get cd_201_129 rfl r4.1 rfl ?_
                      refine r_con (v := 2) cd_201_132 rfl (by decide) ?_
                      refine r_arr (i := 2) cd_201_133 rfl r4.2.2.1 rfl (by omega) rfl ?_
                      refine RU.cast (pc2 := 134) (S2 := [aI ((v3 : Nat) : Int), aI ((v2 : Nat) : Int), aI ((v1 : Nat) : Int), aR 226]) rfl rfl rfl ?_
                      refine r_aldR cd_201_134 rfl rfl ?_
                      refine r_get cd_201_135 rfl r4.1 rfl ?_
                      refine r_con (v := 3) cd_201_138 rfl (by decide) ?_
                      refine r_arr (i := 3) cd_201_139 rfl r4.2.2.1 rfl (by omega) rfl ?_
                      refine RU.cast (pc2 := 140) (S2 := [aI ((v4 : Nat) : Int), aI ((v3 : Nat) : Int), aI ((v2 : Nat) : Int), aI ((v1 : Nat) : Int), aR 226]) rfl rfl rfl ?_
                      refine r_cI (c_204 r4.1 r4.2.1 hI ((v1 : Nat) : Int) ((v2 : Nat) : Int) ((v3 : Nat) : Int) ((v4 : Nat) : Int) (by omega)) cd_201_140 rfl rfl rfl (rc0 r4.1 rfl) rfl rfl rfl ?_
                      refine r_pop cd_201_143 rfl rfl ?_
                      refine r_con (v := 1) cd_201_144 rfl (by decide) ?_
                      exact r_ret cd_201_145 (Or.inr rfl) (rfl)
                · refine r_con (v := 0) cd_201_106 rfl (by decide) ?_
                  refine r_cI (by rw [← bz_f (t := decide (w 6 < 16) && decide (numbd w ((v4 : Nat) : Int) = -1)) (by simp [n3, n16])]; exact hcS) cd_201_107 rfl rfl rfl (rc0 r4.1 rfl) rfl rfl rfl ?_
                  refine r_if52 cd_201_110 rfl ⟨by omega, by omega⟩ (fun n20 => ?_) (fun n20 => ?_)
                  · exact absurd n20 (by decide)
                  · refine r_aldR cd_201_115 rfl rfl ?_
                    refine r_aldR cd_201_116 rfl rfl ?_
                    refine r_get cd_201_117 rfl r4.1 rfl ?_
                    refine r_con (v := 0) cd_201_120 rfl (by decide) ?_
                    refine r_arr (i := 0) cd_201_121 rfl r4.2.2.1 rfl (by omega) rfl ?_
                    refine RU.cast (pc2 := 122) (S2 := [aI ((v1 : Nat) : Int), aR 226]) rfl rfl rfl ?_
                    refine r_aldR cd_201_122 rfl rfl ?_
                    refine r_get cd_201_123 rfl r4.1 rfl ?_
                    refine r_con (v := 1) cd_201_126 rfl (by decide) ?_
                    refine r_arr (i := 1) cd_201_127 rfl r4.2.2.1 rfl (by omega) rfl ?_
                    refine RU.cast (pc2 := 128) (S2 := [aI ((v2 : Nat) : Int), aI ((v1 : Nat) : Int), aR 226]) rfl rfl rfl ?_
                    refine r_aldR cd_201_128 rfl rfl ?_
                    refine r_get cd_201_129 rfl r4.1 rfl ?_
                    refine r_con (v := 2) cd_201_132 rfl (by decide) ?_
                    refine r_arr (i := 2) cd_201_133 rfl r4.2.2.1 rfl (by omega) rfl ?_
                    refine RU.cast (pc2 := 134) (S2 := [aI ((v3 : Nat) : Int), aI ((v2 : Nat) : Int), aI ((v1 : Nat) : Int), aR 226]) rfl rfl rfl ?_
                    refine r_aldR cd_201_134 rfl rfl ?_
                    refine r_get cd_201_135 rfl r4.1 rfl ?_
                    refine r_con (v := 3) cd_201_138 rfl (by decide) ?_
                    refine r_arr (i := 3) cd_201_139 rfl r4.2.2.1 rfl (by omega) rfl ?_
                    refine RU.cast (pc2 := 140) (S2 := [aI ((v4 : Nat) : Int), aI ((v3 : Nat) : Int), aI ((v2 : Nat) : Int), aI ((v1 : Nat) : Int), aR 226]) rfl rfl rfl ?_
                    refine r_cI (c_204 r4.1 r4.2.1 hI ((v1 : Nat) : Int) ((v2 : Nat) : Int) ((v3 : Nat) : Int) ((v4 : Nat) : Int) (by omega)) cd_201_140 rfl rfl rfl (rc0 r4.1 rfl) rfl rfl rfl ?_
                    refine r_pop cd_201_143 rfl rfl ?_
                    refine r_con (v := 1) cd_201_144 rfl (by decide) ?_
                    exact r_ret cd_201_145 (Or.inr rfl) (rfl)
theorem r_234 {h : aH} {s w nu tx : Nat → Int} {N i : Nat} (hM : h.2.2 226 = .inr (8, Mo s)) (htx : h.2.2 233 = .inl (0, 600, .inl tx)) (hb : TxB tx) (hN6 : N ≤ 600) (hT : PS s tx N i) (hi : i ≤ N) (hw : h.2.2 227 = .inl (0, 211, .inl w)) (hnu : h.2.2 235 = .inl (0, 4, .inl nu)) (hI : Inv0 w) : CP 5 234 [aR 226] h s w N (cClm tx N i w) := by
  have hbn := hI.bNe
  have hpn := hI.pNe
  have x0 := hI.len
  have x1 := hI.hour
  have x2 := hI.gas
  have x3 := hI.leak
  have x4 := hI.gn
  have x5 := hI.bn
  have x6 := hI.pn
  rcases hA1 : numA tx N i 0 (w 0 - 1) with ⟨ek, eo⟩ | ⟨v1, j1⟩
  · rw [show cClm tx N i w = .inl (ek, eo) by simp [cClm, bnd, hA1]]
    obtain ⟨he, hcE, hPE⟩ := c_193e hM htx hb hN6 hT hi hw hnu hI 0 (by decide) hA1
    refine ⟨he, Ct.of [aR 226, aU] rfl ?_, hPE.tr' (RZ.rf hM hw hnu) Fx.rf⟩
    refine r_aldR cd_234_0 rfl rfl ?_
    refine r_con (v := 0) cd_234_1 rfl (by decide) ?_
    refine r_cI hcE cd_234_2 rfl rfl rfl (rc0 hM rfl) rfl rfl rfl ?_
    refine r_if52 cd_234_5 rfl ⟨by omega, by omega⟩ (fun n1 => ?_) (fun n1 => ?_)
    · refine r_con (v := 0) cd_234_8 rfl (by decide) ?_
      exact r_ret cd_234_9 (Or.inl rfl) (rfl)
    · exact absurd n1 (by decide)
  obtain ⟨h1, s1, hc1, r1, t1, l1, f1⟩ := c_193o hM htx hb hN6 hT hi hw hnu hI 0 (by decide) hA1
  have q1 := numA_o hA1 (by decide)
  by_cases hO : tKnd tx N j1 = 3 ∧ foundP w ((v1 : Nat) : Int) (tVal tx N j1) = -1
  · rw [show cClm tx N i w = .inl (2, ((tOff tx N j1 : Nat) : Int)) by simp [cClm, bnd, hA1, clmA, hO]]
    refine ⟨sw h1 226 (.inr (8, Mo (erS s1 2))), Ct.of [aR 226, aU] rfl ?_, PE.er ((RZ.rf hM hw hnu).tr r1) (Fx.rf.tr f1) t1.2.2.2.1⟩
    refine r_aldR cd_234_0 rfl rfl ?_
    refine r_con (v := 0) cd_234_1 rfl (by decide) ?_
    refine r_cI hc1 cd_234_2 rfl rfl rfl (rc0 hM rfl) rfl rfl rfl ?_
    refine r_if52 cd_234_5 rfl ⟨by omega, by omega⟩ (fun n1 => ?_) (fun n1 => ?_)
    · exact absurd n1 (by decide)
    · refine r_aldR cd_234_10 rfl rfl ?_
      refine r_get (v := aI (tKnd tx N j1)) cd_234_11 rfl r1.1 (by rw [← t1.2.2.1]; rfl) ?_
      refine r_con (v := 3) cd_234_14 rfl (by decide) ?_
      refine r_ic62 cd_234_15 rfl (inR_of (tKnd_b (tx := tx) (N := N) (i := j1)) (by decide) (by decide)) ⟨by omega, by omega⟩ (fun n2 => ?_) (fun n2 => ?_)
      · refine r_aldR cd_234_18 rfl rfl ?_
        refine r_aldR cd_234_19 rfl rfl ?_
        refine r_get cd_234_20 rfl r1.1 rfl ?_
        refine r_con (v := 0) cd_234_23 rfl (by decide) ?_
        refine r_arr (i := 0) cd_234_24 rfl r1.2.2.1 rfl (by omega) rfl ?_
        refine RU.cast (pc2 := 25) (S2 := [aI ((v1 : Nat) : Int), aR 226]) rfl rfl rfl ?_
        refine r_aldR cd_234_25 rfl rfl ?_
        refine r_get (v := aI (tVal tx N j1)) cd_234_26 rfl r1.1 (by rw [← t1.2.2.2.2.2 n2]; rfl) ?_
        refine r_cI (c_235 r1.1 r1.2.1 hI ((v1 : Nat) : Int) ⟨by omega, by omega⟩ (tVal tx N j1) (tVal_in hb n2)) cd_234_29 rfl rfl rfl (rc0 r1.1 rfl) rfl rfl rfl ?_
        refine r_goto cd_234_32 ?_
        refine r_ist cd_234_36 rfl rfl (L' := [aR 226, aI (foundP w ((v1 : Nat) : Int) (tVal tx N j1))]) rfl ?_
        refine r_aldR cd_234_37 rfl rfl ?_
        refine r_get (v := aI (tKnd tx N j1)) cd_234_38 rfl r1.1 (by rw [← t1.2.2.1]; rfl) ?_
        refine r_con (v := 3) cd_234_41 rfl (by decide) ?_
        refine r_ic62 cd_234_42 rfl (inR_of (tKnd_b (tx := tx) (N := N) (i := j1)) (by decide) (by decide)) ⟨by omega, by omega⟩ (fun n3 => ?_) (fun n3 => ?_)
        · refine r_ild cd_234_45 rfl rfl ?_
          refine r_con (v := (-1)) cd_234_46 rfl (by decide) ?_
          refine r_ic62 cd_234_47 rfl ⟨by have := foundP_b (w := w) ((v1 : Nat) : Int) (tVal tx N j1); omega, by have := foundP_b (w := w) ((v1 : Nat) : Int) (tVal tx N j1); omega⟩ ⟨by omega, by omega⟩ (fun n4 => ?_) (fun n4 => ?_)
          · refine r_aldR cd_234_50 rfl rfl ?_
            refine r_con (v := 2) cd_234_51 rfl (by decide) ?_
            refine r_cI (c_183 r1.1 t1.2.1 2) cd_234_52 rfl rfl rfl (rc0 r1.1 rfl) rfl rfl rfl ?_
            exact r_ret cd_234_55 (Or.inl rfl) (rfl)
          · exact absurd hO.2 n4
        · exact absurd hO.1 n3
      · exact absurd hO.1 n2
  by_cases hk3 : tKnd tx N j1 = 3
  rotate_left
  · have hA2 : numA tx N j1 0 99 = .inl (1, ((tOff tx N j1 : Nat) : Int)) := by unfold numA; rw [if_pos hk3]
    rw [show cClm tx N i w = .inl (1, ((tOff tx N j1 : Nat) : Int)) by simp [cClm, bnd, hA1, clmA, hO, hA2]]
    obtain ⟨he, hcE, hPE⟩ := c_184e r1.1 ((r1.2.2.2.1 233 (by decide) (by decide) (by decide)).trans htx) hb hN6 t1 l1 r1.2.1 r1.2.2.1 1 (by decide) 0 ⟨by decide, by decide⟩ 99 ⟨by decide, by decide⟩ (by decide) hA2
    refine ⟨he, Ct.of [aR 226, aU] rfl ?_, hPE.tr' ((RZ.rf hM hw hnu).tr r1) (Fx.rf.tr f1)⟩
    refine r_aldR cd_234_0 rfl rfl ?_
    refine r_con (v := 0) cd_234_1 rfl (by decide) ?_
    refine r_cI hc1 cd_234_2 rfl rfl rfl (rc0 hM rfl) rfl rfl rfl ?_
    refine r_if52 cd_234_5 rfl ⟨by omega, by omega⟩ (fun n1 => ?_) (fun n1 => ?_)
    · exact absurd n1 (by decide)
    · refine r_aldR cd_234_10 rfl rfl ?_
      refine r_get (v := aI (tKnd tx N j1)) cd_234_11 rfl r1.1 (by rw [← t1.2.2.1]; rfl) ?_
      refine r_con (v := 3) cd_234_14 rfl (by decide) ?_
      refine r_ic62 cd_234_15 rfl (inR_of (tKnd_b (tx := tx) (N := N) (i := j1)) (by decide) (by decide)) ⟨by omega, by omega⟩ (fun n2 => ?_) (fun n2 => ?_)
      · exact absurd n2 hk3
      · refine r_con (v := (-1)) cd_234_35 rfl (by decide) ?_
        refine r_ist cd_234_36 rfl rfl (L' := [aR 226, aI (-1)]) rfl ?_
        refine r_aldR cd_234_37 rfl rfl ?_
        refine r_get (v := aI (tKnd tx N j1)) cd_234_38 rfl r1.1 (by rw [← t1.2.2.1]; rfl) ?_
        refine r_con (v := 3) cd_234_41 rfl (by decide) ?_
        refine r_ic62 cd_234_42 rfl (inR_of (tKnd_b (tx := tx) (N := N) (i := j1)) (by decide) (by decide)) ⟨by omega, by omega⟩ (fun n3 => ?_) (fun n3 => ?_)
        · exact absurd n3 hk3
        · refine r_aldR cd_234_56 rfl rfl ?_
          refine r_con (v := 1) cd_234_57 rfl (by decide) ?_
          refine r_con (v := 0) cd_234_58 rfl (by decide) ?_
          refine r_con (v := 99) cd_234_59 rfl (by decide) ?_
          refine r_cI hcE cd_234_61 rfl rfl rfl (rc0 r1.1 rfl) rfl rfl rfl ?_
          refine r_if51 cd_234_64 rfl ⟨by omega, by omega⟩ (fun n4 => ?_) (fun n4 => ?_)
          · refine r_con (v := 0) cd_234_75 rfl (by decide) ?_
            exact r_ret cd_234_76 (Or.inl rfl) (rfl)
          · exact absurd n4 (by decide)
  have hf9 : ¬ foundP w ((v1 : Nat) : Int) (tVal tx N j1) = -1 := fun e => hO ⟨hk3, e⟩
  rcases hA2 : numA tx N j1 0 (99) with ⟨ek, eo⟩ | ⟨v2, j2⟩
  · rw [show cClm tx N i w = .inl (ek, eo) by simp [cClm, bnd, hA1, clmA, hO, hA2]]
    obtain ⟨he, hcE, hPE⟩ := c_184e r1.1 ((r1.2.2.2.1 233 (by decide) (by decide) (by decide)).trans htx) hb hN6 t1 l1 r1.2.1 r1.2.2.1 1 (by decide) 0 ⟨by decide, by decide⟩ 99 ⟨by decide, by decide⟩ (by decide) hA2
    refine ⟨he, Ct.of [aR 226, aU] rfl ?_, hPE.tr' ((RZ.rf hM hw hnu).tr r1) (Fx.rf.tr f1)⟩
    refine r_aldR cd_234_0 rfl rfl ?_
    refine r_con (v := 0) cd_234_1 rfl (by decide) ?_
    refine r_cI hc1 cd_234_2 rfl rfl rfl (rc0 hM rfl) rfl rfl rfl ?_
    refine r_if52 cd_234_5 rfl ⟨by omega, by omega⟩ (fun n1 => ?_) (fun n1 => ?_)
    · exact absurd n1 (by decide)
    · refine r_aldR cd_234_10 rfl rfl ?_
      refine r_get (v := aI (tKnd tx N j1)) cd_234_11 rfl r1.1 (by rw [← t1.2.2.1]; rfl) ?_
      refine r_con (v := 3) cd_234_14 rfl (by decide) ?_
      refine r_ic62 cd_234_15 rfl (inR_of (tKnd_b (tx := tx) (N := N) (i := j1)) (by decide) (by decide)) ⟨by omega, by omega⟩ (fun n2 => ?_) (fun n2 => ?_)
      · refine r_aldR cd_234_18 rfl rfl ?_
        refine r_aldR cd_234_19 rfl rfl ?_
        refine r_get cd_234_20 rfl r1.1 rfl ?_
        refine r_con (v := 0) cd_234_23 rfl (by decide) ?_
        refine r_arr (i := 0) cd_234_24 rfl r1.2.2.1 rfl (by omega) rfl ?_
        refine RU.cast (pc2 := 25) (S2 := [aI ((v1 : Nat) : Int), aR 226]) rfl rfl rfl ?_
        refine r_aldR cd_234_25 rfl rfl ?_
        refine r_get (v := aI (tVal tx N j1)) cd_234_26 rfl r1.1 (by rw [← t1.2.2.2.2.2 n2]; rfl) ?_
        refine r_cI (c_235 r1.1 r1.2.1 hI ((v1 : Nat) : Int) ⟨by omega, by omega⟩ (tVal tx N j1) (tVal_in hb n2)) cd_234_29 rfl rfl rfl (rc0 r1.1 rfl) rfl rfl rfl ?_
        refine r_goto cd_234_32 ?_
        refine r_ist cd_234_36 rfl rfl (L' := [aR 226, aI (foundP w ((v1 : Nat) : Int) (tVal tx N j1))]) rfl ?_
        refine r_aldR cd_234_37 rfl rfl ?_
        refine r_get (v := aI (tKnd tx N j1)) cd_234_38 rfl r1.1 (by rw [← t1.2.2.1]; rfl) ?_
        refine r_con (v := 3) cd_234_41 rfl (by decide) ?_
        refine r_ic62 cd_234_42 rfl (inR_of (tKnd_b (tx := tx) (N := N) (i := j1)) (by decide) (by decide)) ⟨by omega, by omega⟩ (fun n3 => ?_) (fun n3 => ?_)
        · refine r_ild cd_234_45 rfl rfl ?_
          refine r_con (v := (-1)) cd_234_46 rfl (by decide) ?_
          refine r_ic62 cd_234_47 rfl ⟨by have := foundP_b (w := w) ((v1 : Nat) : Int) (tVal tx N j1); omega, by have := foundP_b (w := w) ((v1 : Nat) : Int) (tVal tx N j1); omega⟩ ⟨by omega, by omega⟩ (fun n4 => ?_) (fun n4 => ?_)
          · exact absurd n4 hf9
          · refine r_aldR cd_234_56 rfl rfl ?_
            refine r_con (v := 1) cd_234_57 rfl (by decide) ?_
            refine r_con (v := 0) cd_234_58 rfl (by decide) ?_
            refine r_con (v := 99) cd_234_59 rfl (by decide) ?_
            refine r_cI hcE cd_234_61 rfl rfl rfl (rc0 r1.1 rfl) rfl rfl rfl ?_
            refine r_if51 cd_234_64 rfl ⟨by omega, by omega⟩ (fun n5 => ?_) (fun n5 => ?_)
            · refine r_con (v := 0) cd_234_75 rfl (by decide) ?_
              exact r_ret cd_234_76 (Or.inl rfl) (rfl)
            · exact absurd n5 (by decide)
        · exact absurd hk3 n3
      · exact absurd hk3 n2
  obtain ⟨h2, s2, hc2, r2, t2, l2, f2⟩ := c_184o r1.1 ((r1.2.2.2.1 233 (by decide) (by decide) (by decide)).trans htx) hb hN6 t1 l1 r1.2.1 r1.2.2.1 1 (by decide) 0 ⟨by decide, by decide⟩ 99 ⟨by decide, by decide⟩ (by decide) hA2
  have q2 := numA_o hA2 (by decide)
  have hfb := foundP_b (w := w) ((v1 : Nat) : Int) (tVal tx N j1)
  obtain ⟨p, hp⟩ : ∃ p : Nat, foundP w ((v1 : Nat) : Int) (tVal tx N j1) = (p : Int) := ⟨(foundP w ((v1 : Nat) : Int) (tVal tx N j1)).toNat, by omega⟩
  have hp2 : (foundP w ((v1 : Nat) : Int) ((v2 : Nat) : Int)).toNat = p := by rw [q2.1, hp]; rfl
  rcases hS : semA tx N j2 (true) with ⟨ek, eo⟩ | jS
  · rw [show cClm tx N i w = .inl (ek, eo) by simp [cClm, bnd, hA1, clmA, hO, hA2, hp2, hS]]
    obtain ⟨he, hcS, hPE⟩ := c_194e r2.1 ((r2.2.2.2.1 233 (by decide) (by decide) (by decide)).trans ((r1.2.2.2.1 233 (by decide) (by decide) (by decide)).trans htx)) hb hN6 t2 l2 r2.2.1 r2.2.2.1 hS
    refine ⟨he, Ct.of [aR 226, aU] rfl ?_, hPE.tr' (((RZ.rf hM hw hnu).tr r1).tr r2) ((Fx.rf.tr f1).tr f2)⟩
    refine r_aldR cd_234_0 rfl rfl ?_
    refine r_con (v := 0) cd_234_1 rfl (by decide) ?_
    refine r_cI hc1 cd_234_2 rfl rfl rfl (rc0 hM rfl) rfl rfl rfl ?_
    refine r_if52 cd_234_5 rfl ⟨by omega, by omega⟩ (fun n1 => ?_) (fun n1 => ?_)
    · exact absurd n1 (by decide)
    · refine r_aldR cd_234_10 rfl rfl ?_
      refine r_get (v := aI (tKnd tx N j1)) cd_234_11 rfl r1.1 (by rw [← t1.2.2.1]; rfl) ?_
      refine r_con (v := 3) cd_234_14 rfl (by decide) ?_
      refine r_ic62 cd_234_15 rfl (inR_of (tKnd_b (tx := tx) (N := N) (i := j1)) (by decide) (by decide)) ⟨by omega, by omega⟩ (fun n2 => ?_) (fun n2 => ?_)
      · refine r_aldR cd_234_18 rfl rfl ?_
        refine r_aldR cd_234_19 rfl rfl ?_
        refine r_get cd_234_20 rfl r1.1 rfl ?_
        refine r_con (v := 0) cd_234_23 rfl (by decide) ?_
        refine r_arr (i := 0) cd_234_24 rfl r1.2.2.1 rfl (by omega) rfl ?_
        refine RU.cast (pc2 := 25) (S2 := [aI ((v1 : Nat) : Int), aR 226]) rfl rfl rfl ?_
        refine r_aldR cd_234_25 rfl rfl ?_
        refine r_get (v := aI (tVal tx N j1)) cd_234_26 rfl r1.1 (by rw [← t1.2.2.2.2.2 n2]; rfl) ?_
        refine r_cI (c_235 r1.1 r1.2.1 hI ((v1 : Nat) : Int) ⟨by omega, by omega⟩ (tVal tx N j1) (tVal_in hb n2)) cd_234_29 rfl rfl rfl (rc0 r1.1 rfl) rfl rfl rfl ?_
        rw [hp]
        refine r_goto cd_234_32 ?_
        refine r_ist cd_234_36 rfl rfl (L' := [aR 226, aI ((p : Nat) : Int)]) rfl ?_
        refine r_aldR cd_234_37 rfl rfl ?_
        refine r_get (v := aI (tKnd tx N j1)) cd_234_38 rfl r1.1 (by rw [← t1.2.2.1]; rfl) ?_
        refine r_con (v := 3) cd_234_41 rfl (by decide) ?_
        refine r_ic62 cd_234_42 rfl (inR_of (tKnd_b (tx := tx) (N := N) (i := j1)) (by decide) (by decide)) ⟨by omega, by omega⟩ (fun n3 => ?_) (fun n3 => ?_)
        · refine r_ild cd_234_45 rfl rfl ?_
          refine r_con (v := (-1)) cd_234_46 rfl (by decide) ?_
          refine r_ic62 cd_234_47 rfl ⟨by omega, by omega⟩ ⟨by omega, by omega⟩ (fun n4 => ?_) (fun n4 => ?_)
          · exact absurd n4 (by omega)
          · refine r_aldR cd_234_56 rfl rfl ?_
            refine r_con (v := 1) cd_234_57 rfl (by decide) ?_
            refine r_con (v := 0) cd_234_58 rfl (by decide) ?_
            refine r_con (v := 99) cd_234_59 rfl (by decide) ?_
            refine r_cI hc2 cd_234_61 rfl rfl rfl (rc0 r1.1 rfl) rfl rfl rfl ?_
            refine r_if51 cd_234_64 rfl ⟨by omega, by omega⟩ (fun n5 => ?_) (fun n5 => ?_)
            · exact absurd n5 (by decide)
            · refine r_aldR cd_234_67 rfl rfl ?_
              refine r_con (v := 1) cd_234_68 rfl (by decide) ?_
              refine r_cI hcS cd_234_69 rfl rfl rfl (rc0 r2.1 rfl) rfl rfl rfl ?_
              refine r_if52 cd_234_72 rfl ⟨by omega, by omega⟩ (fun n6 => ?_) (fun n6 => ?_)
              · refine r_con (v := 0) cd_234_75 rfl (by decide) ?_
                exact r_ret cd_234_76 (Or.inl rfl) (rfl)
              · exact absurd n6 (by decide)
        · exact absurd hk3 n3
      · exact absurd hk3 n2
  · rw [show cClm tx N i w = .inr (jS, clmW w p) by simp [cClm, bnd, hA1, clmA, hO, hA2, hp2, hS]]
    have hcS := c_194o r2.1 ((r2.2.2.2.1 233 (by decide) (by decide) (by decide)).trans ((r1.2.2.2.1 233 (by decide) (by decide) (by decide)).trans htx)) hb hN6 t2 l2 hS
    have qS := semA_o hS
    have hej := (tEnd_b (tx := tx) (N := N) l2).2.1
    refine ⟨sw h2 227 (.inl (0, 211, .inl (clmW w p))), s2, (va_up (va_up nu 0 ((v1 : Nat) : Int)) 1 ((v2 : Nat) : Int)), Ct.of [aR 226, aU] rfl ?_, (((RZ.rf hM hw hnu).tr r1).tr r2).w, t2.2.2.2.2.1.trans (by rw [qS.2.2]), t2.1, t2.2.1, by rw [qS.2.2]; exact hej, ((Fx.rf.tr f1).tr f2)⟩
    refine r_aldR cd_234_0 rfl rfl ?_
    refine r_con (v := 0) cd_234_1 rfl (by decide) ?_
    refine r_cI hc1 cd_234_2 rfl rfl rfl (rc0 hM rfl) rfl rfl rfl ?_
    refine r_if52 cd_234_5 rfl ⟨by omega, by omega⟩ (fun n1 => ?_) (fun n1 => ?_)
    · exact absurd n1 (by decide)
    · refine r_aldR cd_234_10 rfl rfl ?_
      refine r_get (v := aI (tKnd tx N j1)) cd_234_11 rfl r1.1 (by rw [← t1.2.2.1]; rfl) ?_
      refine r_con (v := 3) cd_234_14 rfl (by decide) ?_
      refine r_ic62 cd_234_15 rfl (inR_of (tKnd_b (tx := tx) (N := N) (i := j1)) (by decide) (by decide)) ⟨by omega, by omega⟩ (fun n2 => ?_) (fun n2 => ?_)
      · refine r_aldR cd_234_18 rfl rfl ?_
        refine r_aldR cd_234_19 rfl rfl ?_
        refine r_get cd_234_20 rfl r1.1 rfl ?_
        refine r_con (v := 0) cd_234_23 rfl (by decide) ?_
        refine r_arr (i := 0) cd_234_24 rfl r1.2.2.1 rfl (by omega) rfl ?_
        refine RU.cast (pc2 := 25) (S2 := [aI ((v1 : Nat) : Int), aR 226]) rfl rfl rfl ?_
        refine r_aldR cd_234_25 rfl rfl ?_
        refine r_get (v := aI (tVal tx N j1)) cd_234_26 rfl r1.1 (by rw [← t1.2.2.2.2.2 n2]; rfl) ?_
        refine r_cI (c_235 r1.1 r1.2.1 hI ((v1 : Nat) : Int) ⟨by omega, by omega⟩ (tVal tx N j1) (tVal_in hb n2)) cd_234_29 rfl rfl rfl (rc0 r1.1 rfl) rfl rfl rfl ?_
        rw [hp]
        refine r_goto cd_234_32 ?_
        refine r_ist cd_234_36 rfl rfl (L' := [aR 226, aI ((p : Nat) : Int)]) rfl ?_
        refine r_aldR cd_234_37 rfl rfl ?_
        refine r_get (v := aI (tKnd tx N j1)) cd_234_38 rfl r1.1 (by rw [← t1.2.2.1]; rfl) ?_
        refine r_con (v := 3) cd_234_41 rfl (by decide) ?_
        refine r_ic62 cd_234_42 rfl (inR_of (tKnd_b (tx := tx) (N := N) (i := j1)) (by decide) (by decide)) ⟨by omega, by omega⟩ (fun n3 => ?_) (fun n3 => ?_)
        · refine r_ild cd_234_45 rfl rfl ?_
          refine r_con (v := (-1)) cd_234_46 rfl (by decide) ?_
          refine r_ic62 cd_234_47 rfl ⟨by omega, by omega⟩ ⟨by omega, by omega⟩ (fun n4 => ?_) (fun n4 => ?_)
          · exact absurd n4 (by omega)
          · refine r_aldR cd_234_56 rfl rfl ?_
            refine r_con (v := 1) cd_234_57 rfl (by decide) ?_
            refine r_con (v := 0) cd_234_58 rfl (by decide) ?_
            refine r_con (v := 99) cd_234_59 rfl (by decide) ?_
            refine r_cI hc2 cd_234_61 rfl rfl rfl (rc0 r1.1 rfl) rfl rfl rfl ?_
            refine r_if51 cd_234_64 rfl ⟨by omega, by omega⟩ (fun n5 => ?_) (fun n5 => ?_)
            · exact absurd n5 (by decide)
            · refine r_aldR cd_234_67 rfl rfl ?_
              refine r_con (v := 1) cd_234_68 rfl (by decide) ?_
              refine r_cI hcS cd_234_69 rfl rfl rfl (rc0 r2.1 rfl) rfl rfl rfl ?_
              refine r_if52 cd_234_72 rfl ⟨by omega, by omega⟩ (fun n6 => ?_) (fun n6 => ?_)
              · exact absurd n6 (by decide)
              · refine r_aldR cd_234_77 rfl rfl ?_
                refine r_ild cd_234_78 rfl rfl ?_
                refine r_cI (c_237 r2.1 r2.2.1 hI p (by omega)) cd_234_79 rfl rfl rfl (rc0 r2.1 rfl) rfl rfl rfl ?_
                refine r_pop cd_234_82 rfl rfl ?_
                refine r_con (v := 1) cd_234_83 rfl (by decide) ?_
                exact r_ret cd_234_84 (Or.inr rfl) (rfl)
        · exact absurd hk3 n3
      · exact absurd hk3 n2
def wordF (tx : Nat → Int) (N i : Nat) : List Nat → Int → Int
  | [], _ => -1
  | j :: l, k => if saysB tx N i (sT j) = true then k else wordF tx N i l (k + 1)
def wl1 : List Nat := [36, 37, 38, 39, 40, 41, 42, 43]
def wl2 : List Nat := [44, 45, 46, 47, 48, 49, 50, 51]
def wordI (tx : Nat → Int) (N i : Nat) : Int := wordF tx N i (wl1 ++ wl2) 0
theorem c_189 {h : aH} {s tx : Nat → Int} {N i : Nat} (hM : h.2.2 226 = .inr (8, Mo s)) (htx : h.2.2 233 = .inl (0, 600, .inl tx)) (hb : TxB tx) (hN6 : N ≤ 600) (hT : PS s tx N i) (hi : i ≤ N) : Ct 6 189 [aR 226] h (.inl (some (aI (wordF tx N i wl2 8))), h) := by
  refine Ct.of [aR 226] rfl ?_
  refine r_aldR cd_189_0 rfl rfl ?_
  refine r_cst cd_189_1 rfl ?_
  refine r_cI (c_182 hM htx hb hN6 hT hi 44 (by decide) (by decide)) cd_189_4 rfl rfl rfl (rc0 hM rfl) rfl rfl rfl ?_
  refine r_if51b cd_189_7 rfl (fun n1 => ?_) (fun n1 => ?_)
  · refine r_aldR cd_189_15 rfl rfl ?_
    refine r_cst cd_189_16 rfl ?_
    refine r_cI (c_182 hM htx hb hN6 hT hi 45 (by decide) (by decide)) cd_189_19 rfl rfl rfl (rc0 hM rfl) rfl rfl rfl ?_
    refine r_if51b cd_189_22 rfl (fun n2 => ?_) (fun n2 => ?_)
    · refine r_aldR cd_189_30 rfl rfl ?_
      refine r_cst cd_189_31 rfl ?_
      refine r_cI (c_182 hM htx hb hN6 hT hi 46 (by decide) (by decide)) cd_189_34 rfl rfl rfl (rc0 hM rfl) rfl rfl rfl ?_
      refine r_if51b cd_189_37 rfl (fun n3 => ?_) (fun n3 => ?_)
      · refine r_aldR cd_189_45 rfl rfl ?_
        refine r_cst cd_189_46 rfl ?_
        refine r_cI (c_182 hM htx hb hN6 hT hi 47 (by decide) (by decide)) cd_189_49 rfl rfl rfl (rc0 hM rfl) rfl rfl rfl ?_
        refine r_if51b cd_189_52 rfl (fun n4 => ?_) (fun n4 => ?_)
        · refine r_aldR cd_189_60 rfl rfl ?_
          refine r_cst cd_189_61 rfl ?_
          refine r_cI (c_182 hM htx hb hN6 hT hi 48 (by decide) (by decide)) cd_189_64 rfl rfl rfl (rc0 hM rfl) rfl rfl rfl ?_
          refine r_if51b cd_189_67 rfl (fun n5 => ?_) (fun n5 => ?_)
          · refine r_aldR cd_189_75 rfl rfl ?_
            refine r_cst cd_189_76 rfl ?_
            refine r_cI (c_182 hM htx hb hN6 hT hi 49 (by decide) (by decide)) cd_189_79 rfl rfl rfl (rc0 hM rfl) rfl rfl rfl ?_
            refine r_if51b cd_189_82 rfl (fun n6 => ?_) (fun n6 => ?_)
            · refine r_aldR cd_189_90 rfl rfl ?_
              refine r_cst cd_189_91 rfl ?_
              refine r_cI (c_182 hM htx hb hN6 hT hi 50 (by decide) (by decide)) cd_189_94 rfl rfl rfl (rc0 hM rfl) rfl rfl rfl ?_
              refine r_if51b cd_189_97 rfl (fun n7 => ?_) (fun n7 => ?_)
              · refine r_aldR cd_189_105 rfl rfl ?_
                refine r_cst cd_189_106 rfl ?_
                refine r_cI (c_182 hM htx hb hN6 hT hi 51 (by decide) (by decide)) cd_189_109 rfl rfl rfl (rc0 hM rfl) rfl rfl rfl ?_
                refine r_if51b cd_189_112 rfl (fun n8 => ?_) (fun n8 => ?_)
                · refine r_con (v := (-1)) cd_189_120 rfl (by decide) ?_
                  exact r_ret cd_189_121 True.intro (rI (by simp [wl2, wordF, n1, n2, n3, n4, n5, n6, n7, n8]))
                · refine r_con (v := 15) cd_189_115 rfl (by decide) ?_
                  refine r_goto cd_189_117 ?_
                  exact r_ret cd_189_121 True.intro (rI (by simp [wl2, wordF, n1, n2, n3, n4, n5, n6, n7, n8]))
              · refine r_con (v := 14) cd_189_100 rfl (by decide) ?_
                refine r_goto cd_189_102 ?_
                exact r_ret cd_189_121 True.intro (rI (by simp [wl2, wordF, n1, n2, n3, n4, n5, n6, n7]))
            · refine r_con (v := 13) cd_189_85 rfl (by decide) ?_
              refine r_goto cd_189_87 ?_
              exact r_ret cd_189_121 True.intro (rI (by simp [wl2, wordF, n1, n2, n3, n4, n5, n6]))
          · refine r_con (v := 12) cd_189_70 rfl (by decide) ?_
            refine r_goto cd_189_72 ?_
            exact r_ret cd_189_121 True.intro (rI (by simp [wl2, wordF, n1, n2, n3, n4, n5]))
        · refine r_con (v := 11) cd_189_55 rfl (by decide) ?_
          refine r_goto cd_189_57 ?_
          exact r_ret cd_189_121 True.intro (rI (by simp [wl2, wordF, n1, n2, n3, n4]))
      · refine r_con (v := 10) cd_189_40 rfl (by decide) ?_
        refine r_goto cd_189_42 ?_
        exact r_ret cd_189_121 True.intro (rI (by simp [wl2, wordF, n1, n2, n3]))
    · refine r_con (v := 9) cd_189_25 rfl (by decide) ?_
      refine r_goto cd_189_27 ?_
      exact r_ret cd_189_121 True.intro (rI (by simp [wl2, wordF, n1, n2]))
  · refine r_con (v := 8) cd_189_10 rfl (by decide) ?_
    refine r_goto cd_189_12 ?_
    exact r_ret cd_189_121 True.intro (rI (by simp [wl2, wordF, n1]))
theorem c_188 {h : aH} {s tx : Nat → Int} {N i : Nat} (hM : h.2.2 226 = .inr (8, Mo s)) (htx : h.2.2 233 = .inl (0, 600, .inl tx)) (hb : TxB tx) (hN6 : N ≤ 600) (hT : PS s tx N i) (hi : i ≤ N) : Ct 7 188 [aR 226] h (.inl (some (aI (wordI tx N i))), h) := by
  refine Ct.of [aR 226] rfl ?_
  refine r_aldR cd_188_0 rfl rfl ?_
  refine r_cst cd_188_1 rfl ?_
  refine r_cI (c_182 hM htx hb hN6 hT hi 36 (by decide) (by decide)) cd_188_3 rfl rfl rfl (rc0 hM rfl) rfl rfl rfl ?_
  refine r_if51b cd_188_6 rfl (fun n1 => ?_) (fun n1 => ?_)
  · refine r_aldR cd_188_13 rfl rfl ?_
    refine r_cst cd_188_14 rfl ?_
    refine r_cI (c_182 hM htx hb hN6 hT hi 37 (by decide) (by decide)) cd_188_16 rfl rfl rfl (rc0 hM rfl) rfl rfl rfl ?_
    refine r_if51b cd_188_19 rfl (fun n2 => ?_) (fun n2 => ?_)
    · refine r_aldR cd_188_26 rfl rfl ?_
      refine r_cst cd_188_27 rfl ?_
      refine r_cI (c_182 hM htx hb hN6 hT hi 38 (by decide) (by decide)) cd_188_29 rfl rfl rfl (rc0 hM rfl) rfl rfl rfl ?_
      refine r_if51b cd_188_32 rfl (fun n3 => ?_) (fun n3 => ?_)
      · refine r_aldR cd_188_39 rfl rfl ?_
        refine r_cst cd_188_40 rfl ?_
        refine r_cI (c_182 hM htx hb hN6 hT hi 39 (by decide) (by decide)) cd_188_42 rfl rfl rfl (rc0 hM rfl) rfl rfl rfl ?_
        refine r_if51b cd_188_45 rfl (fun n4 => ?_) (fun n4 => ?_)
        · refine r_aldR cd_188_52 rfl rfl ?_
          refine r_cst cd_188_53 rfl ?_
          refine r_cI (c_182 hM htx hb hN6 hT hi 40 (by decide) (by decide)) cd_188_56 rfl rfl rfl (rc0 hM rfl) rfl rfl rfl ?_
          refine r_if51b cd_188_59 rfl (fun n5 => ?_) (fun n5 => ?_)
          · refine r_aldR cd_188_66 rfl rfl ?_
            refine r_cst cd_188_67 rfl ?_
            refine r_cI (c_182 hM htx hb hN6 hT hi 41 (by decide) (by decide)) cd_188_70 rfl rfl rfl (rc0 hM rfl) rfl rfl rfl ?_
            refine r_if51b cd_188_73 rfl (fun n6 => ?_) (fun n6 => ?_)
            · refine r_aldR cd_188_80 rfl rfl ?_
              refine r_cst cd_188_81 rfl ?_
              refine r_cI (c_182 hM htx hb hN6 hT hi 42 (by decide) (by decide)) cd_188_84 rfl rfl rfl (rc0 hM rfl) rfl rfl rfl ?_
              refine r_if51b cd_188_87 rfl (fun n7 => ?_) (fun n7 => ?_)
              · refine r_aldR cd_188_95 rfl rfl ?_
                refine r_cst cd_188_96 rfl ?_
                refine r_cI (c_182 hM htx hb hN6 hT hi 43 (by decide) (by decide)) cd_188_99 rfl rfl rfl (rc0 hM rfl) rfl rfl rfl ?_
                refine r_if51b cd_188_102 rfl (fun n8 => ?_) (fun n8 => ?_)
                · refine r_aldR cd_188_110 rfl rfl ?_
                  refine r_cI (c_189 hM htx hb hN6 hT hi) cd_188_111 rfl rfl rfl (rc0 hM rfl) rfl rfl rfl ?_
                  exact r_ret cd_188_114 True.intro (rI (by simp [wordI, wl1, wl2, wordF, n1, n2, n3, n4, n5, n6, n7, n8]))
                · refine r_con (v := 7) cd_188_105 rfl (by decide) ?_
                  refine r_goto cd_188_107 ?_
                  exact r_ret cd_188_114 True.intro (rI (by simp [wordI, wl1, wl2, wordF, n1, n2, n3, n4, n5, n6, n7, n8]))
              · refine r_con (v := 6) cd_188_90 rfl (by decide) ?_
                refine r_goto cd_188_92 ?_
                exact r_ret cd_188_114 True.intro (rI (by simp [wordI, wl1, wl2, wordF, n1, n2, n3, n4, n5, n6, n7]))
            · refine r_con (v := 5) cd_188_76 rfl (by decide) ?_
              refine r_goto cd_188_77 ?_
              exact r_ret cd_188_114 True.intro (rI (by simp [wordI, wl1, wl2, wordF, n1, n2, n3, n4, n5, n6]))
          · refine r_con (v := 4) cd_188_62 rfl (by decide) ?_
            refine r_goto cd_188_63 ?_
            exact r_ret cd_188_114 True.intro (rI (by simp [wordI, wl1, wl2, wordF, n1, n2, n3, n4, n5]))
        · refine r_con (v := 3) cd_188_48 rfl (by decide) ?_
          refine r_goto cd_188_49 ?_
          exact r_ret cd_188_114 True.intro (rI (by simp [wordI, wl1, wl2, wordF, n1, n2, n3, n4]))
      · refine r_con (v := 2) cd_188_35 rfl (by decide) ?_
        refine r_goto cd_188_36 ?_
        exact r_ret cd_188_114 True.intro (rI (by simp [wordI, wl1, wl2, wordF, n1, n2, n3]))
    · refine r_con (v := 1) cd_188_22 rfl (by decide) ?_
      refine r_goto cd_188_23 ?_
      exact r_ret cd_188_114 True.intro (rI (by simp [wordI, wl1, wl2, wordF, n1, n2]))
  · refine r_con (v := 0) cd_188_9 rfl (by decide) ?_
    refine r_goto cd_188_10 ?_
    exact r_ret cd_188_114 True.intro (rI (by simp [wordI, wl1, wl2, wordF, n1]))
