/-! THE LAW: hours in pieces; the law itself (written by wip/p66/gen88.py) -/
section SAME
variable {h : aH} {w : Nat → Int} {ps : List (Nat → Int)} {kp : Option (Nat → Int)} {T : Nat} {bu : Nat → Int} {ek eo : Int} {rl : Nat} {rp : Nat → Int} {k : Nat}
theorem y_336 (C : CR h w ps kp T bu ek eo rl rp) (G : Gd k w) (hl : ps.length ≤ 8) (a b : Nat) (ha : 1 ≤ a ∧ a ≤ 8) (hb : 1 ≤ b ∧ b ≤ 16) : ∃ h' ps' kp', Ct 8 336 [aR 0, aI ((a : Nat) : Int), aI ((b : Nat) : Int)] h (.inl (some (aI 1)), h') ∧ CR h' w ps' kp' T bu ek eo rl rp ∧ Fc h h' ∧ ps'.length ≤ 8 := by
  suffices hs : ∃ res, (fun r => ∃ h' ps' kp', r = (.inl (some (aI 1)), h') ∧ CR h' w ps' kp' T bu ek eo rl rp ∧ Fc h h' ∧ ps'.length ≤ 8) res ∧ Ct 8 336 [aR 0, aI ((a : Nat) : Int), aI ((b : Nat) : Int)] h res by
    obtain ⟨res, ⟨h2, ps2, kp2, f1, f2, f3, f4⟩, k9⟩ := hs
    subst f1
    exact ⟨h2, ps2, kp2, k9, f2, f3, f4⟩
  have hI := G.1.1
  have hbn := hI.bNe
  have hpn := hI.pNe
  have x0 := hI.len
  have x1 := hI.hour
  have x2 := hI.gas
  have x5 := hI.bn
  have x6 := hI.pn
  obtain ⟨h0, -⟩ := id C
  refine Ct.ofx [aR 0, aI ((a : Nat) : Int), aI ((b : Nat) : Int), aU, aU, aU, aU, aU, aU] rfl ?_
  refine RX.st (fun _ k9 => r_aldR cd_336_0 rfl rfl k9) ?_
  refine RX.st (fun _ k9 => r_cI (x_115 C hI) cd_336_1 rfl rfl rfl (rc0 h0 rfl) rfl rfl rfl k9) ?_
  refine RX.st (fun _ k9 => r_ild cd_336_4 rfl rfl k9) ?_
  refine RX.st (fun _ k9 => r_add (v := (w 1) + ((a : Nat) : Int)) cd_336_5 rfl (by rfl) k9) ?_
  refine RX.st (fun _ k9 => r_ild cd_336_6 rfl rfl k9) ?_
  refine RX.st (fun _ k9 => r_add (v := ((w 1) + ((a : Nat) : Int)) + ((b : Nat) : Int)) cd_336_7 rfl (by rfl) k9) ?_
  refine RX.st (fun _ k9 => r_con (v := 999) cd_336_8 rfl (by decide) k9) ?_
  refine RX.br (fun _ k8 k9 => r_ic66 cd_336_11 rfl ⟨by omega, by omega⟩ ⟨by omega, by omega⟩ k8 k9) (fun n1 => ?_) (fun n1 => ?_)
  · refine RX.st (fun _ k9 => r_con (v := 1) cd_336_14 rfl (by decide) k9) ?_
    exact ⟨_, ⟨h, ps, kp, rfl, C, Fc.rf, hl⟩, r_ret cd_336_15 (Or.inr rfl) rfl⟩
  · refine RX.st (fun _ k9 => r_aldR cd_336_16 rfl rfl k9) ?_
    refine RX.st (fun _ k9 => r_cI (y_335 C hI) cd_336_17 rfl rfl rfl True.intro rfl rfl rfl k9) ?_
    refine RX.st (fun _ k9 => r_lsto cd_336_20 rfl rfl (L' := [aR 0, aI ((a : Nat) : Int), aI ((b : Nat) : Int), aW (.long (smF w)), aU, aU, aU, aU, aU]) rfl k9) ?_
    refine RX.st (fun _ k9 => r_aldR cd_336_21 rfl rfl k9) ?_
    obtain ⟨h1, c1, C1, F1⟩ := x_111 C hI
    refine RX.st (fun _ k9 => r_cI c1 cd_336_22 rfl rfl rfl (rc0 h0 rfl) rfl rfl rfl k9) ?_
    obtain ⟨k1, -⟩ := id C1
    refine RX.st (fun _ k9 => r_pop cd_336_25 rfl rfl k9) ?_
    refine RX.st (fun _ k9 => r_aldR cd_336_26 rfl rfl k9) ?_
    refine RX.st (fun _ k9 => r_ild cd_336_27 rfl rfl k9) ?_
    refine RX.st (fun _ k9 => r_ild cd_336_28 rfl rfl k9) ?_
    refine RX.st (fun _ k9 => r_add (v := ((a + b : Nat) : Int)) cd_336_29 rfl (by omega) k9) ?_
    obtain ⟨h2, c2, C2, F2, G2⟩ := ch_148 C1 G hl (a + b) (by omega) (by omega) (by omega)
    refine RX.st (fun _ k9 => r_cI c2 cd_336_30 rfl rfl rfl (rc0 k1 rfl) rfl rfl rfl k9) ?_
    obtain ⟨k2, -⟩ := id C2
    refine RX.st (fun _ k9 => r_ist cd_336_33 rfl rfl (L' := [aR 0, aI ((a : Nat) : Int), aI ((b : Nat) : Int), aW (.long (smF w)), aU, aI (passW w (a + b) 1), aU, aU, aU]) rfl k9) ?_
    refine RX.st (fun _ k9 => r_aldR cd_336_35 rfl rfl k9) ?_
    refine RX.st (fun _ k9 => r_cI (y_335 C2 G2.1.1) cd_336_36 rfl rfl rfl True.intro rfl rfl rfl k9) ?_
    refine RX.st (fun _ k9 => r_lsto cd_336_39 rfl rfl (L' := [aR 0, aI ((a : Nat) : Int), aI ((b : Nat) : Int), aW (.long (smF w)), aU, aI (passW w (a + b) 1), aW (.long (smF (passW w (a + b)))), aU, aU]) rfl k9) ?_
    refine RX.st (fun _ k9 => r_aldR cd_336_41 rfl rfl k9) ?_
    obtain ⟨h3, c3, C3, F3⟩ := x_149 C2 hI
    refine RX.st (fun _ k9 => r_cI c3 cd_336_42 rfl rfl rfl (rc0 k2 rfl) rfl rfl rfl k9) ?_
    obtain ⟨k3, -⟩ := id C3
    refine RX.st (fun _ k9 => r_pop cd_336_45 rfl rfl k9) ?_
    refine RX.st (fun _ k9 => r_aldR cd_336_46 rfl rfl k9) ?_
    refine RX.st (fun _ k9 => r_ild cd_336_47 rfl rfl k9) ?_
    obtain ⟨h4, c4, C4, F4, G4⟩ := ch_148 C3 G (by decide) a (by omega) (by omega) (by omega)
    refine RX.st (fun _ k9 => r_cI c4 cd_336_48 rfl rfl rfl (rc0 k3 rfl) rfl rfl rfl k9) ?_
    obtain ⟨k4, -⟩ := id C4
    refine RX.st (fun _ k9 => r_pop cd_336_51 rfl rfl k9) ?_
    refine RX.st (fun _ k9 => r_aldR cd_336_52 rfl rfl k9) ?_
    refine RX.st (fun _ k9 => r_ild cd_336_53 rfl rfl k9) ?_
    have ep := (pass_inv hI (n := a) (by omega)).2 1 (by omega) (by omega)
    rw [if_pos rfl] at ep
    obtain ⟨h5, c5, C5, F5, G5⟩ := ch_148 C4 G4 (pus_le (by decide)) b (by omega) (by omega) (by omega)
    rw [pass_add (w := w) (a := a) (b := b)] at c5 C5 G5
    refine RX.st (fun _ k9 => r_cI c5 cd_336_54 rfl rfl rfl (rc0 k4 rfl) rfl rfl rfl k9) ?_
    obtain ⟨k5, -⟩ := id C5
    refine RX.st (fun _ k9 => r_ild cd_336_57 rfl rfl k9) ?_
    refine RX.st (fun _ k9 => r_ic62e cd_336_59 rfl (rfl) k9) ?_
    refine RX.st (fun _ k9 => r_aldR cd_336_62 rfl rfl k9) ?_
    refine RX.st (fun _ k9 => r_cI (y_335 C5 G5.1.1) cd_336_63 rfl rfl rfl True.intro rfl rfl rfl k9) ?_
    refine RX.st (fun _ k9 => r_llo cd_336_66 rfl rfl k9) ?_
    refine RX.st (fun _ k9 => r_lcmp (v := 0) cd_336_68 rfl (lg_same _) k9) ?_
    refine RX.br (fun _ k8 k9 => r_if52 cd_336_69 rfl ⟨by omega, by omega⟩ k8 k9) (fun n3 => ?_) (fun n3 => ?_)
    · refine RX.st (fun _ k9 => r_con (v := 1) cd_336_72 rfl (by decide) k9) ?_
      refine RX.st (fun _ k9 => r_goto cd_336_73 k9) ?_
      refine RX.st (fun _ k9 => r_ist cd_336_77 rfl rfl (L' := [aR 0, aI ((a : Nat) : Int), aI ((b : Nat) : Int), aW (.long (smF w)), aU, aI (passW w (a + b) 1), aW (.long (smF (passW w (a + b)))), aU, aI 1]) rfl k9) ?_
      refine RX.st (fun _ k9 => r_aldR cd_336_79 rfl rfl k9) ?_
      obtain ⟨h6, c6, C6, F6⟩ := x_149 C5 hI
      have F9 : Fc h h6 := F1.tr (F2.tr (F3.tr (F4.tr (F5.tr F6))))
      refine RX.st (fun _ k9 => r_cI c6 cd_336_80 rfl rfl rfl (rc0 k5 rfl) rfl rfl rfl k9) ?_
      obtain ⟨k6, -⟩ := id C6
      refine RX.st (fun _ k9 => r_pop cd_336_83 rfl rfl k9) ?_
      refine RX.st (fun _ k9 => r_ild cd_336_84 rfl rfl k9) ?_
      refine RX.br (fun _ k8 k9 => r_if51 cd_336_86 rfl ⟨by omega, by omega⟩ k8 k9) (fun n4 => ?_) (fun n4 => ?_)
      · exact absurd n4 (by decide)
      · refine RX.st (fun _ k9 => r_aldR cd_336_89 rfl rfl k9) ?_
        refine RX.st (fun _ k9 => r_cI (y_335 C6 hI) cd_336_90 rfl rfl rfl True.intro rfl rfl rfl k9) ?_
        refine RX.st (fun _ k9 => r_llo cd_336_93 rfl rfl k9) ?_
        refine RX.st (fun _ k9 => r_lcmp (v := 0) cd_336_94 rfl (lg_same _) k9) ?_
        refine RX.br (fun _ k8 k9 => r_if52 cd_336_95 rfl ⟨by omega, by omega⟩ k8 k9) (fun n5 => ?_) (fun n5 => ?_)
        · refine RX.st (fun _ k9 => r_con (v := 1) cd_336_98 rfl (by decide) k9) ?_
          refine RX.st (fun _ k9 => r_goto cd_336_99 k9) ?_
          exact ⟨_, ⟨h6, [], some w, rfl, C6, F9, by decide⟩, r_ret cd_336_103 (Or.inr rfl) rfl⟩
        · exact absurd n5 (by decide)
    · exact absurd n3 (by decide)
end SAME
theorem first_ac : (decide (fiW 9 = lftS fiW + fiW 10) && decide (fiW 7 = 0) && decide (1 ≤ fiW 5) && decide (1 ≤ fiW 6) && decide (fiW 4 ≤ 5)) = true := by decide +kernel
theorem first_gd : Gd 0 fiW ∧ fiW 4 ≤ 5 := by
  have h := first_ac
  simp only [Bool.and_eq_true, decide_eq_true_eq] at h
  obtain ⟨⟨⟨⟨h1, h2⟩, h3⟩, h4⟩, h5⟩ := h
  exact ⟨⟨fi_iz.1, h1, ⟨by omega, by omega⟩, h3, h4⟩, h5⟩
theorem pus_on {w : Nat → Int} {ps : List (Nat → Int)} (h : ps.length < 8) : pus w ps = w :: ps := List.take_of_length_le (by simp; omega)
section LAW
variable {bu : Nat → Int} {rp : Nat → Int} {X : Nat × (Nat → Int)}
theorem ll_387 (hX : X.1 ≤ 260) : ∀ (m i : Nat) {h : aH} {w : Nat → Int} {ps : List (Nat → Int)} {kp : Option (Nat → Int)} (u3 u4 u5 u6 u7 : aV), i + m = 14 → h.1 = X → CR h w ps kp 0 bu 0 (-1) 0 rp → Gd (7 + i) w → ps.length ≤ 8 → RX 11 387 (fun r => ∃ h', r = (.inl (some (aI 1)), h')) (29, [aC 0, aR 0, aI ((i : Nat) : Int), u3, u4, u5, u6, u7], [], 226, 3612, h) := by
  intro m
  induction m with
  | zero =>
    intro i h w ps kp u3 u4 u5 u6 u7 hm hx C G hl
    have hI := G.1.1
    obtain ⟨h0, -⟩ := id C
    refine RX.st (fun _ k9 => r_ild cd_387_29 rfl rfl k9) ?_
    refine RX.st (fun _ k9 => r_con (v := 14) cd_387_30 rfl (by decide) k9) ?_
    refine RX.br (fun _ k8 k9 => r_ic64 cd_387_32 rfl ⟨by omega, by omega⟩ ⟨by omega, by omega⟩ k8 k9) (fun n1 => ?_) (fun n1 => ?_)
    · exact absurd n1 (by omega)
    · refine RX.st (fun _ k9 => r_aldR cd_387_180 rfl rfl k9) ?_
      refine RX.st (fun _ k9 => r_con (v := 1) cd_387_181 rfl (by decide) k9) ?_
      refine RX.st (fun _ k9 => r_aldC cd_387_182 rfl rfl k9) ?_
      refine RX.st (fun _ k9 => r_con (v := 0) cd_387_183 rfl (by decide) k9) ?_
      refine RX.st (fun _ k9 => r_cI (y_331 (by rw [hx]; exact hX) 0 (by omega)) cd_387_184 rfl rfl rfl True.intro rfl rfl rfl k9) ?_
      refine RX.st (fun _ k9 => r_con (v := 4) cd_387_187 rfl (by decide) k9) ?_
      refine RX.st (fun _ k9 => r_ushr cd_387_188 rfl k9) ?_
      refine RX.st (fun _ k9 => r_con (v := 7) cd_387_189 rfl (by decide) k9) ?_
      obtain ⟨a1, ha1, ea1⟩ := and_nn (ushrI (cel h 0) 4) 7 (by decide)
      refine RX.st (fun _ k9 => r_and cd_387_191 rfl k9) ?_
      rw [show andI (ushrI (cel h 0) 4) 7 = ((a1 : Nat) : Int) from ea1]
      refine RX.st (fun _ k9 => r_add (v := ((1 + a1 : Nat) : Int)) cd_387_192 rfl (by omega) k9) ?_
      refine RX.st (fun _ k9 => r_con (v := 1) cd_387_193 rfl (by decide) k9) ?_
      refine RX.st (fun _ k9 => r_aldC cd_387_194 rfl rfl k9) ?_
      refine RX.st (fun _ k9 => r_con (v := 1) cd_387_195 rfl (by decide) k9) ?_
      refine RX.st (fun _ k9 => r_cI (y_331 (by rw [hx]; exact hX) 1 (by omega)) cd_387_196 rfl rfl rfl True.intro rfl rfl rfl k9) ?_
      refine RX.st (fun _ k9 => r_con (v := 4) cd_387_199 rfl (by decide) k9) ?_
      refine RX.st (fun _ k9 => r_ushr cd_387_200 rfl k9) ?_
      refine RX.st (fun _ k9 => r_con (v := 15) cd_387_201 rfl (by decide) k9) ?_
      obtain ⟨a2, ha2, ea2⟩ := and_nn (ushrI (cel h 1) 4) 15 (by decide)
      refine RX.st (fun _ k9 => r_and cd_387_203 rfl k9) ?_
      rw [show andI (ushrI (cel h 1) 4) 15 = ((a2 : Nat) : Int) from ea2]
      refine RX.st (fun _ k9 => r_add (v := ((1 + a2 : Nat) : Int)) cd_387_204 rfl (by omega) k9) ?_
      obtain ⟨g7, qs7, qp7, d7, D7, E7, hl7⟩ := y_336 C G hl (1 + a1) (1 + a2) ⟨by omega, by omega⟩ ⟨by omega, by omega⟩
      refine RX.st (fun _ k9 => r_cI d7 cd_387_205 rfl rfl rfl True.intro rfl rfl rfl k9) ?_
      obtain ⟨k7, -⟩ := id D7
      have hx7 := E7.2.1.trans hx
      exact ⟨_, ⟨_, rfl⟩, r_ret cd_387_208 (Or.inr rfl) rfl⟩
  | succ m ih =>
    intro i h w ps kp u3 u4 u5 u6 u7 hm hx C G hl
    have hI := G.1.1
    obtain ⟨h0, -⟩ := id C
    refine RX.st (fun _ k9 => r_ild cd_387_29 rfl rfl k9) ?_
    refine RX.st (fun _ k9 => r_con (v := 14) cd_387_30 rfl (by decide) k9) ?_
    refine RX.br (fun _ k8 k9 => r_ic64 cd_387_32 rfl ⟨by omega, by omega⟩ ⟨by omega, by omega⟩ k8 k9) (fun n1 => ?_) (fun n1 => ?_)
    · refine RX.st (fun _ k9 => r_aldC cd_387_35 rfl rfl k9) ?_
      refine RX.st (fun _ k9 => r_ild cd_387_36 rfl rfl k9) ?_
      refine RX.st (fun _ k9 => r_cI (y_331 (by rw [hx]; exact hX) i (by omega)) cd_387_37 rfl rfl rfl True.intro rfl rfl rfl k9) ?_
      refine RX.st (fun _ k9 => r_ist cd_387_40 rfl rfl (L' := [aC 0, aR 0, aI ((i : Nat) : Int), aI (cel h i), u4, u5, u6, u7]) rfl k9) ?_
      refine RX.st (fun _ k9 => r_aldR cd_387_41 rfl rfl k9) ?_
      refine RX.st (fun _ k9 => r_cI (x_110 C) cd_387_42 rfl rfl rfl (rc0 h0 rfl) rfl rfl rfl k9) ?_
      refine RX.st (fun _ k9 => r_ist cd_387_45 rfl rfl (L' := [aC 0, aR 0, aI ((i : Nat) : Int), aI (cel h i), aI ((ps.length : Nat) : Int), u5, u6, u7]) rfl k9) ?_
      refine RX.st (fun _ k9 => r_aldR cd_387_47 rfl rfl k9) ?_
      refine RX.st (fun _ k9 => r_cI (y_335 C hI) cd_387_48 rfl rfl rfl True.intro rfl rfl rfl k9) ?_
      refine RX.st (fun _ k9 => r_lsto cd_387_51 rfl rfl (L' := [aC 0, aR 0, aI ((i : Nat) : Int), aI (cel h i), aI ((ps.length : Nat) : Int), aW (.long (smF w)), aU, u7]) rfl k9) ?_
      refine RX.st (fun _ k9 => r_aldR cd_387_53 rfl rfl k9) ?_
      refine RX.st (fun _ k9 => r_ild cd_387_54 rfl rfl k9) ?_
      obtain ⟨h1, w1, ps1, c1, C1, F1, G1, D1⟩ := y_334 C G hl (cel h i)
      refine RX.st (fun _ k9 => r_cV c1 cd_387_55 rfl rfl rfl True.intro rfl rfl rfl k9) ?_
      obtain ⟨k1, -⟩ := id C1
      have hl1 : ps1.length ≤ 8 := by
        rcases D1 with ⟨-, e⟩ | e
        · rw [e]; exact hl
        · rw [e]; exact pus_le hl
      have hx1 := F1.2.1.trans hx
      refine RX.st (fun _ k9 => r_aldR cd_387_58 rfl rfl k9) ?_
      refine RX.st (fun _ k9 => r_cI (x_110 C1) cd_387_59 rfl rfl rfl (rc0 k1 rfl) rfl rfl rfl k9) ?_
      refine RX.st (fun _ k9 => r_ild cd_387_62 rfl rfl k9) ?_
      refine RX.br (fun _ k8 k9 => r_ic66 cd_387_64 rfl ⟨by omega, by omega⟩ ⟨by omega, by omega⟩ k8 k9) (fun n2 => ?_) (fun n2 => ?_)
      · refine RX.st (fun _ k9 => r_con (v := 1) cd_387_67 rfl (by decide) k9) ?_
        refine RX.st (fun _ k9 => r_goto cd_387_68 k9) ?_
        refine RX.st (fun _ k9 => r_ist cd_387_72 rfl rfl (L' := [aC 0, aR 0, aI ((i : Nat) : Int), aI (cel h i), aI ((ps.length : Nat) : Int), aW (.long (smF w)), aU, aI 1]) rfl k9) ?_
        refine RX.st (fun _ k9 => r_aldR cd_387_74 rfl rfl k9) ?_
        refine RX.st (fun _ k9 => r_cI (y_333 C1 G1 (by omega)) cd_387_75 rfl rfl rfl True.intro rfl rfl rfl k9) ?_
        refine RX.br (fun _ k8 k9 => r_if51 cd_387_78 rfl ⟨by omega, by omega⟩ k8 k9) (fun n3 => ?_) (fun n3 => ?_)
        · exact absurd n3 (by decide)
        · refine RX.st (fun _ k9 => r_ild cd_387_81 rfl rfl k9) ?_
          refine RX.br (fun _ k8 k9 => r_if52 cd_387_83 rfl ⟨by omega, by omega⟩ k8 k9) (fun n4 => ?_) (fun n4 => ?_)
          · exact absurd n4 (by decide)
          · refine RX.st (fun _ k9 => r_ild cd_387_105 rfl rfl k9) ?_
            refine RX.br (fun _ k8 k9 => r_if51 cd_387_107 rfl ⟨by omega, by omega⟩ k8 k9) (fun n5 => ?_) (fun n5 => ?_)
            · exact absurd n5 (by decide)
            · refine RX.st (fun _ k9 => r_ild cd_387_110 rfl rfl k9) ?_
              refine RX.st (fun _ k9 => r_con (v := 29) cd_387_111 rfl (by decide) k9) ?_
              refine RX.st (fun _ k9 => r_ushr cd_387_113 rfl k9) ?_
              refine RX.st (fun _ k9 => r_con (v := 3) cd_387_114 rfl (by decide) k9) ?_
              obtain ⟨a4, ha4, ea4⟩ := and_nn (ushrI (cel h i) 29) 3 (by decide)
              refine RX.st (fun _ k9 => r_and cd_387_115 rfl k9) ?_
              rw [show andI (ushrI (cel h i) 29) 3 = ((a4 : Nat) : Int) from ea4]
              refine RX.st (fun _ k9 => r_con (v := 1) cd_387_116 rfl (by decide) k9) ?_
              refine RX.br (fun _ k8 k9 => r_ic62 cd_387_117 rfl ⟨by omega, by omega⟩ ⟨by omega, by omega⟩ k8 k9) (fun n6 => ?_) (fun n6 => ?_)
              · refine RX.st (fun _ k9 => r_aldR cd_387_120 rfl rfl k9) ?_
                have e9 : ps1 = w :: ps := by
                  rcases D1 with ⟨-, e⟩ | e
                  · exact absurd n2 (by rw [e]; omega)
                  · rw [e]; refine pus_on ?_
                    rw [e, pus_len hl] at n2
                    by_cases e8 : ps.length = 8
                    · rw [if_pos e8] at n2; omega
                    · omega
                have l9 : ps.length < 8 := by have := hl1; rw [e9] at this; simp at this; omega
                rw [e9] at C1
                obtain ⟨h2, c2, C2, F2⟩ := x_109 C1 l9 hI
                refine RX.st (fun _ k9 => r_cI c2 cd_387_121 rfl rfl rfl (rc0 k1 rfl) rfl rfl rfl k9) ?_
                obtain ⟨k2, -⟩ := id C2
                have hx2 := F2.2.1.trans hx1
                have G2 : Gd (7 + i + 1) w := G.mo
                refine RX.st (fun _ k9 => r_ild cd_387_124 rfl rfl k9) ?_
                refine RX.st (fun _ k9 => r_ic62e cd_387_126 rfl (rfl) k9) ?_
                refine RX.st (fun _ k9 => r_aldR cd_387_129 rfl rfl k9) ?_
                refine RX.st (fun _ k9 => r_cI (y_335 C2 hI) cd_387_130 rfl rfl rfl True.intro rfl rfl rfl k9) ?_
                refine RX.st (fun _ k9 => r_llo cd_387_133 rfl rfl k9) ?_
                refine RX.st (fun _ k9 => r_lcmp (v := 0) cd_387_135 rfl (lg_same _) k9) ?_
                refine RX.br (fun _ k8 k9 => r_if51 cd_387_136 rfl ⟨by omega, by omega⟩ k8 k9) (fun n8 => ?_) (fun n8 => ?_)
                · refine RX.st (fun _ k9 => r_ild cd_387_141 rfl rfl k9) ?_
                  refine RX.st (fun _ k9 => r_con (v := 5) cd_387_142 rfl (by decide) k9) ?_
                  refine RX.st (fun _ k9 => r_rem cd_387_143 rfl (by omega) (by omega) (by omega) (by omega) k9) ?_
                  rw [show ((i : Nat) : Int) % 5 = ((i % 5 : Nat) : Int) from by omega]
                  refine RX.st (fun _ k9 => r_con (v := 4) cd_387_144 rfl (by decide) k9) ?_
                  refine RX.br (fun _ k8 k9 => r_ic62 cd_387_145 rfl ⟨by omega, by omega⟩ ⟨by omega, by omega⟩ k8 k9) (fun n9 => ?_) (fun n9 => ?_)
                  · refine RX.st (fun _ k9 => r_aldR cd_387_148 rfl rfl k9) ?_
                    refine RX.st (fun _ k9 => r_con (v := 1) cd_387_149 rfl (by decide) k9) ?_
                    refine RX.st (fun _ k9 => r_ild cd_387_150 rfl rfl k9) ?_
                    refine RX.st (fun _ k9 => r_con (v := 5) cd_387_151 rfl (by decide) k9) ?_
                    refine RX.st (fun _ k9 => r_ushr cd_387_152 rfl k9) ?_
                    refine RX.st (fun _ k9 => r_con (v := 7) cd_387_153 rfl (by decide) k9) ?_
                    obtain ⟨a5, ha5, ea5⟩ := and_nn (ushrI (cel h i) 5) 7 (by decide)
                    refine RX.st (fun _ k9 => r_and cd_387_155 rfl k9) ?_
                    rw [show andI (ushrI (cel h i) 5) 7 = ((a5 : Nat) : Int) from ea5]
                    refine RX.st (fun _ k9 => r_add (v := ((1 + a5 : Nat) : Int)) cd_387_156 rfl (by omega) k9) ?_
                    refine RX.st (fun _ k9 => r_con (v := 1) cd_387_157 rfl (by decide) k9) ?_
                    refine RX.st (fun _ k9 => r_ild cd_387_158 rfl rfl k9) ?_
                    refine RX.st (fun _ k9 => r_con (v := 8) cd_387_159 rfl (by decide) k9) ?_
                    refine RX.st (fun _ k9 => r_ushr cd_387_161 rfl k9) ?_
                    refine RX.st (fun _ k9 => r_con (v := 15) cd_387_162 rfl (by decide) k9) ?_
                    obtain ⟨a6, ha6, ea6⟩ := and_nn (ushrI (cel h i) 8) 15 (by decide)
                    refine RX.st (fun _ k9 => r_and cd_387_164 rfl k9) ?_
                    rw [show andI (ushrI (cel h i) 8) 15 = ((a6 : Nat) : Int) from ea6]
                    refine RX.st (fun _ k9 => r_add (v := ((1 + a6 : Nat) : Int)) cd_387_165 rfl (by omega) k9) ?_
                    obtain ⟨g8, qs8, qp8, d8, D8, E8, hl8⟩ := y_336 C2 G2 hl (1 + a5) (1 + a6) ⟨by omega, by omega⟩ ⟨by omega, by omega⟩
                    refine RX.st (fun _ k9 => r_cI d8 cd_387_166 rfl rfl rfl True.intro rfl rfl rfl k9) ?_
                    obtain ⟨k8, -⟩ := id D8
                    have hx8 := E8.2.1.trans hx2
                    refine RX.br (fun _ k8 k9 => r_if52 cd_387_169 rfl ⟨by omega, by omega⟩ k8 k9) (fun n10 => ?_) (fun n10 => ?_)
                    · exact absurd n10 (by decide)
                    · refine RX.st (fun _ k9 => r_inc (v := ((i + 1 : Nat) : Int)) cd_387_174 rfl rfl rfl (by omega) (L' := [aC 0, aR 0, aI ((i + 1 : Nat) : Int), aI (cel h i), aI ((ps.length : Nat) : Int), aW (.long (smF w)), aU, aI 1]) rfl k9) ?_
                      refine RX.st (fun _ k9 => r_goto cd_387_177 k9) ?_
                      exact ih (i + 1) _ _ _ _ _ (by omega) hx8 D8 (G2.le (by omega)) hl8
                  · refine RX.st (fun _ k9 => r_inc (v := ((i + 1 : Nat) : Int)) cd_387_174 rfl rfl rfl (by omega) (L' := [aC 0, aR 0, aI ((i + 1 : Nat) : Int), aI (cel h i), aI ((ps.length : Nat) : Int), aW (.long (smF w)), aU, aI 1]) rfl k9) ?_
                    refine RX.st (fun _ k9 => r_goto cd_387_177 k9) ?_
                    exact ih (i + 1) _ _ _ _ _ (by omega) hx2 C2 (G2.le (by omega)) hl
                · exact absurd n8 (by decide)
              · refine RX.st (fun _ k9 => r_ild cd_387_141 rfl rfl k9) ?_
                refine RX.st (fun _ k9 => r_con (v := 5) cd_387_142 rfl (by decide) k9) ?_
                refine RX.st (fun _ k9 => r_rem cd_387_143 rfl (by omega) (by omega) (by omega) (by omega) k9) ?_
                rw [show ((i : Nat) : Int) % 5 = ((i % 5 : Nat) : Int) from by omega]
                refine RX.st (fun _ k9 => r_con (v := 4) cd_387_144 rfl (by decide) k9) ?_
                refine RX.br (fun _ k8 k9 => r_ic62 cd_387_145 rfl ⟨by omega, by omega⟩ ⟨by omega, by omega⟩ k8 k9) (fun n11 => ?_) (fun n11 => ?_)
                · refine RX.st (fun _ k9 => r_aldR cd_387_148 rfl rfl k9) ?_
                  refine RX.st (fun _ k9 => r_con (v := 1) cd_387_149 rfl (by decide) k9) ?_
                  refine RX.st (fun _ k9 => r_ild cd_387_150 rfl rfl k9) ?_
                  refine RX.st (fun _ k9 => r_con (v := 5) cd_387_151 rfl (by decide) k9) ?_
                  refine RX.st (fun _ k9 => r_ushr cd_387_152 rfl k9) ?_
                  refine RX.st (fun _ k9 => r_con (v := 7) cd_387_153 rfl (by decide) k9) ?_
                  obtain ⟨a5, ha5, ea5⟩ := and_nn (ushrI (cel h i) 5) 7 (by decide)
                  refine RX.st (fun _ k9 => r_and cd_387_155 rfl k9) ?_
                  rw [show andI (ushrI (cel h i) 5) 7 = ((a5 : Nat) : Int) from ea5]
                  refine RX.st (fun _ k9 => r_add (v := ((1 + a5 : Nat) : Int)) cd_387_156 rfl (by omega) k9) ?_
                  refine RX.st (fun _ k9 => r_con (v := 1) cd_387_157 rfl (by decide) k9) ?_
                  refine RX.st (fun _ k9 => r_ild cd_387_158 rfl rfl k9) ?_
                  refine RX.st (fun _ k9 => r_con (v := 8) cd_387_159 rfl (by decide) k9) ?_
                  refine RX.st (fun _ k9 => r_ushr cd_387_161 rfl k9) ?_
                  refine RX.st (fun _ k9 => r_con (v := 15) cd_387_162 rfl (by decide) k9) ?_
                  obtain ⟨a6, ha6, ea6⟩ := and_nn (ushrI (cel h i) 8) 15 (by decide)
                  refine RX.st (fun _ k9 => r_and cd_387_164 rfl k9) ?_
                  rw [show andI (ushrI (cel h i) 8) 15 = ((a6 : Nat) : Int) from ea6]
                  refine RX.st (fun _ k9 => r_add (v := ((1 + a6 : Nat) : Int)) cd_387_165 rfl (by omega) k9) ?_
                  obtain ⟨g9, qs9, qp9, d9, D9, E9, hl9⟩ := y_336 C1 G1 hl1 (1 + a5) (1 + a6) ⟨by omega, by omega⟩ ⟨by omega, by omega⟩
                  refine RX.st (fun _ k9 => r_cI d9 cd_387_166 rfl rfl rfl True.intro rfl rfl rfl k9) ?_
                  obtain ⟨k9, -⟩ := id D9
                  have hx9 := E9.2.1.trans hx1
                  refine RX.br (fun _ k8 k9 => r_if52 cd_387_169 rfl ⟨by omega, by omega⟩ k8 k9) (fun n12 => ?_) (fun n12 => ?_)
                  · exact absurd n12 (by decide)
                  · refine RX.st (fun _ k9 => r_inc (v := ((i + 1 : Nat) : Int)) cd_387_174 rfl rfl rfl (by omega) (L' := [aC 0, aR 0, aI ((i + 1 : Nat) : Int), aI (cel h i), aI ((ps.length : Nat) : Int), aW (.long (smF w)), aU, aI 1]) rfl k9) ?_
                    refine RX.st (fun _ k9 => r_goto cd_387_177 k9) ?_
                    exact ih (i + 1) _ _ _ _ _ (by omega) hx9 D9 (G1.le (by omega)) hl9
                · refine RX.st (fun _ k9 => r_inc (v := ((i + 1 : Nat) : Int)) cd_387_174 rfl rfl rfl (by omega) (L' := [aC 0, aR 0, aI ((i + 1 : Nat) : Int), aI (cel h i), aI ((ps.length : Nat) : Int), aW (.long (smF w)), aU, aI 1]) rfl k9) ?_
                  refine RX.st (fun _ k9 => r_goto cd_387_177 k9) ?_
                  exact ih (i + 1) _ _ _ _ _ (by omega) hx1 C1 (G1.le (by omega)) hl1
      · refine RX.st (fun _ k9 => r_con (v := 0) cd_387_71 rfl (by decide) k9) ?_
        refine RX.st (fun _ k9 => r_ist cd_387_72 rfl rfl (L' := [aC 0, aR 0, aI ((i : Nat) : Int), aI (cel h i), aI ((ps.length : Nat) : Int), aW (.long (smF w)), aU, aI 0]) rfl k9) ?_
        refine RX.st (fun _ k9 => r_aldR cd_387_74 rfl rfl k9) ?_
        refine RX.st (fun _ k9 => r_cI (y_333 C1 G1 (by omega)) cd_387_75 rfl rfl rfl True.intro rfl rfl rfl k9) ?_
        refine RX.br (fun _ k8 k9 => r_if51 cd_387_78 rfl ⟨by omega, by omega⟩ k8 k9) (fun n13 => ?_) (fun n13 => ?_)
        · exact absurd n13 (by decide)
        · refine RX.st (fun _ k9 => r_ild cd_387_81 rfl rfl k9) ?_
          refine RX.br (fun _ k8 k9 => r_if52 cd_387_83 rfl ⟨by omega, by omega⟩ k8 k9) (fun n14 => ?_) (fun n14 => ?_)
          · refine RX.st (fun _ k9 => r_ild cd_387_86 rfl rfl k9) ?_
            refine RX.st (fun _ k9 => r_con (v := 8) cd_387_88 rfl (by decide) k9) ?_
            refine RX.br (fun _ k8 k9 => r_ic64 cd_387_90 rfl ⟨by omega, by omega⟩ ⟨by omega, by omega⟩ k8 k9) (fun n15 => ?_) (fun n15 => ?_)
            · refine RX.st (fun _ k9 => r_aldR cd_387_93 rfl rfl k9) ?_
              refine RX.st (fun _ k9 => r_cI (y_335 C1 G1.1.1) cd_387_94 rfl rfl rfl True.intro rfl rfl rfl k9) ?_
              refine RX.st (fun _ k9 => r_llo cd_387_97 rfl rfl k9) ?_
              have ew : w1 = w := by
                rcases D1 with ⟨e, -⟩ | e
                · exact e
                · exact absurd n2 (by rw [e, pus_on (by omega)]; simp only [List.length_cons]; omega)
              refine RX.st (fun _ k9 => r_lcmp (v := 0) cd_387_99 rfl (by rw [ew]; exact lg_same _) k9) ?_
              refine RX.br (fun _ k8 k9 => r_if51 cd_387_100 rfl ⟨by omega, by omega⟩ k8 k9) (fun n16 => ?_) (fun n16 => ?_)
              · refine RX.st (fun _ k9 => r_ild cd_387_105 rfl rfl k9) ?_
                refine RX.br (fun _ k8 k9 => r_if51 cd_387_107 rfl ⟨by omega, by omega⟩ k8 k9) (fun n17 => ?_) (fun n17 => ?_)
                · refine RX.st (fun _ k9 => r_ild cd_387_141 rfl rfl k9) ?_
                  refine RX.st (fun _ k9 => r_con (v := 5) cd_387_142 rfl (by decide) k9) ?_
                  refine RX.st (fun _ k9 => r_rem cd_387_143 rfl (by omega) (by omega) (by omega) (by omega) k9) ?_
                  rw [show ((i : Nat) : Int) % 5 = ((i % 5 : Nat) : Int) from by omega]
                  refine RX.st (fun _ k9 => r_con (v := 4) cd_387_144 rfl (by decide) k9) ?_
                  refine RX.br (fun _ k8 k9 => r_ic62 cd_387_145 rfl ⟨by omega, by omega⟩ ⟨by omega, by omega⟩ k8 k9) (fun n18 => ?_) (fun n18 => ?_)
                  · refine RX.st (fun _ k9 => r_aldR cd_387_148 rfl rfl k9) ?_
                    refine RX.st (fun _ k9 => r_con (v := 1) cd_387_149 rfl (by decide) k9) ?_
                    refine RX.st (fun _ k9 => r_ild cd_387_150 rfl rfl k9) ?_
                    refine RX.st (fun _ k9 => r_con (v := 5) cd_387_151 rfl (by decide) k9) ?_
                    refine RX.st (fun _ k9 => r_ushr cd_387_152 rfl k9) ?_
                    refine RX.st (fun _ k9 => r_con (v := 7) cd_387_153 rfl (by decide) k9) ?_
                    obtain ⟨a5, ha5, ea5⟩ := and_nn (ushrI (cel h i) 5) 7 (by decide)
                    refine RX.st (fun _ k9 => r_and cd_387_155 rfl k9) ?_
                    rw [show andI (ushrI (cel h i) 5) 7 = ((a5 : Nat) : Int) from ea5]
                    refine RX.st (fun _ k9 => r_add (v := ((1 + a5 : Nat) : Int)) cd_387_156 rfl (by omega) k9) ?_
                    refine RX.st (fun _ k9 => r_con (v := 1) cd_387_157 rfl (by decide) k9) ?_
                    refine RX.st (fun _ k9 => r_ild cd_387_158 rfl rfl k9) ?_
                    refine RX.st (fun _ k9 => r_con (v := 8) cd_387_159 rfl (by decide) k9) ?_
                    refine RX.st (fun _ k9 => r_ushr cd_387_161 rfl k9) ?_
                    refine RX.st (fun _ k9 => r_con (v := 15) cd_387_162 rfl (by decide) k9) ?_
                    obtain ⟨a6, ha6, ea6⟩ := and_nn (ushrI (cel h i) 8) 15 (by decide)
                    refine RX.st (fun _ k9 => r_and cd_387_164 rfl k9) ?_
                    rw [show andI (ushrI (cel h i) 8) 15 = ((a6 : Nat) : Int) from ea6]
                    refine RX.st (fun _ k9 => r_add (v := ((1 + a6 : Nat) : Int)) cd_387_165 rfl (by omega) k9) ?_
                    obtain ⟨g10, qs10, qp10, d10, D10, E10, hl10⟩ := y_336 C1 G1 hl1 (1 + a5) (1 + a6) ⟨by omega, by omega⟩ ⟨by omega, by omega⟩
                    refine RX.st (fun _ k9 => r_cI d10 cd_387_166 rfl rfl rfl True.intro rfl rfl rfl k9) ?_
                    obtain ⟨k10, -⟩ := id D10
                    have hx10 := E10.2.1.trans hx1
                    refine RX.br (fun _ k8 k9 => r_if52 cd_387_169 rfl ⟨by omega, by omega⟩ k8 k9) (fun n19 => ?_) (fun n19 => ?_)
                    · exact absurd n19 (by decide)
                    · refine RX.st (fun _ k9 => r_inc (v := ((i + 1 : Nat) : Int)) cd_387_174 rfl rfl rfl (by omega) (L' := [aC 0, aR 0, aI ((i + 1 : Nat) : Int), aI (cel h i), aI ((ps.length : Nat) : Int), aW (.long (smF w)), aU, aI 0]) rfl k9) ?_
                      refine RX.st (fun _ k9 => r_goto cd_387_177 k9) ?_
                      exact ih (i + 1) _ _ _ _ _ (by omega) hx10 D10 (G1.le (by omega)) hl10
                  · refine RX.st (fun _ k9 => r_inc (v := ((i + 1 : Nat) : Int)) cd_387_174 rfl rfl rfl (by omega) (L' := [aC 0, aR 0, aI ((i + 1 : Nat) : Int), aI (cel h i), aI ((ps.length : Nat) : Int), aW (.long (smF w)), aU, aI 0]) rfl k9) ?_
                    refine RX.st (fun _ k9 => r_goto cd_387_177 k9) ?_
                    exact ih (i + 1) _ _ _ _ _ (by omega) hx1 C1 (G1.le (by omega)) hl1
                · exact absurd n17 (by decide)
              · exact absurd n16 (by decide)
            · refine RX.st (fun _ k9 => r_ild cd_387_105 rfl rfl k9) ?_
              refine RX.br (fun _ k8 k9 => r_if51 cd_387_107 rfl ⟨by omega, by omega⟩ k8 k9) (fun n20 => ?_) (fun n20 => ?_)
              · refine RX.st (fun _ k9 => r_ild cd_387_141 rfl rfl k9) ?_
                refine RX.st (fun _ k9 => r_con (v := 5) cd_387_142 rfl (by decide) k9) ?_
                refine RX.st (fun _ k9 => r_rem cd_387_143 rfl (by omega) (by omega) (by omega) (by omega) k9) ?_
                rw [show ((i : Nat) : Int) % 5 = ((i % 5 : Nat) : Int) from by omega]
                refine RX.st (fun _ k9 => r_con (v := 4) cd_387_144 rfl (by decide) k9) ?_
                refine RX.br (fun _ k8 k9 => r_ic62 cd_387_145 rfl ⟨by omega, by omega⟩ ⟨by omega, by omega⟩ k8 k9) (fun n21 => ?_) (fun n21 => ?_)
                · refine RX.st (fun _ k9 => r_aldR cd_387_148 rfl rfl k9) ?_
                  refine RX.st (fun _ k9 => r_con (v := 1) cd_387_149 rfl (by decide) k9) ?_
                  refine RX.st (fun _ k9 => r_ild cd_387_150 rfl rfl k9) ?_
                  refine RX.st (fun _ k9 => r_con (v := 5) cd_387_151 rfl (by decide) k9) ?_
                  refine RX.st (fun _ k9 => r_ushr cd_387_152 rfl k9) ?_
                  refine RX.st (fun _ k9 => r_con (v := 7) cd_387_153 rfl (by decide) k9) ?_
                  obtain ⟨a5, ha5, ea5⟩ := and_nn (ushrI (cel h i) 5) 7 (by decide)
                  refine RX.st (fun _ k9 => r_and cd_387_155 rfl k9) ?_
                  rw [show andI (ushrI (cel h i) 5) 7 = ((a5 : Nat) : Int) from ea5]
                  refine RX.st (fun _ k9 => r_add (v := ((1 + a5 : Nat) : Int)) cd_387_156 rfl (by omega) k9) ?_
                  refine RX.st (fun _ k9 => r_con (v := 1) cd_387_157 rfl (by decide) k9) ?_
                  refine RX.st (fun _ k9 => r_ild cd_387_158 rfl rfl k9) ?_
                  refine RX.st (fun _ k9 => r_con (v := 8) cd_387_159 rfl (by decide) k9) ?_
                  refine RX.st (fun _ k9 => r_ushr cd_387_161 rfl k9) ?_
                  refine RX.st (fun _ k9 => r_con (v := 15) cd_387_162 rfl (by decide) k9) ?_
                  obtain ⟨a6, ha6, ea6⟩ := and_nn (ushrI (cel h i) 8) 15 (by decide)
                  refine RX.st (fun _ k9 => r_and cd_387_164 rfl k9) ?_
                  rw [show andI (ushrI (cel h i) 8) 15 = ((a6 : Nat) : Int) from ea6]
                  refine RX.st (fun _ k9 => r_add (v := ((1 + a6 : Nat) : Int)) cd_387_165 rfl (by omega) k9) ?_
                  obtain ⟨g11, qs11, qp11, d11, D11, E11, hl11⟩ := y_336 C1 G1 hl1 (1 + a5) (1 + a6) ⟨by omega, by omega⟩ ⟨by omega, by omega⟩
                  refine RX.st (fun _ k9 => r_cI d11 cd_387_166 rfl rfl rfl True.intro rfl rfl rfl k9) ?_
                  obtain ⟨k11, -⟩ := id D11
                  have hx11 := E11.2.1.trans hx1
                  refine RX.br (fun _ k8 k9 => r_if52 cd_387_169 rfl ⟨by omega, by omega⟩ k8 k9) (fun n22 => ?_) (fun n22 => ?_)
                  · exact absurd n22 (by decide)
                  · refine RX.st (fun _ k9 => r_inc (v := ((i + 1 : Nat) : Int)) cd_387_174 rfl rfl rfl (by omega) (L' := [aC 0, aR 0, aI ((i + 1 : Nat) : Int), aI (cel h i), aI ((ps.length : Nat) : Int), aW (.long (smF w)), aU, aI 0]) rfl k9) ?_
                    refine RX.st (fun _ k9 => r_goto cd_387_177 k9) ?_
                    exact ih (i + 1) _ _ _ _ _ (by omega) hx11 D11 (G1.le (by omega)) hl11
                · refine RX.st (fun _ k9 => r_inc (v := ((i + 1 : Nat) : Int)) cd_387_174 rfl rfl rfl (by omega) (L' := [aC 0, aR 0, aI ((i + 1 : Nat) : Int), aI (cel h i), aI ((ps.length : Nat) : Int), aW (.long (smF w)), aU, aI 0]) rfl k9) ?_
                  refine RX.st (fun _ k9 => r_goto cd_387_177 k9) ?_
                  exact ih (i + 1) _ _ _ _ _ (by omega) hx1 C1 (G1.le (by omega)) hl1
              · exact absurd n20 (by decide)
          · exact absurd n14 (by decide)
    · exact absurd n1 (by omega)
end LAW
theorem pure_ok : Pure := by
  intro n f hn hf
  suffices hs : ∃ res, (∃ h', res = (.inl (some (aI 1)), h')) ∧ Ct 11 387 [aC 0] ((n, f), 0, fun _ => dead) res by
    obtain ⟨res, ⟨h', e⟩, k9⟩ := hs
    subst e
    exact ⟨10, h', Nat.le_refl _, k9 11 (Nat.le_refl _)⟩
  have hX : ((n, f) : Nat × (Nat → Int)).1 ≤ 260 := hn
  obtain ⟨h1, c1, C1, x1, f1⟩ := x_106 (h := pz ((n, f), 0, fun _ => dead) 0 (newF 7)) (pz_at _ _ _) pz_f2 (fun _ => 0) (fun _ => 0)
  have x1 : h1.1 = (n, f) := x1
  obtain ⟨G1, g4⟩ := first_gd
  obtain ⟨k1, -⟩ := id C1
  refine Ct.ofx [aC 0, aU, aU, aU, aU, aU, aU, aU] rfl ?_
  refine RX.st (fun _ k9 => r_new (q := 0) cd_387_0 rfl rfl rfl rfl rfl k9) ?_
  rw [pw_eq (q := 0) rfl]
  refine RX.st (fun _ k9 => r_dup cd_387_3 rfl rfl k9) ?_
  refine RX.st (fun _ k9 => r_dV (k1 := 225) (k2 := 3604) (kc' := 226) (ks' := 3612) c1 cd_387_4 rfl rfl rfl True.intro rfl rfl rfl rfl (Nat.le_of_ble_eq_true rfl) (Nat.le_of_ble_eq_true rfl) rfl k9) ?_
  refine RX.st (fun _ k9 => r_astR cd_387_7 rfl rfl (L' := [aC 0, aR 0, aU, aU, aU, aU, aU, aU]) rfl k9) ?_
  refine RX.st (fun _ k9 => r_aldR cd_387_8 rfl rfl k9) ?_
  refine RX.st (fun _ k9 => r_aldC cd_387_9 rfl rfl k9) ?_
  refine RX.st (fun _ k9 => r_con (v := 14) cd_387_10 rfl (by decide) k9) ?_
  refine RX.st (fun _ k9 => r_cI (y_331 (by rw [x1]; exact hX) 14 (by omega)) cd_387_12 rfl rfl rfl True.intro rfl rfl rfl k9) ?_
  obtain ⟨h2, w2, ps2, c2, C2, F2, G2, hl2⟩ := y_332 C1 G1 (by decide) g4 (cel h1 14)
  refine RX.st (fun _ k9 => r_cV c2 cd_387_15 rfl rfl rfl True.intro rfl rfl rfl k9) ?_
  obtain ⟨k2, -⟩ := id C2
  have x2 := F2.2.1.trans x1
  refine RX.st (fun _ k9 => r_aldR cd_387_18 rfl rfl k9) ?_
  refine RX.st (fun _ k9 => r_cI (y_333 C2 G2 (by omega)) cd_387_19 rfl rfl rfl True.intro rfl rfl rfl k9) ?_
  refine RX.br (fun _ k8 k9 => r_if52 cd_387_22 rfl ⟨by omega, by omega⟩ k8 k9) (fun n1 => ?_) (fun n1 => ?_)
  · exact absurd n1 (by decide)
  · refine RX.st (fun _ k9 => r_con (v := 0) cd_387_27 rfl (by decide) k9) ?_
    refine RX.st (fun _ k9 => r_ist cd_387_28 rfl rfl (L' := [aC 0, aR 0, aI 0, aU, aU, aU, aU, aU]) rfl k9) ?_
    exact ll_387 hX 14 0 _ _ _ _ _ (by omega) x2 C2 (G2.le (by omega)) hl2
