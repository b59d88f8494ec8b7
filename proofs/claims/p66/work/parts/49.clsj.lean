/-! THE CLASS: drifting (written by wip/whole/gen49.py) -/
theorem sb_h {w : Nat → Int} {b k : Nat} {v : Int} (hb : b < 8) (hk : k = 0 ∨ k = 3) : hOf (sbo w b k v) b = hOf w b := by
  have e := (load_c (w := w) (u := sbo w b k v) sbo_pN (fun p _ => ⟨sbo_pa hb (by omega), sbo_pa hb (by omega), sbo_pa hb (by omega)⟩) b).1
  unfold hOf spare
  rw [e, sbo_bo (by omega) (by omega), sbo_bo (by omega) (by omega), if_neg (by omega), if_neg (by omega)]
theorem ca_1 {w : Nat → Int} {b x : Nat} (hb : b < 8) (hx : x < 30) (h3 : bo w b 3 = 1) (h : w (53 + x) < hOf w b) : ca1 w b ((x : Nat) : Int) = sbo w b 0 ((x : Nat) : Int) := by
  unfold ca1
  rw [Int.toNat_natCast, sbo_lo (by omega), sb_h hb (Or.inl rfl), if_pos h]
  have e : sbo w b 0 ((x : Nat) : Int) (83 + 4 * b + 3) = 1 := (vu_ne (by omega)).trans h3
  show va_up (sbo w b 0 ((x : Nat) : Int)) (83 + 4 * b + 3) 1 = _
  rw [← e]
  exact vu_id _ _
theorem ca_2 {w : Nat → Int} {b x : Nat} (hb : b < 8) (hx : x < 30) (h : ¬ w (53 + x) < hOf w b) : ca1 w b ((x : Nat) : Int) = sbo (sbo w b 0 ((x : Nat) : Int)) b 3 2 := by
  unfold ca1
  rw [Int.toNat_natCast, sbo_lo (by omega), sb_h hb (Or.inl rfl), if_neg h]
theorem lw_98 {B b : Nat} (g sense H : Int) (hg : -3 ≤ g ∧ g ≤ 3) (hsn : sense = 1 ∨ sense = -1) (hH : inR H) : ∀ (m k : Nat) {h : aH} {w : Nat → Int}, Rp h B w → Inv0 w → b < nB w → hOf w b = H → k + m = (absI g).toNat → ∃ h', (∀ t, RU 3 98 (.inl none, h') (32, [aR B, aI ((b : Nat) : Int), aI g, aI sense, aI H, aI ((k : Nat) : Int), t], [], 0, 0, h)) ∧ Rp h' B (carF b sense m w) ∧ Fr B h h' := by
  have hag : 0 ≤ absI g ∧ absI g ≤ 3 := by unfold absI; split <;> omega
  intro m
  induction m with
  | zero =>
    intro k h w hR hI hb hh hk
    obtain ⟨c, W, A⟩ := id hR
    obtain ⟨o0, o1, o2, o3, o4, o5, o6, o7, o8, o9, o10, o11, o12, o13, o14, o15, o16, o17⟩ := id W
    obtain ⟨a0, a1, a2, a3, a4, a5, a6, a7, a8, a9, a10, a11, a12, a13, a14⟩ := id A
    have hbn := hI.bNe
    have hpn := hI.pNe
    have x0 := hI.len
    have x1 := hI.hour
    have x2 := hI.gas
    have x3 := hI.leak
    have x4 := hI.gn
    have x5 := hI.bn
    have x6 := hI.pn
    have hb0 := hI.bs b (by omega)
    refine ⟨h, fun t => ?_, hR, Fr.rf⟩
    refine r_ild cd_98_32 rfl rfl ?_
    refine r_ild cd_98_34 rfl rfl ?_
    refine r_cI (k_374 g ⟨by omega, by omega⟩) cd_98_35 rfl rfl rfl True.intro rfl rfl rfl ?_
    refine r_ic64 cd_98_38 rfl ⟨by omega, by omega⟩ ⟨by unfold absI; split <;> omega, by unfold absI; split <;> omega⟩ (fun n1 => ?_) (fun n1 => ?_)
    · exact absurd n1 (by omega)
    · exact r_void cd_98_131 rfl (rfl)
  | succ m ih =>
    intro k h w hR hI hb hh hk
    obtain ⟨c, W, A⟩ := id hR
    obtain ⟨o0, o1, o2, o3, o4, o5, o6, o7, o8, o9, o10, o11, o12, o13, o14, o15, o16, o17⟩ := id W
    obtain ⟨a0, a1, a2, a3, a4, a5, a6, a7, a8, a9, a10, a11, a12, a13, a14⟩ := id A
    have hbn := hI.bNe
    have hpn := hI.pNe
    have x0 := hI.len
    have x1 := hI.hour
    have x2 := hI.gas
    have x3 := hI.leak
    have x4 := hI.gn
    have x5 := hI.bn
    have x6 := hI.pn
    have hb0 := hI.bs b (by omega)
    by_cases f1 : bo w b 3 = 1
    rotate_left
    · rw [show carF b sense (m + 1) w = w by rw [carF, if_pos f1]]
      refine ⟨h, fun t => ?_, hR, Fr.rf⟩
      refine r_ild cd_98_32 rfl rfl ?_
      refine r_ild cd_98_34 rfl rfl ?_
      refine r_cI (k_374 g ⟨by omega, by omega⟩) cd_98_35 rfl rfl rfl True.intro rfl rfl rfl ?_
      refine r_ic64 cd_98_38 rfl ⟨by omega, by omega⟩ ⟨by unfold absI; split <;> omega, by unfold absI; split <;> omega⟩ (fun n1 => ?_) (fun n1 => ?_)
      · refine r_aldR cd_98_41 rfl rfl ?_
        refine r_get cd_98_42 rfl o0 rfl ?_
        refine r_ild cd_98_45 rfl rfl ?_
        refine r_cI (k_4 hR hI b (by omega)) cd_98_46 rfl rfl rfl (rc0 o5 rfl) rfl rfl rfl ?_
        refine r_if51b cd_98_49 rfl (fun n2 => ?_) (fun n2 => ?_)
        · exact r_void cd_98_131 rfl (rfl)
        · exact absurd (of_decide_eq_true n2) f1
      · exact absurd n1 (by omega)
    have nf1 : ¬ ¬ bo w b 3 = 1 := fun e => e f1
    by_cases f2 : isPl w (bo w b 0 + sense) = true
    rotate_left
    · rw [show carF b sense (m + 1) w = w by rw [carF, if_neg nf1, if_pos (by simpa using f2)]]
      refine ⟨h, fun t => ?_, hR, Fr.rf⟩
      refine r_ild cd_98_32 rfl rfl ?_
      refine r_ild cd_98_34 rfl rfl ?_
      refine r_cI (k_374 g ⟨by omega, by omega⟩) cd_98_35 rfl rfl rfl True.intro rfl rfl rfl ?_
      refine r_ic64 cd_98_38 rfl ⟨by omega, by omega⟩ ⟨by unfold absI; split <;> omega, by unfold absI; split <;> omega⟩ (fun n1 => ?_) (fun n1 => ?_)
      · refine r_aldR cd_98_41 rfl rfl ?_
        refine r_get cd_98_42 rfl o0 rfl ?_
        refine r_ild cd_98_45 rfl rfl ?_
        refine r_cI (k_4 hR hI b (by omega)) cd_98_46 rfl rfl rfl (rc0 o5 rfl) rfl rfl rfl ?_
        refine r_if51b cd_98_49 rfl (fun n2 => ?_) (fun n2 => ?_)
        · exact absurd f1 (of_decide_eq_false n2)
        · refine r_aldR cd_98_52 rfl rfl ?_
          refine r_get cd_98_53 rfl o0 rfl ?_
          refine r_get cd_98_56 rfl o5 rfl ?_
          refine r_ild cd_98_59 rfl rfl ?_
          refine r_arr (i := b) cd_98_60 rfl o6 rfl (by omega) rfl ?_
          rw [a3 (b) (by omega)]
          refine r_ild cd_98_61 rfl rfl ?_
          refine r_add (v := bo w b 0 + sense) cd_98_62 rfl (by rfl) ?_
          refine r_ist cd_98_63 rfl rfl (L' := [aR B, aI ((b : Nat) : Int), aI g, aI sense, aI H, aI ((k : Nat) : Int), aI (bo w b 0 + sense)]) rfl ?_
          refine r_aldR cd_98_65 rfl rfl ?_
          refine r_get cd_98_66 rfl o0 rfl ?_
          refine r_ild cd_98_69 rfl rfl ?_
          refine r_cI (k_51 hR hI (bo w b 0 + sense) ⟨by omega, by omega⟩) cd_98_71 rfl rfl rfl (rc0 o1 rfl) rfl rfl rfl ?_
          refine r_if51b cd_98_74 rfl (fun n3 => ?_) (fun n3 => ?_)
          · exact r_void cd_98_92 rfl (rfl)
          · exact absurd n3 f2
      · exact absurd n1 (by omega)
    have g2 := isPl_iff.mp f2
    have nf2 : ¬ isPl w (bo w b 0 + sense) = false := by rw [f2]; simp
    obtain ⟨x, hx⟩ : ∃ x : Nat, bo w b 0 + sense = ((x : Nat) : Int) := ⟨(bo w b 0 + sense).toNat, by omega⟩
    have f2' : isPl w ((x : Nat) : Int) = true := by rw [← hx]; exact f2
    by_cases f3 : hOf w b < w (23 + x)
    · rw [show carF b sense (m + 1) w = w by rw [carF, if_neg nf1, if_neg nf2, hx, Int.toNat_natCast, if_pos f3]]
      refine ⟨h, fun t => ?_, hR, Fr.rf⟩
      refine r_ild cd_98_32 rfl rfl ?_
      refine r_ild cd_98_34 rfl rfl ?_
      refine r_cI (k_374 g ⟨by omega, by omega⟩) cd_98_35 rfl rfl rfl True.intro rfl rfl rfl ?_
      refine r_ic64 cd_98_38 rfl ⟨by omega, by omega⟩ ⟨by unfold absI; split <;> omega, by unfold absI; split <;> omega⟩ (fun n1 => ?_) (fun n1 => ?_)
      · refine r_aldR cd_98_41 rfl rfl ?_
        refine r_get cd_98_42 rfl o0 rfl ?_
        refine r_ild cd_98_45 rfl rfl ?_
        refine r_cI (k_4 hR hI b (by omega)) cd_98_46 rfl rfl rfl (rc0 o5 rfl) rfl rfl rfl ?_
        refine r_if51b cd_98_49 rfl (fun n2 => ?_) (fun n2 => ?_)
        · exact absurd f1 (of_decide_eq_false n2)
        · refine r_aldR cd_98_52 rfl rfl ?_
          refine r_get cd_98_53 rfl o0 rfl ?_
          refine r_get cd_98_56 rfl o5 rfl ?_
          refine r_ild cd_98_59 rfl rfl ?_
          refine r_arr (i := b) cd_98_60 rfl o6 rfl (by omega) rfl ?_
          rw [a3 (b) (by omega)]
          refine r_ild cd_98_61 rfl rfl ?_
          refine r_add (v := ((x : Nat) : Int)) cd_98_62 rfl (by exact hx) ?_
          refine r_ist cd_98_63 rfl rfl (L' := [aR B, aI ((b : Nat) : Int), aI g, aI sense, aI H, aI ((k : Nat) : Int), aI ((x : Nat) : Int)]) rfl ?_
          refine r_aldR cd_98_65 rfl rfl ?_
          refine r_get cd_98_66 rfl o0 rfl ?_
          refine r_ild cd_98_69 rfl rfl ?_
          refine r_cI (k_51 hR hI ((x : Nat) : Int) ⟨by omega, by omega⟩) cd_98_71 rfl rfl rfl (rc0 o1 rfl) rfl rfl rfl ?_
          refine r_if51b cd_98_74 rfl (fun n3 => ?_) (fun n3 => ?_)
          · exact Bool.noConfusion (n3.symm.trans f2')
          · refine r_aldR cd_98_77 rfl rfl ?_
            refine r_get cd_98_78 rfl o0 rfl ?_
            refine r_get cd_98_81 rfl o1 rfl ?_
            refine r_ild cd_98_84 rfl rfl ?_
            refine r_arr (i := x) cd_98_86 rfl o2 rfl (by omega) rfl ?_
            rw [a0 (x) (by omega)]
            refine r_ild cd_98_87 rfl rfl ?_
            refine r_ic66 cd_98_89 rfl (inR_of (hI.roofs (x) (by omega)) (by decide) (by decide)) hH (fun n4 => ?_) (fun n4 => ?_)
            · exact r_void cd_98_92 rfl (rfl)
            · exact absurd n4 (by omega)
      · exact absurd n1 (by omega)
    rw [show carF b sense (m + 1) w = carF b sense m (ca1 w b ((x : Nat) : Int)) by rw [carF, if_neg nf1, if_neg nf2, hx, Int.toNat_natCast, if_neg f3]]
    have hI1 : Inv0 (sbo w b 0 ((x : Nat) : Int)) := hI.setB (k := 0) hb (by omega) (by omega) (by omega) (by omega) (by omega)
    have R1 : Rp (sw h (B + 6) (.inl (0, 8, .inl (va_up (c 3) b ((x : Nat) : Int))))) B (sbo w b 0 ((x : Nat) : Int)) := ⟨_, (W.s3 (f := va_up (c 3) b ((x : Nat) : Int))).wk (fun j hj hn => sbo_lo (by omega)), A.sb (k := 0) hI (by omega) (by omega)⟩
    have e53 : sbo w b 0 ((x : Nat) : Int) (53 + x) = w (53 + x) := sbo_lo (by omega)
    have hh1 : hOf (sbo w b 0 ((x : Nat) : Int)) b = H := (sb_h (by omega) (Or.inl rfl)).trans hh
    by_cases f4 : w (53 + x) < H
    · rw [ca_1 (by omega) (by omega) f1 (by omega)]
      obtain ⟨j2, d2, R2, F2⟩ := ih (k + 1) R1 hI1 (by rw [sbo_bN]; exact hb) hh1 (by omega)
      refine ⟨j2, fun t => ?_, R2, (Fr.rf.sw (by omega) (by omega)).tr F2⟩
      refine r_ild cd_98_32 rfl rfl ?_
      refine r_ild cd_98_34 rfl rfl ?_
      refine r_cI (k_374 g ⟨by omega, by omega⟩) cd_98_35 rfl rfl rfl True.intro rfl rfl rfl ?_
      refine r_ic64 cd_98_38 rfl ⟨by omega, by omega⟩ ⟨by unfold absI; split <;> omega, by unfold absI; split <;> omega⟩ (fun n1 => ?_) (fun n1 => ?_)
      · refine r_aldR cd_98_41 rfl rfl ?_
        refine r_get cd_98_42 rfl o0 rfl ?_
        refine r_ild cd_98_45 rfl rfl ?_
        refine r_cI (k_4 hR hI b (by omega)) cd_98_46 rfl rfl rfl (rc0 o5 rfl) rfl rfl rfl ?_
        refine r_if51b cd_98_49 rfl (fun n2 => ?_) (fun n2 => ?_)
        · exact absurd f1 (of_decide_eq_false n2)
        · refine r_aldR cd_98_52 rfl rfl ?_
          refine r_get cd_98_53 rfl o0 rfl ?_
          refine r_get cd_98_56 rfl o5 rfl ?_
          refine r_ild cd_98_59 rfl rfl ?_
          refine r_arr (i := b) cd_98_60 rfl o6 rfl (by omega) rfl ?_
          rw [a3 (b) (by omega)]
          refine r_ild cd_98_61 rfl rfl ?_
          refine r_add (v := ((x : Nat) : Int)) cd_98_62 rfl (by exact hx) ?_
          refine r_ist cd_98_63 rfl rfl (L' := [aR B, aI ((b : Nat) : Int), aI g, aI sense, aI H, aI ((k : Nat) : Int), aI ((x : Nat) : Int)]) rfl ?_
          refine r_aldR cd_98_65 rfl rfl ?_
          refine r_get cd_98_66 rfl o0 rfl ?_
          refine r_ild cd_98_69 rfl rfl ?_
          refine r_cI (k_51 hR hI ((x : Nat) : Int) ⟨by omega, by omega⟩) cd_98_71 rfl rfl rfl (rc0 o1 rfl) rfl rfl rfl ?_
          refine r_if51b cd_98_74 rfl (fun n3 => ?_) (fun n3 => ?_)
          · exact Bool.noConfusion (n3.symm.trans f2')
          · refine r_aldR cd_98_77 rfl rfl ?_
            refine r_get cd_98_78 rfl o0 rfl ?_
            refine r_get cd_98_81 rfl o1 rfl ?_
            refine r_ild cd_98_84 rfl rfl ?_
            refine r_arr (i := x) cd_98_86 rfl o2 rfl (by omega) rfl ?_
            rw [a0 (x) (by omega)]
            refine r_ild cd_98_87 rfl rfl ?_
            refine r_ic66 cd_98_89 rfl (inR_of (hI.roofs (x) (by omega)) (by decide) (by decide)) hH (fun n4 => ?_) (fun n4 => ?_)
            · exact absurd n4 (by omega)
            · refine r_aldR cd_98_93 rfl rfl ?_
              refine r_get cd_98_94 rfl o0 rfl ?_
              refine r_get cd_98_97 rfl o5 rfl ?_
              refine r_ild cd_98_100 rfl rfl ?_
              refine r_ild cd_98_101 rfl rfl ?_
              refine r_arsI (i := b) cd_98_103 rfl rfl o6 rfl (by omega) rfl ?_
              refine r_aldR cd_98_104 rfl rfl ?_
              refine r_ild cd_98_105 rfl rfl ?_
              refine r_ild cd_98_107 rfl rfl ?_
              refine r_cI (k_82 R1 hI1 x H hH (by rw [sbo_lo (by decide)]; omega)) cd_98_109 rfl rfl rfl (rc0 ((sw_ne (by omega)).trans o0) rfl) rfl rfl rfl ?_
              refine r_if51b cd_98_112 rfl (fun n5 => ?_) (fun n5 => ?_)
              · refine r_inc (v := ((k + 1 : Nat) : Int)) cd_98_125 rfl rfl rfl (by omega) (L' := [aR B, aI ((b : Nat) : Int), aI g, aI sense, aI H, aI ((k + 1 : Nat) : Int), aI ((x : Nat) : Int)]) rfl ?_
                refine r_goto cd_98_128 ?_
                exact d2 _
              · exact absurd f4 (by rw [e53] at n5; simpa using n5)
      · exact absurd n1 (by omega)
    · rw [ca_2 (by omega) (by omega) (by omega)]
      have hI2 : Inv0 (sbo (sbo w b 0 ((x : Nat) : Int)) b 3 2) := hI1.setB (k := 3) (by rw [sbo_bN]; exact hb) (by omega) (by omega) (by omega) (by omega) (by omega)
      have R2 : Rp (sw (sw h (B + 6) (.inl (0, 8, .inl (va_up (c 3) b ((x : Nat) : Int))))) (B + 9) (.inl (0, 8, .inl (va_up (c 6) b 2)))) B (sbo (sbo w b 0 ((x : Nat) : Int)) b 3 2) := ⟨_, (((W.s3 (f := va_up (c 3) b ((x : Nat) : Int))).s6 (f := va_up (c 6) b 2)).wk (w' := sbo w b 0 ((x : Nat) : Int)) (fun j hj hn => sbo_lo (by omega))).wk (fun j hj hn => sbo_lo (by omega)), (A.sb (k := 0) (v := ((x : Nat) : Int)) hI (by omega) (by omega)).sb (k := 3) hI1 (by omega) (by omega)⟩
      obtain ⟨j2, d2, R3, F2⟩ := ih (k + 1) R2 hI2 (by rw [sbo_bN, sbo_bN]; exact hb) ((sb_h (by omega) (Or.inr rfl)).trans hh1) (by omega)
      refine ⟨j2, fun t => ?_, R3, ((Fr.rf.sw (by omega) (by omega)).sw (by omega) (by omega)).tr F2⟩
      refine r_ild cd_98_32 rfl rfl ?_
      refine r_ild cd_98_34 rfl rfl ?_
      refine r_cI (k_374 g ⟨by omega, by omega⟩) cd_98_35 rfl rfl rfl True.intro rfl rfl rfl ?_
      refine r_ic64 cd_98_38 rfl ⟨by omega, by omega⟩ ⟨by unfold absI; split <;> omega, by unfold absI; split <;> omega⟩ (fun n1 => ?_) (fun n1 => ?_)
      · refine r_aldR cd_98_41 rfl rfl ?_
        refine r_get cd_98_42 rfl o0 rfl ?_
        refine r_ild cd_98_45 rfl rfl ?_
        refine r_cI (k_4 hR hI b (by omega)) cd_98_46 rfl rfl rfl (rc0 o5 rfl) rfl rfl rfl ?_
        refine r_if51b cd_98_49 rfl (fun n2 => ?_) (fun n2 => ?_)
        · exact absurd f1 (of_decide_eq_false n2)
        · refine r_aldR cd_98_52 rfl rfl ?_
          refine r_get cd_98_53 rfl o0 rfl ?_
          refine r_get cd_98_56 rfl o5 rfl ?_
          refine r_ild cd_98_59 rfl rfl ?_
          refine r_arr (i := b) cd_98_60 rfl o6 rfl (by omega) rfl ?_
          rw [a3 (b) (by omega)]
          refine r_ild cd_98_61 rfl rfl ?_
          refine r_add (v := ((x : Nat) : Int)) cd_98_62 rfl (by exact hx) ?_
          refine r_ist cd_98_63 rfl rfl (L' := [aR B, aI ((b : Nat) : Int), aI g, aI sense, aI H, aI ((k : Nat) : Int), aI ((x : Nat) : Int)]) rfl ?_
          refine r_aldR cd_98_65 rfl rfl ?_
          refine r_get cd_98_66 rfl o0 rfl ?_
          refine r_ild cd_98_69 rfl rfl ?_
          refine r_cI (k_51 hR hI ((x : Nat) : Int) ⟨by omega, by omega⟩) cd_98_71 rfl rfl rfl (rc0 o1 rfl) rfl rfl rfl ?_
          refine r_if51b cd_98_74 rfl (fun n3 => ?_) (fun n3 => ?_)
          · exact Bool.noConfusion (n3.symm.trans f2')
          · refine r_aldR cd_98_77 rfl rfl ?_
            refine r_get cd_98_78 rfl o0 rfl ?_
            refine r_get cd_98_81 rfl o1 rfl ?_
            refine r_ild cd_98_84 rfl rfl ?_
            refine r_arr (i := x) cd_98_86 rfl o2 rfl (by omega) rfl ?_
            rw [a0 (x) (by omega)]
            refine r_ild cd_98_87 rfl rfl ?_
            refine r_ic66 cd_98_89 rfl (inR_of (hI.roofs (x) (by omega)) (by decide) (by decide)) hH (fun n4 => ?_) (fun n4 => ?_)
            · exact absurd n4 (by omega)
            · refine r_aldR cd_98_93 rfl rfl ?_
              refine r_get cd_98_94 rfl o0 rfl ?_
              refine r_get cd_98_97 rfl o5 rfl ?_
              refine r_ild cd_98_100 rfl rfl ?_
              refine r_ild cd_98_101 rfl rfl ?_
              refine r_arsI (i := b) cd_98_103 rfl rfl o6 rfl (by omega) rfl ?_
              refine r_aldR cd_98_104 rfl rfl ?_
              refine r_ild cd_98_105 rfl rfl ?_
              refine r_ild cd_98_107 rfl rfl ?_
              refine r_cI (k_82 R1 hI1 x H hH (by rw [sbo_lo (by decide)]; omega)) cd_98_109 rfl rfl rfl (rc0 ((sw_ne (by omega)).trans o0) rfl) rfl rfl rfl ?_
              refine r_if51b cd_98_112 rfl (fun n5 => ?_) (fun n5 => ?_)
              · exact absurd (by rw [e53] at n5; simpa using n5) f4
              · refine r_aldR cd_98_115 rfl rfl ?_
                refine r_get cd_98_116 rfl ((sw_ne (by omega)).trans o0) rfl ?_
                refine r_get cd_98_119 rfl ((sw_ne (by omega)).trans o5) rfl ?_
                refine r_ild cd_98_122 rfl rfl ?_
                refine r_con (v := 2) cd_98_123 rfl (by decide) ?_
                refine r_arsI (i := b) cd_98_124 rfl rfl ((sw_ne (by omega)).trans o9) rfl (by omega) rfl ?_
                refine r_inc (v := ((k + 1 : Nat) : Int)) cd_98_125 rfl rfl rfl (by omega) (L' := [aR B, aI ((b : Nat) : Int), aI g, aI sense, aI H, aI ((k + 1 : Nat) : Int), aI ((x : Nat) : Int)]) rfl ?_
                refine r_goto cd_98_128 ?_
                exact d2 _
      · exact absurd n1 (by omega)
theorem dr_e {w : Nat → Int} {b : Nat} : drG b w = carF b (sens (gustI w (w 1))) (absI (gustI w (w 1))).toNat w := by
  unfold drG
  by_cases f : bo w b 3 = 1
  · rw [if_pos f]; rfl
  · rw [if_neg f]
    cases (absI (gustI w (w 1))).toNat with
    | zero => rfl
    | succ m => rw [carF, if_pos f]
theorem v_98 {h : aH} {B : Nat} {w : Nat → Int} (hR : Rp h B w) (hI : Inv0 w) (b : Nat) (g0 : b < nB w) : ∃ h', Ct 3 98 [aR B, aI ((b : Nat) : Int)] h (.inl none, h') ∧ Rp h' B (drG b w) ∧ Fr B h h' := by
  obtain ⟨c, W, A⟩ := id hR
  obtain ⟨o0, o1, o2, o3, o4, o5, o6, o7, o8, o9, o10, o11, o12, o13, o14, o15, o16, o17⟩ := id W
  obtain ⟨a0, a1, a2, a3, a4, a5, a6, a7, a8, a9, a10, a11, a12, a13, a14⟩ := id A
  have hbn := hI.bNe
  have hpn := hI.pNe
  have x0 := hI.len
  have x1 := hI.hour
  have x2 := hI.gas
  have x3 := hI.leak
  have x4 := hI.gn
  have x5 := hI.bn
  have x6 := hI.pn
  have hb0 := hI.bs b (by omega)
  have hgb := gustI_b hI x1.1
  have hsn : sens (gustI w (w 1)) = 1 ∨ sens (gustI w (w 1)) = -1 := by unfold sens; split <;> simp
  rw [dr_e]
  obtain ⟨j2, d2, R2, F2⟩ := lw_98 (gustI w (w 1)) (sens (gustI w (w 1))) (hOf w b) hgb hsn (inR_of (hI.hgt g0) (by decide) (by decide)) (absI (gustI w (w 1))).toNat 0 hR hI g0 rfl (by omega)
  refine ⟨j2, Ct.of [aR B, aI ((b : Nat) : Int), aU, aU, aU, aU, aU] rfl ?_, R2, F2⟩
  by_cases hg0 : gustI w (w 1) < 0
  · rw [show sens (gustI w (w 1)) = -1 from if_pos hg0] at d2
    refine r_aldR cd_98_0 rfl rfl ?_
    refine r_get cd_98_1 rfl o0 rfl ?_
    refine r_aldR cd_98_4 rfl rfl ?_
    refine r_get cd_98_5 rfl o0 rfl ?_
    refine r_cI (k_56 hR hI (w 1) (inR_of hI.hour (by decide) (by decide)) (by omega) (by omega)) cd_98_8 rfl rfl rfl (rc0 o1 rfl) rfl rfl rfl ?_
    refine r_ist cd_98_11 rfl rfl (L' := [aR B, aI ((b : Nat) : Int), aI (gustI w (w 1)), aU, aU, aU, aU]) rfl ?_
    refine r_ild cd_98_12 rfl rfl ?_
    refine r_if54 cd_98_13 rfl (inR_of (gustI_b hI (by omega)) (by decide) (by decide)) (fun n1 => ?_) (fun n1 => ?_)
    · refine r_con (v := (-1)) cd_98_16 rfl (by decide) ?_
      refine r_goto cd_98_17 ?_
      refine r_ist cd_98_21 rfl rfl (L' := [aR B, aI ((b : Nat) : Int), aI (gustI w (w 1)), aI (-1), aU, aU, aU]) rfl ?_
      refine r_aldR cd_98_22 rfl rfl ?_
      refine r_ild cd_98_23 rfl rfl ?_
      refine r_cI (k_81 hR hI b (by omega)) cd_98_24 rfl rfl rfl (rc0 o0 rfl) rfl rfl rfl ?_
      refine r_ist cd_98_27 rfl rfl (L' := [aR B, aI ((b : Nat) : Int), aI (gustI w (w 1)), aI (-1), aI (hOf w b), aU, aU]) rfl ?_
      refine r_con (v := 0) cd_98_29 rfl (by decide) ?_
      refine r_ist cd_98_30 rfl rfl (L' := [aR B, aI ((b : Nat) : Int), aI (gustI w (w 1)), aI (-1), aI (hOf w b), aI 0, aU]) rfl ?_
      exact d2 _
    · exact absurd hg0 n1
  · rw [show sens (gustI w (w 1)) = 1 from if_neg hg0] at d2
    refine r_aldR cd_98_0 rfl rfl ?_
    refine r_get cd_98_1 rfl o0 rfl ?_
    refine r_aldR cd_98_4 rfl rfl ?_
    refine r_get cd_98_5 rfl o0 rfl ?_
    refine r_cI (k_56 hR hI (w 1) (inR_of hI.hour (by decide) (by decide)) (by omega) (by omega)) cd_98_8 rfl rfl rfl (rc0 o1 rfl) rfl rfl rfl ?_
    refine r_ist cd_98_11 rfl rfl (L' := [aR B, aI ((b : Nat) : Int), aI (gustI w (w 1)), aU, aU, aU, aU]) rfl ?_
    refine r_ild cd_98_12 rfl rfl ?_
    refine r_if54 cd_98_13 rfl (inR_of (gustI_b hI (by omega)) (by decide) (by decide)) (fun n1 => ?_) (fun n1 => ?_)
    · exact absurd n1 hg0
    · refine r_con (v := 1) cd_98_20 rfl (by decide) ?_
      refine r_ist cd_98_21 rfl rfl (L' := [aR B, aI ((b : Nat) : Int), aI (gustI w (w 1)), aI 1, aU, aU, aU]) rfl ?_
      refine r_aldR cd_98_22 rfl rfl ?_
      refine r_ild cd_98_23 rfl rfl ?_
      refine r_cI (k_81 hR hI b (by omega)) cd_98_24 rfl rfl rfl (rc0 o0 rfl) rfl rfl rfl ?_
      refine r_ist cd_98_27 rfl rfl (L' := [aR B, aI ((b : Nat) : Int), aI (gustI w (w 1)), aI 1, aI (hOf w b), aU, aU]) rfl ?_
      refine r_con (v := 0) cd_98_29 rfl (by decide) ?_
      refine r_ist cd_98_30 rfl rfl (L' := [aR B, aI ((b : Nat) : Int), aI (gustI w (w 1)), aI 1, aI (hOf w b), aI 0, aU]) rfl ?_
      exact d2 _
