/-! THE CLASS: choices and checks (written by wip/whole/gen43.py) -/
theorem k_57 {h : aH} {B : Nat} {w : Nat → Int} (hR : Rp h B w) (hI : Inv0 w) (x : Int) (hx : inR x) (g0 : 0 ≤ x) (g1 : x ≤ 100000) : Ct 1 57 [aR (B + 1), aI x] h (.inl (some (aI (bz (decide ((x + 1) % w 3 = 0))))), h) := by
  obtain ⟨c, ⟨o0, o1, o2, o3, o4, o5, o6, o7, o8, o9, o10, o11, o12, o13, o14, o15, o16, o17⟩, a0, a1, a2, a3, a4, a5, a6, a7, a8, a9, a10, a11, a12, a13, a14⟩ := id hR
  have hbn := hI.bNe
  have hpn := hI.pNe
  have x0 := hI.len
  have x1 := hI.hour
  have x2 := hI.gas
  have x3 := hI.leak
  have x4 := hI.gn
  have x5 := hI.bn
  have x6 := hI.pn
  have hm0 := Int.emod_nonneg (x + 1) (b := w 3) (by omega)
  have hm1 := Int.emod_lt_of_pos (x + 1) (b := w 3) (by omega)
  refine Ct.of [aR (B + 1), aI x] rfl ?_
  refine r_aldR cd_57_0 rfl rfl ?_
  refine r_get cd_57_1 rfl o1 rfl ?_
  refine r_if56 cd_57_4 rfl (inR_of hI.leak (by decide) (by decide)) (fun n1 => ?_) (fun n1 => ?_)
  · refine r_ild cd_57_7 rfl rfl ?_
    refine r_con (v := 1) cd_57_8 rfl (by decide) ?_
    refine r_add (v := x + 1) cd_57_9 rfl (by rfl) ?_
    refine r_aldR cd_57_10 rfl rfl ?_
    refine r_get cd_57_11 rfl o1 rfl ?_
    refine r_rem cd_57_14 rfl (by omega) (by omega) (by omega) (by omega) ?_
    refine r_if52 cd_57_15 rfl ⟨by omega, by omega⟩ (fun n2 => ?_) (fun n2 => ?_)
    · refine r_con (v := 1) cd_57_18 rfl (by decide) ?_
      refine r_goto cd_57_19 ?_
      exact r_ret cd_57_23 (Or.inr rfl) (rB (by first | rfl | (simp [bz, n1, n2]; done) | (simp [bz, n1, n2]; omega) | (exact bz_t (by simp only [Bool.and_eq_true, Bool.or_eq_true, Bool.not_eq_true', decide_eq_true_eq, decide_eq_false_iff_not]; omega))))
    · refine r_con (v := 0) cd_57_22 rfl (by decide) ?_
      exact r_ret cd_57_23 (Or.inl rfl) (rB (by first | rfl | (simp [bz, n1, n2]; done) | (simp [bz, n1, n2]; omega) | (exact bz_f (by simp only [Bool.and_eq_true, Bool.or_eq_true, Bool.not_eq_true', decide_eq_true_eq, decide_eq_false_iff_not]; omega))))
  · refine r_con (v := 0) cd_57_22 rfl (by decide) ?_
    exact r_ret cd_57_23 (Or.inl rfl) (rB (by first | rfl | (simp [bz, n1]; done) | (simp [bz, n1]; omega) | (exact bz_f (by simp only [Bool.and_eq_true, Bool.or_eq_true, Bool.not_eq_true', decide_eq_true_eq, decide_eq_false_iff_not]; omega))))
theorem lk_25 {h : aH} {B : Nat} {w : Nat → Int} (hR : Rp h B w) (hI : Inv0 w) (b : Nat) (hb : b < 8) : ∀ (m i : Nat) (acc sv r : Int) (t : aV), i + m = nP w → -1 ≤ acc → acc < i → (¬ acc = -1 → sv = pa w acc.toNat 0) → (acc = -1 → sv = 0) → inR sv → r = itF (hvG w b) i m acc → RU 1 25 (.inl (some (aI r)), h) (7, [aR (B + 10), aI ((b : Nat) : Int), aI acc, aI sv, aI ((i : Nat) : Int)], [], 0, 0, h) := by
  obtain ⟨c, ⟨o0, o1, o2, o3, o4, o5, o6, o7, o8, o9, o10, o11, o12, o13, o14, o15, o16, o17⟩, a0, a1, a2, a3, a4, a5, a6, a7, a8, a9, a10, a11, a12, a13, a14⟩ := id hR
  have hbn := hI.bNe
  have hpn := hI.pNe
  have x0 := hI.len
  have x1 := hI.hour
  have x2 := hI.gas
  have x3 := hI.leak
  have x4 := hI.gn
  have x5 := hI.bn
  have x6 := hI.pn
  intro m
  induction m with
  | zero =>
    intro i acc sv r t hm ha1 ha2 hs hs0 hsr hr
    refine r_ild cd_25_7 rfl rfl ?_
    refine r_aldR cd_25_9 rfl rfl ?_
    refine r_get cd_25_10 rfl o10 rfl ?_
    refine r_ic64 cd_25_13 rfl ⟨by omega, by omega⟩ (inR_of hI.pn (by decide) (by decide)) (fun n1 => ?_) (fun n1 => ?_)
    · exact absurd n1 (by omega)
    · refine r_ild cd_25_55 rfl rfl ?_
      exact r_ret cd_25_56 True.intro (rI hr)
  | succ m ih =>
    intro i acc sv r t hm ha1 ha2 hs hs0 hsr hr
    refine r_ild cd_25_7 rfl rfl ?_
    refine r_aldR cd_25_9 rfl rfl ?_
    refine r_get cd_25_10 rfl o10 rfl ?_
    refine r_ic64 cd_25_13 rfl ⟨by omega, by omega⟩ (inR_of hI.pn (by decide) (by decide)) (fun n1 => ?_) (fun n1 => ?_)
    · refine r_aldR cd_25_16 rfl rfl ?_
      refine r_get cd_25_17 rfl o10 rfl ?_
      refine r_ild cd_25_20 rfl rfl ?_
      refine r_arr (i := i) cd_25_22 rfl o16 rfl (by omega) rfl ?_
      rw [a12 (i) (by omega)]
      refine r_ild cd_25_23 rfl rfl ?_
      refine r_ic62 cd_25_24 rfl (hI.caR (p := i) (by omega)) ⟨by omega, by omega⟩ (fun n2 => ?_) (fun n2 => ?_)
      · have n2' := carr_iff.mp n2
        refine r_aldR cd_25_27 rfl rfl ?_
        refine r_get cd_25_28 rfl o10 rfl ?_
        refine r_ild cd_25_31 rfl rfl ?_
        refine r_arr (i := i) cd_25_33 rfl o11 rfl (by omega) rfl ?_
        rw [a7 (i) (by omega)]
        refine r_ild cd_25_34 rfl rfl ?_
        refine r_ic66 cd_25_35 rfl (hI.paR (p := i) (k := 0) (by omega) (by decide)) hsr (fun n3 => ?_) (fun n3 => ?_)
        · refine r_ild cd_25_38 rfl rfl ?_
          refine r_ist cd_25_40 rfl rfl (L' := [aR (B + 10), aI ((b : Nat) : Int), aI ((i : Nat) : Int), aI sv, aI ((i : Nat) : Int)]) rfl ?_
          refine r_aldR cd_25_41 rfl rfl ?_
          refine r_get cd_25_42 rfl o10 rfl ?_
          refine r_ild cd_25_45 rfl rfl ?_
          refine r_arr (i := i) cd_25_47 rfl o11 rfl (by omega) rfl ?_
          rw [a7 (i) (by omega)]
          refine r_ist cd_25_48 rfl rfl (L' := [aR (B + 10), aI ((b : Nat) : Int), aI ((i : Nat) : Int), aI (pa w i 0), aI ((i : Nat) : Int)]) rfl ?_
          refine r_inc (v := ((i + 1 : Nat) : Int)) cd_25_49 rfl rfl rfl (by omega) (L' := [aR (B + 10), aI ((b : Nat) : Int), aI ((i : Nat) : Int), aI (pa w i 0), aI ((i + 1 : Nat) : Int)]) rfl ?_
          refine r_goto cd_25_52 ?_
          exact ih (i + 1) ((i : Nat) : Int) (pa w i 0) r aU (by omega) (by omega) (by omega) (fun _ => by rw [Int.toNat_natCast]) (fun e => by omega) (hI.paR (p := i) (k := 0) (by omega) (by decide)) (hr.trans (itF_step (by unfold hvG; rw [if_pos ⟨n2', by by_cases e : acc = -1; exact Or.inl e; exact Or.inr (by rw [← hs e]; omega)⟩])))
        · refine r_inc (v := ((i + 1 : Nat) : Int)) cd_25_49 rfl rfl rfl (by omega) (L' := [aR (B + 10), aI ((b : Nat) : Int), aI acc, aI sv, aI ((i + 1 : Nat) : Int)]) rfl ?_
          refine r_goto cd_25_52 ?_
          exact ih (i + 1) acc sv r aU (by omega) ha1 (by omega) hs hs0 hsr (hr.trans (itF_step (by unfold hvG; rw [if_neg (by rintro ⟨-, e⟩; have hw0 := (hI.ps i (by omega)).1; by_cases e2 : acc = -1; have := hs0 e2; omega; have := hs e2; omega)])))
      · have n2' := carr_f n2
        refine r_inc (v := ((i + 1 : Nat) : Int)) cd_25_49 rfl rfl rfl (by omega) (L' := [aR (B + 10), aI ((b : Nat) : Int), aI acc, aI sv, aI ((i + 1 : Nat) : Int)]) rfl ?_
        refine r_goto cd_25_52 ?_
        exact ih (i + 1) acc sv r aU (by omega) ha1 (by omega) hs hs0 hsr (hr.trans (itF_step (by unfold hvG; rw [if_neg (by rintro ⟨e, -⟩; rw [n2'] at e; cases e)])))
    · exact absurd n1 (by omega)
theorem k_25 {h : aH} {B : Nat} {w : Nat → Int} (hR : Rp h B w) (hI : Inv0 w) (b : Nat) (g0 : b < 8) : Ct 1 25 [aR (B + 10), aI ((b : Nat) : Int)] h (.inl (some (aI (heavy w b))), h) := by
  obtain ⟨c, ⟨o0, o1, o2, o3, o4, o5, o6, o7, o8, o9, o10, o11, o12, o13, o14, o15, o16, o17⟩, a0, a1, a2, a3, a4, a5, a6, a7, a8, a9, a10, a11, a12, a13, a14⟩ := id hR
  have hbn := hI.bNe
  have hpn := hI.pNe
  have x0 := hI.len
  have x1 := hI.hour
  have x2 := hI.gas
  have x3 := hI.leak
  have x4 := hI.gn
  have x5 := hI.bn
  have x6 := hI.pn
  refine Ct.of [aR (B + 10), aI ((b : Nat) : Int), aU, aU, aU] rfl ?_
  refine r_con (v := (-1)) cd_25_0 rfl (by decide) ?_
  refine r_ist cd_25_1 rfl rfl (L' := [aR (B + 10), aI ((b : Nat) : Int), aI (-1), aU, aU]) rfl ?_
  refine r_con (v := 0) cd_25_2 rfl (by decide) ?_
  refine r_ist cd_25_3 rfl rfl (L' := [aR (B + 10), aI ((b : Nat) : Int), aI (-1), aI 0, aU]) rfl ?_
  refine r_con (v := 0) cd_25_4 rfl (by decide) ?_
  refine r_ist cd_25_5 rfl rfl (L' := [aR (B + 10), aI ((b : Nat) : Int), aI (-1), aI 0, aI 0]) rfl ?_
  exact lk_25 hR hI b g0 (nP w) 0 (-1) 0 _ aU (by omega) (by decide) (by decide) (fun e => absurd rfl e) (fun _ => rfl) ⟨by decide, by decide⟩ rfl
theorem lk_101 {h : aH} {B : Nat} {w : Nat → Int} (hR : Rp h B w) (hI : Inv0 w) : ∀ (m i : Nat) (acc r : Int), i + m = nB w → r = itF (ovrG w) i m acc → RU 3 101 (.inl (some (aI r)), h) (4, [aR B, aI acc, aI ((i : Nat) : Int)], [], 0, 0, h) := by
  obtain ⟨c, ⟨o0, o1, o2, o3, o4, o5, o6, o7, o8, o9, o10, o11, o12, o13, o14, o15, o16, o17⟩, a0, a1, a2, a3, a4, a5, a6, a7, a8, a9, a10, a11, a12, a13, a14⟩ := id hR
  have hbn := hI.bNe
  have hpn := hI.pNe
  have x0 := hI.len
  have x1 := hI.hour
  have x2 := hI.gas
  have x3 := hI.leak
  have x4 := hI.gn
  have x5 := hI.bn
  have x6 := hI.pn
  intro m
  induction m with
  | zero =>
    intro i acc r hm hr
    refine r_ild cd_101_4 rfl rfl ?_
    refine r_aldR cd_101_5 rfl rfl ?_
    refine r_get cd_101_6 rfl o0 rfl ?_
    refine r_get cd_101_9 rfl o5 rfl ?_
    refine r_ic64 cd_101_12 rfl ⟨by omega, by omega⟩ (inR_of hI.bn (by decide) (by decide)) (fun n1 => ?_) (fun n1 => ?_)
    · exact absurd n1 (by omega)
    · refine r_ild cd_101_44 rfl rfl ?_
      exact r_ret cd_101_45 True.intro (rI hr)
  | succ m ih =>
    intro i acc r hm hr
    refine r_ild cd_101_4 rfl rfl ?_
    refine r_aldR cd_101_5 rfl rfl ?_
    refine r_get cd_101_6 rfl o0 rfl ?_
    refine r_get cd_101_9 rfl o5 rfl ?_
    refine r_ic64 cd_101_12 rfl ⟨by omega, by omega⟩ (inR_of hI.bn (by decide) (by decide)) (fun n1 => ?_) (fun n1 => ?_)
    · refine r_aldR cd_101_15 rfl rfl ?_
      refine r_ild cd_101_16 rfl rfl ?_
      refine r_cI (k_78 hR hI i (by omega)) cd_101_17 rfl rfl rfl (rc0 o0 rfl) rfl rfl rfl ?_
      refine r_if56 cd_101_20 rfl (inR_of (hI.spr (b := i) (by omega)) (by decide) (by decide)) (fun n2 => ?_) (fun n2 => ?_)
      · refine r_aldR cd_101_23 rfl rfl ?_
        refine r_get cd_101_24 rfl o0 rfl ?_
        refine r_ild cd_101_27 rfl rfl ?_
        refine r_cI (k_19 hR hI i (by omega)) cd_101_28 rfl rfl rfl (rc0 o10 rfl) rfl rfl rfl ?_
        refine r_con (v := 4) cd_101_31 rfl (by decide) ?_
        refine r_ic66 cd_101_32 rfl (inR_of (hI.knot _) (by decide) (by decide)) ⟨by omega, by omega⟩ (fun n3 => ?_) (fun n3 => ?_)
        · refine r_inc (v := acc + 1) cd_101_35 rfl rfl rfl (by omega) (L' := [aR B, aI (acc + 1), aI ((i : Nat) : Int)]) rfl ?_
          refine r_inc (v := ((i + 1 : Nat) : Int)) cd_101_38 rfl rfl rfl (by omega) (L' := [aR B, aI (acc + 1), aI ((i + 1 : Nat) : Int)]) rfl ?_
          refine r_goto cd_101_41 ?_
          exact ih (i + 1) (acc + 1) r (by omega) (hr.trans (itF_step (by first | rfl | (simp [ovrG, bz, n1, n2, n3]; done) | (simp [ovrG, bz, n1, n2, n3]; omega))))
        · refine r_inc (v := ((i + 1 : Nat) : Int)) cd_101_38 rfl rfl rfl (by omega) (L' := [aR B, aI acc, aI ((i + 1 : Nat) : Int)]) rfl ?_
          refine r_goto cd_101_41 ?_
          exact ih (i + 1) (acc) r (by omega) (hr.trans (itF_step (by first | rfl | (simp [ovrG, bz, n1, n2, n3]; done) | (simp [ovrG, bz, n1, n2, n3]; omega))))
      · refine r_inc (v := acc + 1) cd_101_35 rfl rfl rfl (by omega) (L' := [aR B, aI (acc + 1), aI ((i : Nat) : Int)]) rfl ?_
        refine r_inc (v := ((i + 1 : Nat) : Int)) cd_101_38 rfl rfl rfl (by omega) (L' := [aR B, aI (acc + 1), aI ((i + 1 : Nat) : Int)]) rfl ?_
        refine r_goto cd_101_41 ?_
        exact ih (i + 1) (acc + 1) r (by omega) (hr.trans (itF_step (by first | rfl | (simp [ovrG, bz, n1, n2]; done) | (simp [ovrG, bz, n1, n2]; omega))))
    · exact absurd n1 (by omega)
theorem k_101 {h : aH} {B : Nat} {w : Nat → Int} (hR : Rp h B w) (hI : Inv0 w)  : Ct 3 101 [aR B] h (.inl (some (aI (itF (ovrG w) 0 (nB w) 0))), h) := by
  obtain ⟨c, ⟨o0, o1, o2, o3, o4, o5, o6, o7, o8, o9, o10, o11, o12, o13, o14, o15, o16, o17⟩, a0, a1, a2, a3, a4, a5, a6, a7, a8, a9, a10, a11, a12, a13, a14⟩ := id hR
  have hbn := hI.bNe
  have hpn := hI.pNe
  have x0 := hI.len
  have x1 := hI.hour
  have x2 := hI.gas
  have x3 := hI.leak
  have x4 := hI.gn
  have x5 := hI.bn
  have x6 := hI.pn
  refine Ct.of [aR B, aU, aU] rfl ?_
  refine r_con (v := 0) cd_101_0 rfl (by decide) ?_
  refine r_ist cd_101_1 rfl rfl (L' := [aR B, aI 0, aU]) rfl ?_
  refine r_con (v := 0) cd_101_2 rfl (by decide) ?_
  refine r_ist cd_101_3 rfl rfl (L' := [aR B, aI 0, aI 0]) rfl ?_
  exact lk_101 hR hI (nB w) 0 0 _ (by omega) rfl
theorem lk_104 {h : aH} {B : Nat} {w : Nat → Int} (hR : Rp h B w) (hI : Inv0 w) (p : Nat) (hp : p < nP w) (hL : ∀ b, b < nB w → knots w b ≤ 4) : ∀ (m i : Nat) (acc sv r : Int) (t : aV), i + m = nB w → -1 ≤ acc → acc < i → (¬ acc = -1 → sv = spare w acc.toNat) → (acc = -1 → sv = 0) → inR sv → r = itF (bstG w p) i m acc → RU 4 104 (.inl (some (aI r)), h) (7, [aR B, aI ((p : Nat) : Int), aI acc, aI sv, aI ((i : Nat) : Int), t], [], 0, 0, h) := by
  obtain ⟨c, ⟨o0, o1, o2, o3, o4, o5, o6, o7, o8, o9, o10, o11, o12, o13, o14, o15, o16, o17⟩, a0, a1, a2, a3, a4, a5, a6, a7, a8, a9, a10, a11, a12, a13, a14⟩ := id hR
  have hbn := hI.bNe
  have hpn := hI.pNe
  have x0 := hI.len
  have x1 := hI.hour
  have x2 := hI.gas
  have x3 := hI.leak
  have x4 := hI.gn
  have x5 := hI.bn
  have x6 := hI.pn
  intro m
  induction m with
  | zero =>
    intro i acc sv r t hm ha1 ha2 hs hs0 hsr hr
    refine r_ild cd_104_7 rfl rfl ?_
    refine r_aldR cd_104_9 rfl rfl ?_
    refine r_get cd_104_10 rfl o0 rfl ?_
    refine r_get cd_104_13 rfl o5 rfl ?_
    refine r_ic64 cd_104_16 rfl ⟨by omega, by omega⟩ (inR_of hI.bn (by decide) (by decide)) (fun n1 => ?_) (fun n1 => ?_)
    · exact absurd n1 (by omega)
    · refine r_ild cd_104_72 rfl rfl ?_
      exact r_ret cd_104_73 True.intro (rI hr)
  | succ m ih =>
    intro i acc sv r t hm ha1 ha2 hs hs0 hsr hr
    refine r_ild cd_104_7 rfl rfl ?_
    refine r_aldR cd_104_9 rfl rfl ?_
    refine r_get cd_104_10 rfl o0 rfl ?_
    refine r_get cd_104_13 rfl o5 rfl ?_
    refine r_ic64 cd_104_16 rfl ⟨by omega, by omega⟩ (inR_of hI.bn (by decide) (by decide)) (fun n1 => ?_) (fun n1 => ?_)
    · refine r_aldR cd_104_19 rfl rfl ?_
      refine r_ild cd_104_20 rfl rfl ?_
      refine r_ild cd_104_21 rfl rfl ?_
      have hk4 := hL i (by omega)
      refine r_cI (k_77 hR hI p i (by omega) (by omega) (by omega)) cd_104_23 rfl rfl rfl (rc0 o0 rfl) rfl rfl rfl ?_
      refine r_if52 cd_104_26 rfl (inR_of (whyT_b _ _ _) (by decide) (by decide)) (fun n2 => ?_) (fun n2 => ?_)
      · refine r_con (v := 1) cd_104_29 rfl (by decide) ?_
        refine r_goto cd_104_30 ?_
        refine r_ist cd_104_34 rfl rfl (L' := [aR B, aI ((p : Nat) : Int), aI acc, aI sv, aI ((i : Nat) : Int), aI 1]) rfl ?_
        refine r_ild cd_104_36 rfl rfl ?_
        refine r_if51 cd_104_38 rfl ⟨by omega, by omega⟩ (fun n3 => ?_) (fun n3 => ?_)
        · exact absurd n3 (by decide)
        · refine r_ild cd_104_41 rfl rfl ?_
          refine r_con (v := (-1)) cd_104_42 rfl (by decide) ?_
          refine r_ic61 cd_104_43 rfl ⟨by omega, by omega⟩ ⟨by omega, by omega⟩ (fun n4 => ?_) (fun n4 => ?_)
          · refine r_ild cd_104_56 rfl rfl ?_
            refine r_ist cd_104_58 rfl rfl (L' := [aR B, aI ((p : Nat) : Int), aI ((i : Nat) : Int), aI sv, aI ((i : Nat) : Int), aI 1]) rfl ?_
            refine r_aldR cd_104_59 rfl rfl ?_
            refine r_ild cd_104_60 rfl rfl ?_
            refine r_cI (k_78 hR hI i (by omega)) cd_104_62 rfl rfl rfl (rc0 o0 rfl) rfl rfl rfl ?_
            refine r_ist cd_104_65 rfl rfl (L' := [aR B, aI ((p : Nat) : Int), aI ((i : Nat) : Int), aI (spare w i), aI ((i : Nat) : Int), aI 1]) rfl ?_
            refine r_inc (v := ((i + 1 : Nat) : Int)) cd_104_66 rfl rfl rfl (by omega) (L' := [aR B, aI ((p : Nat) : Int), aI ((i : Nat) : Int), aI (spare w i), aI ((i + 1 : Nat) : Int), aI 1]) rfl ?_
            refine r_goto cd_104_69 ?_
            exact ih (i + 1) ((i : Nat) : Int) (spare w i) r _ (by omega) (by omega) (by omega) (fun _ => by rw [Int.toNat_natCast]) (fun e => by omega) (inR_of (hI.spr (b := i) (by omega)) (by decide) (by decide)) (hr.trans (itF_step (by unfold bstG; rw [if_pos ⟨n2, by by_cases e : acc = -1; exact Or.inl e; exact Or.inr (by rw [← hs e]; omega)⟩])))
          · refine r_aldR cd_104_46 rfl rfl ?_
            refine r_ild cd_104_47 rfl rfl ?_
            refine r_cI (k_78 hR hI i (by omega)) cd_104_49 rfl rfl rfl (rc0 o0 rfl) rfl rfl rfl ?_
            refine r_ild cd_104_52 rfl rfl ?_
            refine r_ic64 cd_104_53 rfl (inR_of (hI.spr (b := i) (by omega)) (by decide) (by decide)) hsr (fun n5 => ?_) (fun n5 => ?_)
            · refine r_ild cd_104_56 rfl rfl ?_
              refine r_ist cd_104_58 rfl rfl (L' := [aR B, aI ((p : Nat) : Int), aI ((i : Nat) : Int), aI sv, aI ((i : Nat) : Int), aI 1]) rfl ?_
              refine r_aldR cd_104_59 rfl rfl ?_
              refine r_ild cd_104_60 rfl rfl ?_
              refine r_cI (k_78 hR hI i (by omega)) cd_104_62 rfl rfl rfl (rc0 o0 rfl) rfl rfl rfl ?_
              refine r_ist cd_104_65 rfl rfl (L' := [aR B, aI ((p : Nat) : Int), aI ((i : Nat) : Int), aI (spare w i), aI ((i : Nat) : Int), aI 1]) rfl ?_
              refine r_inc (v := ((i + 1 : Nat) : Int)) cd_104_66 rfl rfl rfl (by omega) (L' := [aR B, aI ((p : Nat) : Int), aI ((i : Nat) : Int), aI (spare w i), aI ((i + 1 : Nat) : Int), aI 1]) rfl ?_
              refine r_goto cd_104_69 ?_
              exact ih (i + 1) ((i : Nat) : Int) (spare w i) r _ (by omega) (by omega) (by omega) (fun _ => by rw [Int.toNat_natCast]) (fun e => by omega) (inR_of (hI.spr (b := i) (by omega)) (by decide) (by decide)) (hr.trans (itF_step (by unfold bstG; rw [if_pos ⟨n2, by by_cases e : acc = -1; exact Or.inl e; exact Or.inr (by rw [← hs e]; omega)⟩])))
            · refine r_inc (v := ((i + 1 : Nat) : Int)) cd_104_66 rfl rfl rfl (by omega) (L' := [aR B, aI ((p : Nat) : Int), aI acc, aI sv, aI ((i + 1 : Nat) : Int), aI 1]) rfl ?_
              refine r_goto cd_104_69 ?_
              exact ih (i + 1) acc sv r _ (by omega) ha1 (by omega) hs hs0 hsr (hr.trans (itF_step (by unfold bstG; rw [if_neg (by rintro ⟨e1, e⟩; first | (exact absurd e1 n2) | (by_cases e2 : acc = -1; omega; have := hs e2; omega))])))
      · refine r_con (v := 0) cd_104_33 rfl (by decide) ?_
        refine r_ist cd_104_34 rfl rfl (L' := [aR B, aI ((p : Nat) : Int), aI acc, aI sv, aI ((i : Nat) : Int), aI 0]) rfl ?_
        refine r_ild cd_104_36 rfl rfl ?_
        refine r_if51 cd_104_38 rfl ⟨by omega, by omega⟩ (fun n6 => ?_) (fun n6 => ?_)
        · refine r_inc (v := ((i + 1 : Nat) : Int)) cd_104_66 rfl rfl rfl (by omega) (L' := [aR B, aI ((p : Nat) : Int), aI acc, aI sv, aI ((i + 1 : Nat) : Int), aI 0]) rfl ?_
          refine r_goto cd_104_69 ?_
          exact ih (i + 1) acc sv r _ (by omega) ha1 (by omega) hs hs0 hsr (hr.trans (itF_step (by unfold bstG; rw [if_neg (by rintro ⟨e1, e⟩; first | (exact absurd e1 n2) | (by_cases e2 : acc = -1; omega; have := hs e2; omega))])))
        · exact absurd n6 (by decide)
    · exact absurd n1 (by omega)
theorem k_104 {h : aH} {B : Nat} {w : Nat → Int} (hR : Rp h B w) (hI : Inv0 w) (hL : ∀ b, b < nB w → knots w b ≤ 4) (p : Nat) (g0 : p < nP w) : Ct 4 104 [aR B, aI ((p : Nat) : Int)] h (.inl (some (aI (bstB w p))), h) := by
  refine Ct.of [aR B, aI ((p : Nat) : Int), aU, aU, aU, aU] rfl ?_
  refine r_con (v := (-1)) cd_104_0 rfl (by decide) ?_
  refine r_ist cd_104_1 rfl rfl (L' := [aR B, aI ((p : Nat) : Int), aI (-1), aU, aU, aU]) rfl ?_
  refine r_con (v := 0) cd_104_2 rfl (by decide) ?_
  refine r_ist cd_104_3 rfl rfl (L' := [aR B, aI ((p : Nat) : Int), aI (-1), aI 0, aU, aU]) rfl ?_
  refine r_con (v := 0) cd_104_4 rfl (by decide) ?_
  refine r_ist cd_104_5 rfl rfl (L' := [aR B, aI ((p : Nat) : Int), aI (-1), aI 0, aI 0, aU]) rfl ?_
  exact lk_104 hR hI p g0 hL (nB w) 0 (-1) 0 _ aU (by omega) (by decide) (by decide) (fun e => absurd rfl e) (fun _ => rfl) ⟨by decide, by decide⟩ rfl
theorem lj_31 {h : aH} {B : Nat} {w : Nat → Int} (hR : Rp h B w) (hI : Inv0 w) (p : Nat) (hp : p < nP w) {res : aRes} : ∀ (m i : Nat) (acc : Int) (t : aV), i + m = p → (∀ t, RU 1 31 res (75, [aR (B + 10), aI (itF (dblG w p) i m acc), aI ((p : Nat) : Int), aI ((p : Nat) : Int), t], [], 0, 0, h)) → RU 1 31 res (14, [aR (B + 10), aI acc, aI ((p : Nat) : Int), aI ((i : Nat) : Int), t], [], 0, 0, h) := by
  obtain ⟨c, ⟨o0, o1, o2, o3, o4, o5, o6, o7, o8, o9, o10, o11, o12, o13, o14, o15, o16, o17⟩, a0, a1, a2, a3, a4, a5, a6, a7, a8, a9, a10, a11, a12, a13, a14⟩ := id hR
  have hbn := hI.bNe
  have hpn := hI.pNe
  have x0 := hI.len
  have x1 := hI.hour
  have x2 := hI.gas
  have x3 := hI.leak
  have x4 := hI.gn
  have x5 := hI.bn
  have x6 := hI.pn
  intro m
  induction m with
  | zero =>
    intro i acc t hm hk
    refine r_ild cd_31_14 rfl rfl ?_
    refine r_ild cd_31_15 rfl rfl ?_
    refine r_ic64 cd_31_16 rfl ⟨by omega, by omega⟩ ⟨by omega, by omega⟩ (fun n1 => ?_) (fun n1 => ?_)
    · exact absurd n1 (by omega)
    · rw [show ((i : Nat) : Int) = ((p : Nat) : Int) by omega]
      exact hk t
  | succ m ih =>
    intro i acc t hm hk
    refine r_ild cd_31_14 rfl rfl ?_
    refine r_ild cd_31_15 rfl rfl ?_
    refine r_ic64 cd_31_16 rfl ⟨by omega, by omega⟩ ⟨by omega, by omega⟩ (fun n1 => ?_) (fun n1 => ?_)
    · refine r_aldR cd_31_19 rfl rfl ?_
      refine r_get cd_31_20 rfl o10 rfl ?_
      refine r_ild cd_31_23 rfl rfl ?_
      refine r_arr (i := i) cd_31_24 rfl o15 rfl (by omega) rfl ?_
      rw [a11 (i) (by omega)]
      refine r_con (v := 2) cd_31_25 rfl (by decide) ?_
      refine r_ic61 cd_31_26 rfl (hI.paR (p := i) (k := 4) (by omega) (by decide)) ⟨by omega, by omega⟩ (fun n2 => ?_) (fun n2 => ?_)
      · refine r_con (v := 0) cd_31_43 rfl (by decide) ?_
        refine r_ist cd_31_44 rfl rfl (L' := [aR (B + 10), aI acc, aI ((p : Nat) : Int), aI ((i : Nat) : Int), aI 0]) rfl ?_
        refine r_ild cd_31_46 rfl rfl ?_
        refine r_if51 cd_31_48 rfl ⟨by omega, by omega⟩ (fun n3 => ?_) (fun n3 => ?_)
        · refine r_inc (v := ((i + 1 : Nat) : Int)) cd_31_69 rfl rfl rfl (by omega) (L' := [aR (B + 10), aI acc, aI ((p : Nat) : Int), aI ((i + 1 : Nat) : Int), aI 0]) rfl ?_
          refine r_goto cd_31_72 ?_
          refine ih (i + 1) (acc) _ (by omega) ?_
          rw [show itF (dblG w p) i (m + 1) acc = itF (dblG w p) (i + 1) m (acc) from itF_step (by first | (simp [dblG, n1, n2]; done) | (simp [dblG, n1, n2, eq_comm (a := pa w p 3)]; done) | (simp_all [dblG]; done))] at hk
          exact hk
        · exact absurd n3 (by decide)
      · refine r_aldR cd_31_29 rfl rfl ?_
        refine r_get cd_31_30 rfl o10 rfl ?_
        refine r_ild cd_31_33 rfl rfl ?_
        refine r_arr (i := p) cd_31_34 rfl o15 rfl (by omega) rfl ?_
        rw [a11 (p) (by omega)]
        refine r_con (v := 2) cd_31_35 rfl (by decide) ?_
        refine r_ic61 cd_31_36 rfl (hI.paR (p := p) (k := 4) (by omega) (by decide)) ⟨by omega, by omega⟩ (fun n4 => ?_) (fun n4 => ?_)
        · refine r_con (v := 0) cd_31_43 rfl (by decide) ?_
          refine r_ist cd_31_44 rfl rfl (L' := [aR (B + 10), aI acc, aI ((p : Nat) : Int), aI ((i : Nat) : Int), aI 0]) rfl ?_
          refine r_ild cd_31_46 rfl rfl ?_
          refine r_if51 cd_31_48 rfl ⟨by omega, by omega⟩ (fun n5 => ?_) (fun n5 => ?_)
          · refine r_inc (v := ((i + 1 : Nat) : Int)) cd_31_69 rfl rfl rfl (by omega) (L' := [aR (B + 10), aI acc, aI ((p : Nat) : Int), aI ((i + 1 : Nat) : Int), aI 0]) rfl ?_
            refine r_goto cd_31_72 ?_
            refine ih (i + 1) (acc) _ (by omega) ?_
            rw [show itF (dblG w p) i (m + 1) acc = itF (dblG w p) (i + 1) m (acc) from itF_step (by first | (simp [dblG, n1, n2, n4]; done) | (simp [dblG, n1, n2, n4, eq_comm (a := pa w p 3)]; done) | (simp_all [dblG]; done))] at hk
            exact hk
          · exact absurd n5 (by decide)
        · refine r_con (v := 1) cd_31_39 rfl (by decide) ?_
          refine r_goto cd_31_40 ?_
          refine r_ist cd_31_44 rfl rfl (L' := [aR (B + 10), aI acc, aI ((p : Nat) : Int), aI ((i : Nat) : Int), aI 1]) rfl ?_
          refine r_ild cd_31_46 rfl rfl ?_
          refine r_if51 cd_31_48 rfl ⟨by omega, by omega⟩ (fun n6 => ?_) (fun n6 => ?_)
          · exact absurd n6 (by decide)
          · refine r_aldR cd_31_51 rfl rfl ?_
            refine r_get cd_31_52 rfl o10 rfl ?_
            refine r_ild cd_31_55 rfl rfl ?_
            refine r_arr (i := i) cd_31_56 rfl o14 rfl (by omega) rfl ?_
            rw [a10 (i) (by omega)]
            refine r_aldR cd_31_57 rfl rfl ?_
            refine r_get cd_31_58 rfl o10 rfl ?_
            refine r_ild cd_31_61 rfl rfl ?_
            refine r_arr (i := p) cd_31_62 rfl o14 rfl (by omega) rfl ?_
            rw [a10 (p) (by omega)]
            refine r_ic62 cd_31_63 rfl (hI.paR (p := i) (k := 3) (by omega) (by decide)) (hI.paR (p := p) (k := 3) (by omega) (by decide)) (fun n7 => ?_) (fun n7 => ?_)
            · refine r_inc (v := acc + 1) cd_31_66 rfl rfl rfl (by omega) (L' := [aR (B + 10), aI (acc + 1), aI ((p : Nat) : Int), aI ((i : Nat) : Int), aI 1]) rfl ?_
              refine r_inc (v := ((i + 1 : Nat) : Int)) cd_31_69 rfl rfl rfl (by omega) (L' := [aR (B + 10), aI (acc + 1), aI ((p : Nat) : Int), aI ((i + 1 : Nat) : Int), aI 1]) rfl ?_
              refine r_goto cd_31_72 ?_
              refine ih (i + 1) (acc + 1) _ (by omega) ?_
              rw [show itF (dblG w p) i (m + 1) acc = itF (dblG w p) (i + 1) m (acc + 1) from itF_step (by first | (simp [dblG, n1, n2, n4, n7]; done) | (simp [dblG, n1, n2, n4, n7, eq_comm (a := pa w p 3)]; done) | (simp_all [dblG]; done))] at hk
              exact hk
            · refine r_inc (v := ((i + 1 : Nat) : Int)) cd_31_69 rfl rfl rfl (by omega) (L' := [aR (B + 10), aI acc, aI ((p : Nat) : Int), aI ((i + 1 : Nat) : Int), aI 1]) rfl ?_
              refine r_goto cd_31_72 ?_
              refine ih (i + 1) (acc) _ (by omega) ?_
              rw [show itF (dblG w p) i (m + 1) acc = itF (dblG w p) (i + 1) m (acc) from itF_step (by first | (simp [dblG, n1, n2, n4, n7]; done) | (simp [dblG, n1, n2, n4, n7, eq_comm (a := pa w p 3)]; done) | (simp_all [dblG]; done))] at hk
              exact hk
    · exact absurd n1 (by omega)
theorem dbl_acc {w : Nat → Int} {p : Nat} : ∀ {m i : Nat} {acc : Int}, itF (dblG w p) i m acc = acc + itF (dblG w p) i m 0
  | 0, i, acc => by show acc = acc + 0; omega
  | m + 1, i, acc => by
    show itF (dblG w p) (i + 1) m (acc + _) = acc + itF (dblG w p) (i + 1) m (0 + _)
    rw [dbl_acc, dbl_acc (acc := 0 + _)]
    omega
theorem lk_31 {h : aH} {B : Nat} {w : Nat → Int} (hR : Rp h B w) (hI : Inv0 w) : ∀ (m p : Nat) (acc r : Int) (u t : aV), p + m = nP w → r = itF (dbsG w) p m acc → RU 1 31 (.inl (some (aI r)), h) (4, [aR (B + 10), aI acc, aI ((p : Nat) : Int), u, t], [], 0, 0, h) := by
  obtain ⟨c, ⟨o0, o1, o2, o3, o4, o5, o6, o7, o8, o9, o10, o11, o12, o13, o14, o15, o16, o17⟩, a0, a1, a2, a3, a4, a5, a6, a7, a8, a9, a10, a11, a12, a13, a14⟩ := id hR
  have hbn := hI.bNe
  have hpn := hI.pNe
  have x0 := hI.len
  have x1 := hI.hour
  have x2 := hI.gas
  have x3 := hI.leak
  have x4 := hI.gn
  have x5 := hI.bn
  have x6 := hI.pn
  intro m
  induction m with
  | zero =>
    intro p acc r u t hm hr
    refine r_ild cd_31_4 rfl rfl ?_
    refine r_aldR cd_31_5 rfl rfl ?_
    refine r_get cd_31_6 rfl o10 rfl ?_
    refine r_ic64 cd_31_9 rfl ⟨by omega, by omega⟩ (inR_of hI.pn (by decide) (by decide)) (fun n1 => ?_) (fun n1 => ?_)
    · exact absurd n1 (by omega)
    · refine r_ild cd_31_81 rfl rfl ?_
      exact r_ret cd_31_82 True.intro (rI hr)
  | succ m ih =>
    intro p acc r u t hm hr
    refine r_ild cd_31_4 rfl rfl ?_
    refine r_aldR cd_31_5 rfl rfl ?_
    refine r_get cd_31_6 rfl o10 rfl ?_
    refine r_ic64 cd_31_9 rfl ⟨by omega, by omega⟩ (inR_of hI.pn (by decide) (by decide)) (fun n1 => ?_) (fun n1 => ?_)
    · refine r_con (v := 0) cd_31_12 rfl (by decide) ?_
      refine r_ist cd_31_13 rfl rfl (L' := [aR (B + 10), aI acc, aI ((p : Nat) : Int), aI 0, t]) rfl ?_
      refine lj_31 hR hI p (by omega) p 0 acc t (by omega) (fun t2 => ?_)
      refine r_inc (v := ((p + 1 : Nat) : Int)) cd_31_75 rfl rfl rfl (by omega) (L' := [aR (B + 10), aI (itF (dblG w p) 0 p acc), aI ((p + 1 : Nat) : Int), aI ((p : Nat) : Int), t2]) rfl ?_
      refine r_goto cd_31_78 ?_
      exact ih (p + 1) _ r _ _ (by omega) (hr.trans (itF_step (by rw [dbl_acc]; rfl)))
    · exact absurd n1 (by omega)
theorem k_31 {h : aH} {B : Nat} {w : Nat → Int} (hR : Rp h B w) (hI : Inv0 w)  : Ct 1 31 [aR (B + 10)] h (.inl (some (aI (itF (dbsG w) 0 (nP w) 0))), h) := by
  obtain ⟨c, ⟨o0, o1, o2, o3, o4, o5, o6, o7, o8, o9, o10, o11, o12, o13, o14, o15, o16, o17⟩, a0, a1, a2, a3, a4, a5, a6, a7, a8, a9, a10, a11, a12, a13, a14⟩ := id hR
  have hbn := hI.bNe
  have hpn := hI.pNe
  have x0 := hI.len
  have x1 := hI.hour
  have x2 := hI.gas
  have x3 := hI.leak
  have x4 := hI.gn
  have x5 := hI.bn
  have x6 := hI.pn
  refine Ct.of [aR (B + 10), aU, aU, aU, aU] rfl ?_
  refine r_con (v := 0) cd_31_0 rfl (by decide) ?_
  refine r_ist cd_31_1 rfl rfl (L' := [aR (B + 10), aI 0, aU, aU, aU]) rfl ?_
  refine r_con (v := 0) cd_31_2 rfl (by decide) ?_
  refine r_ist cd_31_3 rfl rfl (L' := [aR (B + 10), aI 0, aI 0, aU, aU]) rfl ?_
  exact lk_31 hR hI (nP w) 0 0 _ _ _ (by omega) rfl
