/-! THE CLASS: choices and checks (written by wip/whole/gen43.py) -/
theorem k_57 {h : aH} {B : Nat} {w : Nat → Int} (hR : Rp h B w) (hI : Inv0 w) (x : Int) (hx : inR x) (g0 : 0 ≤ x) (g1 : x ≤ 100000) : Ct 1 57 [aR (B + 1), aI x] h (.inl (some (aI (bz (decide ((x + 1) % w 3 = 0))))), h) := by
  obtain ⟨c, ⟨o0, o1, o2, o3, o4, o5, o6, o7, o8, o9, o10, o11, o12, o13, o14, o15, o16, o17⟩, a0, a1, a2, a3, a4, a5, a6, a7, a8, a9, a10, a11, a12, a13, a14⟩ := id hR
  have hbn := hI.bNe
  have hpn := hI.pNe
  have x0 := hI.len
  have x1 := hI.hour
  have x2 := hI.gas
  have x3 := hI.leak
  have x4 := hI.gn
  have x5 := hI.bn
  have x6 := hI.pn
  have hm0 := Int.emod_nonneg (x + 1) (b := w 3) (by omega)
  have hm1 := Int.emod_lt_of_pos (x + 1) (b := w 3) (by omega)
  refine Ct.of [aR (B + 1), aI x] rfl ?_
  refine r_aldR cd_57_0 rfl rfl ?_
  refine r_get cd_57_1 rfl o1 rfl ?_
  refine r_if56 cd_57_4 rfl (inR_of hI.leak (by decide) (by decide)) (fun n1 => ?_) (fun n1 => ?_)
  · refine r_ild cd_57_7 rfl rfl ?_
    refine r_con (v := 1) cd_57_8 rfl (by decide) ?_
    refine r_add (v := x + 1) cd_57_9 rfl (by rfl) ?_
    refine r_aldR cd_57_10 rfl rfl ?_
    refine r_get cd_57_11 rfl o1 rfl ?_
    refine r_rem cd_57_14 rfl (by omega) (by omega) (by omega) (by omega) ?_
    refine r_if52 cd_57_15 rfl ⟨by omega, by omega⟩ (fun n2 => ?_) (fun n2 => ?_)
    · refine r_con (v := 1) cd_57_18 rfl (by decide) ?_
      refine r_goto cd_57_19 ?_
      exact r_ret cd_57_23 (Or.inr rfl) (rB (by first | rfl | (simp [bz, n1, n2]; done) | (simp [bz, n1, n2]; omega) | (exact bz_t (by simp only [Bool.and_eq_true, Bool.or_eq_true, Bool.not_eq_true', decide_eq_true_eq, decide_eq_false_iff_not]; omega))))
    · refine r_con (v := 0) cd_57_22 rfl (by decide) ?_
      exact r_ret cd_57_23 (Or.inl rfl) (rB (by first | rfl | (simp [bz, n1, n2]; done) | (simp [bz, n1, n2]; omega) | (exact bz_f (by simp only [Bool.and_eq_true, Bool.or_eq_true, Bool.not_eq_true', decide_eq_true_eq, decide_eq_false_iff_not]; omega))))
  · refine r_con (v := 0) cd_57_22 rfl (by decide) ?_
    exact r_ret cd_57_23 (Or.inl rfl) (rB (by first | rfl | (simp [bz, n1]; done) | (simp [bz, n1]; omega) | (exact bz_f (by simp only [Bool.and_eq_true, Bool.or_eq_true, Bool.not_eq_true', decide_eq_true_eq, decide_eq_false_iff_not]; omega))))
theorem lk_25 {h : aH} {B : Nat} {w : Nat → Int} (hR : Rp h B w) (hI : Inv0 w) (b : Nat) (hb : b < 8) : ∀ (m i : Nat) (acc sv r : Int) (t : aV), i + m = nP w → -1 ≤ acc → acc < i → (¬ acc = -1 → sv = pa w acc.toNat 0) → (acc = -1 → sv = 0) → inR sv → r = itF (hvG w b) i m acc → RU 1 25 (.inl (some (aI r)), h) (7, [aR (B + 10), aI ((b : Nat) : Int), aI acc, aI sv, aI ((i : Nat) : Int)], [], 0, 0, h) := by
  obtain ⟨c, ⟨o0, o1, o2, o3, o4, o5, o6, o7, o8, o9, o10, o11, o12, o13, o14, o15, o16, o17⟩, a0, a1, a2, a3, a4, a5, a6, a7, a8, a9, a10, a11, a12, a13, a14⟩ := id hR
  have hbn := hI.bNe
  have hpn := hI.pNe
  have x0 := hI.len
  have x1 := hI.hour
  have x2 := hI.gas
  have x3 := hI.leak
  have x4 := hI.gn
  have x5 := hI.bn
  have x6 := hI.pn
  intro m
  induction m with
  | zero =>
    intro i acc sv r t hm ha1 ha2 hs hs0 hsr hr
    refine r_ild cd_25_7 rfl rfl ?_
    refine r_aldR cd_25_9 rfl rfl ?_
    refine r_get cd_25_10 rfl o10 rfl ?_
    refine r_ic64 cd_25_13 rfl ⟨by omega, by omega⟩ (inR_of hI.pn (by decide) (by decide)) (fun n1 => ?_) (fun n1 => ?_)
    · exact absurd n1 (by omega)
    · refine r_ild cd_25_55 rfl rfl ?_
      exact r_ret cd_25_56 True.intro (rI hr)
  | succ m ih =>
    intro i acc sv r t hm ha1 ha2 hs hs0 hsr hr
    refine r_ild cd_25_7 rfl rfl ?_
    refine r_aldR cd_25_9 rfl rfl ?_
    refine r_get cd_25_10 rfl o10 rfl ?_
    refine r_ic64 cd_25_13 rfl ⟨by omega, by omega⟩ (inR_of hI.pn (by decide) (by decide)) (fun n1 => ?_) (fun n1 => ?_)
    · refine r_aldR cd_25_16 rfl rfl ?_
      refine r_get cd_25_17 rfl o10 rfl ?_
      refine r_ild cd_25_20 rfl rfl ?_
      refine r_arr (i := i) cd_25_22 rfl o16 rfl (by omega) rfl ?_
      rw [a12 (i) (by omega)]
      refine r_ild cd_25_23 rfl rfl ?_
      refine r_ic62 cd_25_24 rfl (hI.caR (p := i) (by omega)) ⟨by omega, by omega⟩ (fun n2 => ?_) (fun n2 => ?_)
      · have n2' := carr_iff.mp n2
        refine r_aldR cd_25_27 rfl rfl ?_
        refine r_get cd_25_28 rfl o10 rfl ?_
        refine r_ild cd_25_31 rfl rfl ?_
        refine r_arr (i := i) cd_25_33 rfl o11 rfl (by omega) rfl ?_
        rw [a7 (i) (by omega)]
        refine r_ild cd_25_34 rfl rfl ?_
        refine r_ic66 cd_25_35 rfl (hI.paR (p := i) (k := 0) (by omega) (by decide)) hsr (fun n3 => ?_) (fun n3 => ?_)
        · refine r_ild cd_25_38 rfl rfl ?_
          refine r_ist cd_25_40 rfl rfl (L' := [aR (B + 10), aI ((b : Nat) : Int), aI ((i : Nat) : Int), aI sv, aI ((i : Nat) : Int)]) rfl ?_
          refine r_aldR cd_25_41 rfl rfl ?_
          refine r_get cd_25_42 rfl o10 rfl ?_
          refine r_ild cd_25_45 rfl rfl ?_
          refine r_arr (i := i) cd_25_47 rfl o11 rfl (by omega) rfl ?_
          rw [a7 (i) (by omega)]
          refine r_ist cd_25_48 rfl rfl (L' := [aR (B + 10), aI ((b : Nat) : Int), aI ((i : Nat) : Int), aI (pa w i 0), aI ((i : Nat) : Int)]) rfl ?_
          refine r_inc (v := ((i + 1 : Nat) : Int)) cd_25_49 rfl rfl rfl (by omega) (L' := [aR (B + 10), aI ((b : Nat) : Int), aI ((i : Nat) : Int), aI (pa w i 0), aI ((i + 1 : Nat) : Int)]) rfl ?_
          refine r_goto cd_25_52 ?_
          exact ih (i + 1) ((i : Nat) : Int) (pa w i 0) r _ (by omega) (by omega) (by omega) (fun _ => by rw [Int.toNat_natCast]) (fun e => by omega) (hI.paR (p := i) (k := 0) (by omega) (by decide)) (hr.trans (itF_step (by unfold hvG; rw [if_pos ⟨n2', by by_cases e : acc = -1; exact Or.inl e; exact Or.inr (by rw [← hs e]; omega)⟩])))
        · refine r_inc (v := ((i + 1 : Nat) : Int)) cd_25_49 rfl rfl rfl (by omega) (L' := [aR (B + 10), aI ((b : Nat) : Int), aI acc, aI sv, aI ((i + 1 : Nat) : Int)]) rfl ?_
          refine r_goto cd_25_52 ?_
          exact ih (i + 1) acc sv r _ (by omega) ha1 (by omega) hs hs0 hsr (hr.trans (itF_step (by unfold hvG; rw [if_neg (by rintro ⟨-, e⟩; have hw0 := (hI.ps i (by omega)).1; by_cases e2 : acc = -1; have := hs0 e2; omega; have := hs e2; omega)])))
      · have n2' := carr_f n2
        refine r_inc (v := ((i + 1 : Nat) : Int)) cd_25_49 rfl rfl rfl (by omega) (L' := [aR (B + 10), aI ((b : Nat) : Int), aI acc, aI sv, aI ((i + 1 : Nat) : Int)]) rfl ?_
        refine r_goto cd_25_52 ?_
        exact ih (i + 1) acc sv r _ (by omega) ha1 (by omega) hs hs0 hsr (hr.trans (itF_step (by unfold hvG; rw [if_neg (by rintro ⟨e, -⟩; rw [n2'] at e; cases e)])))
    · exact absurd n1 (by omega)
theorem k_25 {h : aH} {B : Nat} {w : Nat → Int} (hR : Rp h B w) (hI : Inv0 w) (b : Nat) (g0 : b < 8) : Ct 1 25 [aR (B + 10), aI ((b : Nat) : Int)] h (.inl (some (aI (heavy w b))), h) := by
  obtain ⟨c, ⟨o0, o1, o2, o3, o4, o5, o6, o7, o8, o9, o10, o11, o12, o13, o14, o15, o16, o17⟩, a0, a1, a2, a3, a4, a5, a6, a7, a8, a9, a10, a11, a12, a13, a14⟩ := id hR
  have hbn := hI.bNe
  have hpn := hI.pNe
  have x0 := hI.len
  have x1 := hI.hour
  have x2 := hI.gas
  have x3 := hI.leak
  have x4 := hI.gn
  have x5 := hI.bn
  have x6 := hI.pn
  refine Ct.of [aR (B + 10), aI ((b : Nat) : Int), aU, aU, aU] rfl ?_
  refine r_con (v := (-1)) cd_25_0 rfl (by decide) ?_
  refine r_ist cd_25_1 rfl rfl (L' := [aR (B + 10), aI ((b : Nat) : Int), aI (-1), aU, aU]) rfl ?_
  refine r_con (v := 0) cd_25_2 rfl (by decide) ?_
  refine r_ist cd_25_3 rfl rfl (L' := [aR (B + 10), aI ((b : Nat) : Int), aI (-1), aI 0, aU]) rfl ?_
  refine r_con (v := 0) cd_25_4 rfl (by decide) ?_
  refine r_ist cd_25_5 rfl rfl (L' := [aR (B + 10), aI ((b : Nat) : Int), aI (-1), aI 0, aI 0]) rfl ?_
  exact lk_25 hR hI b g0 (nP w) 0 (-1) 0 _ _ (by omega) (by decide) (by decide) (fun e => absurd rfl e) (fun _ => rfl) ⟨by decide, by decide⟩ rfl
theorem heavy_c {w : Nat → Int} {b : Nat} (hI : Inv0 w) : -1 ≤ heavy w b ∧ heavy w b ≤ 15 := by
  have h1 := heavy_b (w := w) b
  have h3 := hI.pNe
  omega
theorem lk_101 {h : aH} {B : Nat} {w : Nat → Int} (hR : Rp h B w) (hI : Inv0 w) : ∀ (m i : Nat) (acc r : Int), i + m = nB w → r = itF (ovrG w) i m acc → RU 3 101 (.inl (some (aI r)), h) (4, [aR B, aI acc, aI ((i : Nat) : Int)], [], 0, 0, h) := by
  obtain ⟨c, ⟨o0, o1, o2, o3, o4, o5, o6, o7, o8, o9, o10, o11, o12, o13, o14, o15, o16, o17⟩, a0, a1, a2, a3, a4, a5, a6, a7, a8, a9, a10, a11, a12, a13, a14⟩ := id hR
  have hbn := hI.bNe
  have hpn := hI.pNe
  have x0 := hI.len
  have x1 := hI.hour
  have x2 := hI.gas
  have x3 := hI.leak
  have x4 := hI.gn
  have x5 := hI.bn
  have x6 := hI.pn
  intro m
  induction m with
  | zero =>
    intro i acc r hm hr
    refine r_ild cd_101_4 rfl rfl ?_
    refine r_aldR cd_101_5 rfl rfl ?_
    refine r_get cd_101_6 rfl o0 rfl ?_
    refine r_get cd_101_9 rfl o5 rfl ?_
    refine r_ic64 cd_101_12 rfl ⟨by omega, by omega⟩ (inR_of hI.bn (by decide) (by decide)) (fun n1 => ?_) (fun n1 => ?_)
    · exact absurd n1 (by omega)
    · refine r_ild cd_101_44 rfl rfl ?_
      exact r_ret cd_101_45 True.intro (rI hr)
  | succ m ih =>
    intro i acc r hm hr
    refine r_ild cd_101_4 rfl rfl ?_
    refine r_aldR cd_101_5 rfl rfl ?_
    refine r_get cd_101_6 rfl o0 rfl ?_
    refine r_get cd_101_9 rfl o5 rfl ?_
    refine r_ic64 cd_101_12 rfl ⟨by omega, by omega⟩ (inR_of hI.bn (by decide) (by decide)) (fun n1 => ?_) (fun n1 => ?_)
    · refine r_aldR cd_101_15 rfl rfl ?_
      refine r_ild cd_101_16 rfl rfl ?_
      refine r_cI (k_78 hR hI i (by omega)) cd_101_17 rfl rfl rfl (rc0 o0 rfl) rfl rfl rfl ?_
      refine r_if56 cd_101_20 rfl (inR_of (hI.spr (b := i) (by omega)) (by decide) (by decide)) (fun n2 => ?_) (fun n2 => ?_)
      · refine r_aldR cd_101_23 rfl rfl ?_
        refine r_get cd_101_24 rfl o0 rfl ?_
        refine r_ild cd_101_27 rfl rfl ?_
        refine r_cI (k_19 hR hI i (by omega)) cd_101_28 rfl rfl rfl (rc0 o10 rfl) rfl rfl rfl ?_
        refine r_con (v := 4) cd_101_31 rfl (by decide) ?_
        refine r_ic66 cd_101_32 rfl (inR_of (hI.knot _) (by decide) (by decide)) ⟨by omega, by omega⟩ (fun n3 => ?_) (fun n3 => ?_)
        · refine r_inc (v := acc + 1) cd_101_35 rfl rfl rfl (by omega) (L' := [aR B, aI (acc + 1), aI ((i : Nat) : Int)]) rfl ?_
          refine r_inc (v := ((i + 1 : Nat) : Int)) cd_101_38 rfl rfl rfl (by omega) (L' := [aR B, aI (acc + 1), aI ((i + 1 : Nat) : Int)]) rfl ?_
          refine r_goto cd_101_41 ?_
          exact ih (i + 1) (acc + 1) r (by omega) (hr.trans (itF_step (by first | rfl | (simp [ovrG, bz, n1, n2, n3]; done) | (simp [ovrG, bz, n1, n2, n3]; omega))))
        · refine r_inc (v := ((i + 1 : Nat) : Int)) cd_101_38 rfl rfl rfl (by omega) (L' := [aR B, aI acc, aI ((i + 1 : Nat) : Int)]) rfl ?_
          refine r_goto cd_101_41 ?_
          exact ih (i + 1) (acc) r (by omega) (hr.trans (itF_step (by first | rfl | (simp [ovrG, bz, n1, n2, n3]; done) | (simp [ovrG, bz, n1, n2, n3]; omega))))
      · refine r_inc (v := acc + 1) cd_101_35 rfl rfl rfl (by omega) (L' := [aR B, aI (acc + 1), aI ((i : Nat) : Int)]) rfl ?_
        refine r_inc (v := ((i + 1 : Nat) : Int)) cd_101_38 rfl rfl rfl (by omega) (L' := [aR B, aI (acc + 1), aI ((i + 1 : Nat) : Int)]) rfl ?_
        refine r_goto cd_101_41 ?_
        exact ih (i + 1) (acc + 1) r (by omega) (hr.trans (itF_step (by first | rfl | (simp [ovrG, bz, n1, n2]; done) | (simp [ovrG, bz, n1, n2]; omega))))
    · exact absurd n1 (by omega)
theorem k_101 {h : aH} {B : Nat} {w : Nat → Int} (hR : Rp h B w) (hI : Inv0 w)  : Ct 3 101 [aR B] h (.inl (some (aI (itF (ovrG w) 0 (nB w) 0))), h) := by
  obtain ⟨c, ⟨o0, o1, o2, o3, o4, o5, o6, o7, o8, o9, o10, o11, o12, o13, o14, o15, o16, o17⟩, a0, a1, a2, a3, a4, a5, a6, a7, a8, a9, a10, a11, a12, a13, a14⟩ := id hR
  have hbn := hI.bNe
  have hpn := hI.pNe
  have x0 := hI.len
  have x1 := hI.hour
  have x2 := hI.gas
  have x3 := hI.leak
  have x4 := hI.gn
  have x5 := hI.bn
  have x6 := hI.pn
  refine Ct.of [aR B, aU, aU] rfl ?_
  refine r_con (v := 0) cd_101_0 rfl (by decide) ?_
  refine r_ist cd_101_1 rfl rfl (L' := [aR B, aI 0, aU]) rfl ?_
  refine r_con (v := 0) cd_101_2 rfl (by decide) ?_
  refine r_ist cd_101_3 rfl rfl (L' := [aR B, aI 0, aI 0]) rfl ?_
  exact lk_101 hR hI (nB w) 0 0 _ (by omega) rfl
