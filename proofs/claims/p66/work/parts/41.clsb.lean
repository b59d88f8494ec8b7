/-! THE CLASS: readers with loops (written by wip/whole/gen41.py) -/
theorem op2_in (f : Int32 → Int32 → Int32) (x z : Int) : inR (op2 f x z) := ⟨BitVec.le_toInt (x := (f (i32 x) (i32 z)).toBitVec), BitVec.toInt_lt (x := (f (i32 x) (i32 z)).toBitVec)⟩
theorem orI_0 {x : Int} (h : inR x) : orI x 0 = x := by
  show (i32 x ||| i32 0).toInt = x
  rw [show i32 x ||| i32 0 = i32 x by rw [show i32 0 = 0 from rfl]; simp]
  exact i32_toInt h.1 h.2
theorem setG_t {f : Nat → Bool} {p : Nat} {a : Int} (h : f p = true) : setG f p a = orI a (shlI 1 ((p : Nat) : Int)) := by unfold setG; rw [if_pos h]
theorem setG_f {f : Nat → Bool} {p : Nat} {a : Int} (h : f p = false) (ha : inR a) : setG f p a = a := by
  unfold setG
  rw [if_neg (by rw [h]; simp)]
  exact orI_0 ha
theorem lk_8 {h : aH} {B : Nat} {w : Nat → Int} (hR : Rp h B w) (hI : Inv0 w) : ∀ (m i : Nat) (acc r : Int), i + m = nB w → inR acc → r = itF (setG (flyF w)) i m acc → RU 2 8 (.inl (some (aI r)), h) (4, [aR (B + 5), aI acc, aI ((i : Nat) : Int)], [], 0, 0, h) := by
  obtain ⟨c, ⟨o0, o1, o2, o3, o4, o5, o6, o7, o8, o9, o10, o11, o12, o13, o14, o15, o16, o17⟩, a0, a1, a2, a3, a4, a5, a6, a7, a8, a9, a10, a11, a12, a13, a14⟩ := id hR
  have hbn := hI.bNe
  have hpn := hI.pNe
  have x0 := hI.len
  have x1 := hI.hour
  have x2 := hI.gas
  have x3 := hI.leak
  have x4 := hI.gn
  have x5 := hI.bn
  have x6 := hI.pn
  intro m
  induction m with
  | zero =>
    intro i acc r hm ha1 hr
    refine r_ild cd_8_4 rfl rfl ?_
    refine r_aldR cd_8_5 rfl rfl ?_
    refine r_get cd_8_6 rfl o5 rfl ?_
    refine r_ic64 cd_8_9 rfl ⟨by omega, by omega⟩ (inR_of hI.bn (by decide) (by decide)) (fun n1 => ?_) (fun n1 => ?_)
    · exact absurd n1 (by omega)
    · refine r_ild cd_8_32 rfl rfl ?_
      exact r_ret cd_8_33 True.intro (rI hr)
  | succ m ih =>
    intro i acc r hm ha1 hr
    refine r_ild cd_8_4 rfl rfl ?_
    refine r_aldR cd_8_5 rfl rfl ?_
    refine r_get cd_8_6 rfl o5 rfl ?_
    refine r_ic64 cd_8_9 rfl ⟨by omega, by omega⟩ (inR_of hI.bn (by decide) (by decide)) (fun n1 => ?_) (fun n1 => ?_)
    · refine r_aldR cd_8_12 rfl rfl ?_
      refine r_ild cd_8_13 rfl rfl ?_
      refine r_cI (k_4 hR hI i (by omega)) cd_8_14 rfl rfl rfl (rc0 o5 rfl) rfl rfl rfl ?_
      refine r_if51b cd_8_17 rfl (fun n2 => ?_) (fun n2 => ?_)
      · refine r_inc (v := ((i + 1 : Nat) : Int)) cd_8_26 rfl rfl rfl (by omega) (L' := [aR (B + 5), aI acc, aI ((i + 1 : Nat) : Int)]) rfl ?_
        refine r_goto cd_8_29 ?_
        exact ih (i + 1) acc r (by omega) ha1 (hr.trans (itF_step (setG_f (by simpa [flyF] using n2) ha1)))
      · refine r_ild cd_8_20 rfl rfl ?_
        refine r_con (v := 1) cd_8_21 rfl (by decide) ?_
        refine r_ild cd_8_22 rfl rfl ?_
        refine r_shl cd_8_23 rfl ?_
        refine r_or cd_8_24 rfl ?_
        refine r_ist cd_8_25 rfl rfl (L' := [aR (B + 5), aI (orI acc (shlI 1 ((i : Nat) : Int))), aI ((i : Nat) : Int)]) rfl ?_
        refine r_inc (v := ((i + 1 : Nat) : Int)) cd_8_26 rfl rfl rfl (by omega) (L' := [aR (B + 5), aI (orI acc (shlI 1 ((i : Nat) : Int))), aI ((i + 1 : Nat) : Int)]) rfl ?_
        refine r_goto cd_8_29 ?_
        exact ih (i + 1) (orI acc (shlI 1 ((i : Nat) : Int))) r (by omega) (op2_in _ _ _) (hr.trans (itF_step (setG_t (by simpa [flyF] using n2))))
    · exact absurd n1 (by omega)
theorem k_8 {h : aH} {B : Nat} {w : Nat → Int} (hR : Rp h B w) (hI : Inv0 w)  : Ct 2 8 [aR (B + 5)] h (.inl (some (aI (setF (flyF w) (nB w)))), h) := by
  obtain ⟨c, ⟨o0, o1, o2, o3, o4, o5, o6, o7, o8, o9, o10, o11, o12, o13, o14, o15, o16, o17⟩, a0, a1, a2, a3, a4, a5, a6, a7, a8, a9, a10, a11, a12, a13, a14⟩ := id hR
  have hbn := hI.bNe
  have hpn := hI.pNe
  have x0 := hI.len
  have x1 := hI.hour
  have x2 := hI.gas
  have x3 := hI.leak
  have x4 := hI.gn
  have x5 := hI.bn
  have x6 := hI.pn
  refine Ct.of [aR (B + 5), aU, aU] rfl ?_
  refine r_con (v := 0) cd_8_0 rfl (by decide) ?_
  refine r_ist cd_8_1 rfl rfl (L' := [aR (B + 5), aI 0, aU]) rfl ?_
  refine r_con (v := 0) cd_8_2 rfl (by decide) ?_
  refine r_ist cd_8_3 rfl rfl (L' := [aR (B + 5), aI 0, aI 0]) rfl ?_
  exact lk_8 hR hI (nB w) 0 0 _ (by omega) ⟨by decide, by decide⟩ rfl
theorem lk_9 {h : aH} {B : Nat} {w : Nat → Int} (hR : Rp h B w) (hI : Inv0 w) : ∀ (m i : Nat) (acc r : Int), i + m = nB w → r = itF (lftG w) i m acc → RU 1 9 (.inl (some (aI r)), h) (4, [aR (B + 5), aI acc, aI ((i : Nat) : Int)], [], 0, 0, h) := by
  obtain ⟨c, ⟨o0, o1, o2, o3, o4, o5, o6, o7, o8, o9, o10, o11, o12, o13, o14, o15, o16, o17⟩, a0, a1, a2, a3, a4, a5, a6, a7, a8, a9, a10, a11, a12, a13, a14⟩ := id hR
  have hbn := hI.bNe
  have hpn := hI.pNe
  have x0 := hI.len
  have x1 := hI.hour
  have x2 := hI.gas
  have x3 := hI.leak
  have x4 := hI.gn
  have x5 := hI.bn
  have x6 := hI.pn
  intro m
  induction m with
  | zero =>
    intro i acc r hm hr
    refine r_ild cd_9_4 rfl rfl ?_
    refine r_aldR cd_9_5 rfl rfl ?_
    refine r_get cd_9_6 rfl o5 rfl ?_
    refine r_ic64 cd_9_9 rfl ⟨by omega, by omega⟩ (inR_of hI.bn (by decide) (by decide)) (fun n1 => ?_) (fun n1 => ?_)
    · exact absurd n1 (by omega)
    · refine r_ild cd_9_27 rfl rfl ?_
      exact r_ret cd_9_28 True.intro (rI hr)
  | succ m ih =>
    intro i acc r hm hr
    refine r_ild cd_9_4 rfl rfl ?_
    refine r_aldR cd_9_5 rfl rfl ?_
    refine r_get cd_9_6 rfl o5 rfl ?_
    refine r_ic64 cd_9_9 rfl ⟨by omega, by omega⟩ (inR_of hI.bn (by decide) (by decide)) (fun n1 => ?_) (fun n1 => ?_)
    · refine r_ild cd_9_12 rfl rfl ?_
      refine r_aldR cd_9_13 rfl rfl ?_
      refine r_get cd_9_14 rfl o5 rfl ?_
      refine r_ild cd_9_17 rfl rfl ?_
      refine r_arr (i := i) cd_9_18 rfl o7 rfl (by omega) rfl ?_
      rw [a4 (i) (by omega)]
      refine r_add (v := acc + (bo w i 1)) cd_9_19 rfl (by rfl) ?_
      refine r_ist cd_9_20 rfl rfl (L' := [aR (B + 5), aI (acc + (bo w i 1)), aI ((i : Nat) : Int)]) rfl ?_
      refine r_inc (v := ((i + 1 : Nat) : Int)) cd_9_21 rfl rfl rfl (by omega) (L' := [aR (B + 5), aI (acc + (bo w i 1)), aI ((i + 1 : Nat) : Int)]) rfl ?_
      refine r_goto cd_9_24 ?_
      exact ih (i + 1) (acc + (bo w i 1)) r (by omega) (hr.trans (itF_step (by first | rfl | (simp [lftG, bz, n1]; done) | (simp [lftG, bz, n1]; omega))))
    · exact absurd n1 (by omega)
theorem k_9 {h : aH} {B : Nat} {w : Nat → Int} (hR : Rp h B w) (hI : Inv0 w)  : Ct 1 9 [aR (B + 5)] h (.inl (some (aI (lftS w))), h) := by
  obtain ⟨c, ⟨o0, o1, o2, o3, o4, o5, o6, o7, o8, o9, o10, o11, o12, o13, o14, o15, o16, o17⟩, a0, a1, a2, a3, a4, a5, a6, a7, a8, a9, a10, a11, a12, a13, a14⟩ := id hR
  have hbn := hI.bNe
  have hpn := hI.pNe
  have x0 := hI.len
  have x1 := hI.hour
  have x2 := hI.gas
  have x3 := hI.leak
  have x4 := hI.gn
  have x5 := hI.bn
  have x6 := hI.pn
  refine Ct.of [aR (B + 5), aU, aU] rfl ?_
  refine r_con (v := 0) cd_9_0 rfl (by decide) ?_
  refine r_ist cd_9_1 rfl rfl (L' := [aR (B + 5), aI 0, aU]) rfl ?_
  refine r_con (v := 0) cd_9_2 rfl (by decide) ?_
  refine r_ist cd_9_3 rfl rfl (L' := [aR (B + 5), aI 0, aI 0]) rfl ?_
  exact lk_9 hR hI (nB w) 0 0 _ (by omega) rfl
theorem lk_18 {h : aH} {B : Nat} {w : Nat → Int} (hR : Rp h B w) (hI : Inv0 w) (x : Int) (hx : inR x) : ∀ (m i : Nat) (r : Int), i + m = nP w → r = fiF (numF w x) i m → RU 1 18 (.inl (some (aI r)), h) (2, [aR (B + 10), aI x, aI ((i : Nat) : Int)], [], 0, 0, h) := by
  obtain ⟨c, ⟨o0, o1, o2, o3, o4, o5, o6, o7, o8, o9, o10, o11, o12, o13, o14, o15, o16, o17⟩, a0, a1, a2, a3, a4, a5, a6, a7, a8, a9, a10, a11, a12, a13, a14⟩ := id hR
  have hbn := hI.bNe
  have hpn := hI.pNe
  have x0 := hI.len
  have x1 := hI.hour
  have x2 := hI.gas
  have x3 := hI.leak
  have x4 := hI.gn
  have x5 := hI.bn
  have x6 := hI.pn
  intro m
  induction m with
  | zero =>
    intro i r hm hr
    refine r_ild cd_18_2 rfl rfl ?_
    refine r_aldR cd_18_3 rfl rfl ?_
    refine r_get cd_18_4 rfl o10 rfl ?_
    refine r_ic64 cd_18_7 rfl ⟨by omega, by omega⟩ (inR_of hI.pn (by decide) (by decide)) (fun n1 => ?_) (fun n1 => ?_)
    · exact absurd n1 (by omega)
    · refine r_con (v := (-1)) cd_18_38 rfl (by decide) ?_
      exact r_ret cd_18_39 True.intro (rI hr)
  | succ m ih =>
    intro i r hm hr
    refine r_ild cd_18_2 rfl rfl ?_
    refine r_aldR cd_18_3 rfl rfl ?_
    refine r_get cd_18_4 rfl o10 rfl ?_
    refine r_ic64 cd_18_7 rfl ⟨by omega, by omega⟩ (inR_of hI.pn (by decide) (by decide)) (fun n1 => ?_) (fun n1 => ?_)
    · refine r_aldR cd_18_10 rfl rfl ?_
      refine r_get cd_18_11 rfl o10 rfl ?_
      refine r_ild cd_18_14 rfl rfl ?_
      refine r_arr (i := i) cd_18_15 rfl o15 rfl (by omega) rfl ?_
      rw [a11 (i) (by omega)]
      refine r_con (v := 2) cd_18_16 rfl (by decide) ?_
      refine r_ic61 cd_18_17 rfl (hI.paR (p := i) (k := 4) (by omega) (by decide)) ⟨by omega, by omega⟩ (fun n2 => ?_) (fun n2 => ?_)
      · refine r_inc (v := ((i + 1 : Nat) : Int)) cd_18_32 rfl rfl rfl (by omega) (L' := [aR (B + 10), aI x, aI ((i + 1 : Nat) : Int)]) rfl ?_
        refine r_goto cd_18_35 ?_
        exact ih (i + 1) r (by omega) (hr.trans (fiF_n (by first | rfl | (simp [numF, bz, n1, n2]; done))))
      · refine r_aldR cd_18_20 rfl rfl ?_
        refine r_get cd_18_21 rfl o10 rfl ?_
        refine r_ild cd_18_24 rfl rfl ?_
        refine r_arr (i := i) cd_18_25 rfl o14 rfl (by omega) rfl ?_
        rw [a10 (i) (by omega)]
        refine r_ild cd_18_26 rfl rfl ?_
        refine r_ic62 cd_18_27 rfl (hI.paR (p := i) (k := 3) (by omega) (by decide)) hx (fun n3 => ?_) (fun n3 => ?_)
        · refine r_ild cd_18_30 rfl rfl ?_
          exact r_ret cd_18_31 True.intro (rI (hr.trans (fiF_y (by first | rfl | (simp [numF, bz, n1, n2, n3]; done)))))
        · refine r_inc (v := ((i + 1 : Nat) : Int)) cd_18_32 rfl rfl rfl (by omega) (L' := [aR (B + 10), aI x, aI ((i + 1 : Nat) : Int)]) rfl ?_
          refine r_goto cd_18_35 ?_
          exact ih (i + 1) r (by omega) (hr.trans (fiF_n (by first | rfl | (simp [numF, bz, n1, n2, n3]; done))))
    · exact absurd n1 (by omega)
theorem k_18 {h : aH} {B : Nat} {w : Nat → Int} (hR : Rp h B w) (hI : Inv0 w) (x : Int) (hx : inR x) : Ct 1 18 [aR (B + 10), aI x] h (.inl (some (aI (numbd w x))), h) := by
  obtain ⟨c, ⟨o0, o1, o2, o3, o4, o5, o6, o7, o8, o9, o10, o11, o12, o13, o14, o15, o16, o17⟩, a0, a1, a2, a3, a4, a5, a6, a7, a8, a9, a10, a11, a12, a13, a14⟩ := id hR
  have hbn := hI.bNe
  have hpn := hI.pNe
  have x0 := hI.len
  have x1 := hI.hour
  have x2 := hI.gas
  have x3 := hI.leak
  have x4 := hI.gn
  have x5 := hI.bn
  have x6 := hI.pn
  refine Ct.of [aR (B + 10), aI x, aU] rfl ?_
  refine r_con (v := 0) cd_18_0 rfl (by decide) ?_
  refine r_ist cd_18_1 rfl rfl (L' := [aR (B + 10), aI x, aI 0]) rfl ?_
  exact lk_18 hR hI x hx (nP w) 0 _ (by omega) rfl
theorem numbd_c {w : Nat → Int} {x : Int} (hI : Inv0 w) : -1 ≤ numbd w x ∧ numbd w x ≤ 15 := by
  have h1 := numbd_b (w := w) x
  have h3 := hI.pNe
  omega
def lieF (w : Nat → Int) (x n : Int) (p : Nat) : Bool := decide (pa w p 4 = 0) && (decide (plc w p = x) && decide (pa w p 3 = n))
theorem lk_16 {h : aH} {B : Nat} {w : Nat → Int} (hR : Rp h B w) (hI : Inv0 w) (x : Int) (hx : inR x) (n : Int) (hn : inR n) : ∀ (m i : Nat) (r : Int), i + m = nP w → r = fiF (lieF w x n) i m → RU 1 16 (.inl (some (aI r)), h) (2, [aR (B + 10), aI x, aI n, aI ((i : Nat) : Int)], [], 0, 0, h) := by
  obtain ⟨c, ⟨o0, o1, o2, o3, o4, o5, o6, o7, o8, o9, o10, o11, o12, o13, o14, o15, o16, o17⟩, a0, a1, a2, a3, a4, a5, a6, a7, a8, a9, a10, a11, a12, a13, a14⟩ := id hR
  have hbn := hI.bNe
  have hpn := hI.pNe
  have x0 := hI.len
  have x1 := hI.hour
  have x2 := hI.gas
  have x3 := hI.leak
  have x4 := hI.gn
  have x5 := hI.bn
  have x6 := hI.pn
  intro m
  induction m with
  | zero =>
    intro i r hm hr
    refine r_ild cd_16_2 rfl rfl ?_
    refine r_aldR cd_16_3 rfl rfl ?_
    refine r_get cd_16_4 rfl o10 rfl ?_
    refine r_ic64 cd_16_7 rfl ⟨by omega, by omega⟩ (inR_of hI.pn (by decide) (by decide)) (fun n1 => ?_) (fun n1 => ?_)
    · exact absurd n1 (by omega)
    · refine r_con (v := (-1)) cd_16_47 rfl (by decide) ?_
      exact r_ret cd_16_48 True.intro (rI hr)
  | succ m ih =>
    intro i r hm hr
    refine r_ild cd_16_2 rfl rfl ?_
    refine r_aldR cd_16_3 rfl rfl ?_
    refine r_get cd_16_4 rfl o10 rfl ?_
    refine r_ic64 cd_16_7 rfl ⟨by omega, by omega⟩ (inR_of hI.pn (by decide) (by decide)) (fun n1 => ?_) (fun n1 => ?_)
    · refine r_aldR cd_16_10 rfl rfl ?_
      refine r_get cd_16_11 rfl o10 rfl ?_
      refine r_ild cd_16_14 rfl rfl ?_
      refine r_arr (i := i) cd_16_15 rfl o15 rfl (by omega) rfl ?_
      rw [a11 (i) (by omega)]
      refine r_if52 cd_16_16 rfl (hI.paR (p := i) (k := 4) (by omega) (by decide)) (fun n2 => ?_) (fun n2 => ?_)
      · refine r_aldR cd_16_19 rfl rfl ?_
        refine r_get cd_16_20 rfl o10 rfl ?_
        refine r_ild cd_16_23 rfl rfl ?_
        refine r_arr (i := i) cd_16_24 rfl o17 rfl (by omega) rfl ?_
        rw [a13 (i) (by omega)]
        refine r_ild cd_16_25 rfl rfl ?_
        refine r_ic62 cd_16_26 rfl (hI.plR (p := i) (by omega)) hx (fun n3 => ?_) (fun n3 => ?_)
        · refine r_aldR cd_16_29 rfl rfl ?_
          refine r_get cd_16_30 rfl o10 rfl ?_
          refine r_ild cd_16_33 rfl rfl ?_
          refine r_arr (i := i) cd_16_34 rfl o14 rfl (by omega) rfl ?_
          rw [a10 (i) (by omega)]
          refine r_ild cd_16_35 rfl rfl ?_
          refine r_ic62 cd_16_36 rfl (hI.paR (p := i) (k := 3) (by omega) (by decide)) hn (fun n4 => ?_) (fun n4 => ?_)
          · refine r_ild cd_16_39 rfl rfl ?_
            exact r_ret cd_16_40 True.intro (rI (hr.trans (fiF_y (by first | rfl | (simp [lieF, bz, n1, n2, n3, n4]; done)))))
          · refine r_inc (v := ((i + 1 : Nat) : Int)) cd_16_41 rfl rfl rfl (by omega) (L' := [aR (B + 10), aI x, aI n, aI ((i + 1 : Nat) : Int)]) rfl ?_
            refine r_goto cd_16_44 ?_
            exact ih (i + 1) r (by omega) (hr.trans (fiF_n (by first | rfl | (simp [lieF, bz, n1, n2, n3, n4]; done))))
        · refine r_inc (v := ((i + 1 : Nat) : Int)) cd_16_41 rfl rfl rfl (by omega) (L' := [aR (B + 10), aI x, aI n, aI ((i + 1 : Nat) : Int)]) rfl ?_
          refine r_goto cd_16_44 ?_
          exact ih (i + 1) r (by omega) (hr.trans (fiF_n (by first | rfl | (simp [lieF, bz, n1, n2, n3]; done))))
      · refine r_inc (v := ((i + 1 : Nat) : Int)) cd_16_41 rfl rfl rfl (by omega) (L' := [aR (B + 10), aI x, aI n, aI ((i + 1 : Nat) : Int)]) rfl ?_
        refine r_goto cd_16_44 ?_
        exact ih (i + 1) r (by omega) (hr.trans (fiF_n (by first | rfl | (simp [lieF, bz, n1, n2]; done))))
    · exact absurd n1 (by omega)
theorem lie_found {w : Nat → Int} (hI : Inv0 w) (x n : Int) : fiF (lieF w x n) 0 (nP w) = foundP w x n := by
  rcases fiF_spec (f := numF w n) (i := 0) (m := nP w) with ⟨h1, h2⟩ | ⟨p, -, h2, h3, h4, h5⟩
  · have e : foundP w x n = -1 := by unfold foundP numbd; rw [if_pos h1]
    rw [e]
    rcases fiF_spec (f := lieF w x n) (i := 0) (m := nP w) with ⟨g1, -⟩ | ⟨q, -, g2, -, g4, -⟩
    · exact g1
    · have g5 := h2 q (by omega) g2
      unfold lieF at g4
      unfold numF at g5
      simp at g4 g5
      exact absurd g4.2.2 (g5 (by omega))
  · have e0 : numbd w n = ((p : Nat) : Int) := h3
    have hu : ∀ q, q < nP w → lieF w x n q = true → q = p := fun q hq g4 => by
      unfold lieF at g4
      unfold numF at h4
      simp at g4 h4
      refine Classical.byContradiction fun hne => hI.uniq q p hq (by omega) hne (by omega) h4.1 (by omega)
    rcases fiF_spec (f := lieF w x n) (i := 0) (m := nP w) with ⟨g1, g2⟩ | ⟨q, -, g2, g3, g4, -⟩
    · rw [g1]
      unfold foundP
      rw [e0, if_neg (by omega), Int.toNat_natCast]
      have g5 := g2 p (by omega) h2
      split
      · rename_i hl
        unfold lies at hl
        unfold numF at h4
        simp at hl h4
        unfold lieF plc at g5
        simp [hl, h4] at g5
      · rfl
    · have := hu q (by omega) g4
      subst this
      rw [g3]
      unfold foundP
      rw [e0, if_neg (by omega), Int.toNat_natCast, if_pos]
      unfold lieF at g4
      simp at g4
      exact lies_t g4.1 g4.2.1
theorem k_16 {h : aH} {B : Nat} {w : Nat → Int} (hR : Rp h B w) (hI : Inv0 w) (x : Int) (hx : inR x) (n : Int) (hn : inR n) : Ct 1 16 [aR (B + 10), aI x, aI n] h (.inl (some (aI (foundP w x n))), h) := by
  obtain ⟨c, ⟨o0, o1, o2, o3, o4, o5, o6, o7, o8, o9, o10, o11, o12, o13, o14, o15, o16, o17⟩, a0, a1, a2, a3, a4, a5, a6, a7, a8, a9, a10, a11, a12, a13, a14⟩ := id hR
  have hbn := hI.bNe
  have hpn := hI.pNe
  have x0 := hI.len
  have x1 := hI.hour
  have x2 := hI.gas
  have x3 := hI.leak
  have x4 := hI.gn
  have x5 := hI.bn
  have x6 := hI.pn
  refine Ct.of [aR (B + 10), aI x, aI n, aU] rfl ?_
  refine r_con (v := 0) cd_16_0 rfl (by decide) ?_
  refine r_ist cd_16_1 rfl rfl (L' := [aR (B + 10), aI x, aI n, aI 0]) rfl ?_
  exact lk_16 hR hI x hx n hn (nP w) 0 _ (by omega) (lie_found hI x n).symm
theorem found_c {w : Nat → Int} {x n : Int} (hI : Inv0 w) : -1 ≤ foundP w x n ∧ foundP w x n ≤ 15 := by
  have h1 := foundP_b (w := w) x n
  have h3 := hI.pNe
  omega
theorem lk_20 {h : aH} {B : Nat} {w : Nat → Int} (hR : Rp h B w) (hI : Inv0 w) (b : Nat) (hb : b < 8) : ∀ (m i : Nat) (acc r : Int), i + m = nP w → inR acc → r = itF (setG (fun p => tied w p b)) i m acc → RU 1 20 (.inl (some (aI r)), h) (4, [aR (B + 10), aI ((b : Nat) : Int), aI acc, aI ((i : Nat) : Int)], [], 0, 0, h) := by
  obtain ⟨c, ⟨o0, o1, o2, o3, o4, o5, o6, o7, o8, o9, o10, o11, o12, o13, o14, o15, o16, o17⟩, a0, a1, a2, a3, a4, a5, a6, a7, a8, a9, a10, a11, a12, a13, a14⟩ := id hR
  have hbn := hI.bNe
  have hpn := hI.pNe
  have x0 := hI.len
  have x1 := hI.hour
  have x2 := hI.gas
  have x3 := hI.leak
  have x4 := hI.gn
  have x5 := hI.bn
  have x6 := hI.pn
  intro m
  induction m with
  | zero =>
    intro i acc r hm ha1 hr
    refine r_ild cd_20_4 rfl rfl ?_
    refine r_aldR cd_20_5 rfl rfl ?_
    refine r_get cd_20_6 rfl o10 rfl ?_
    refine r_ic64 cd_20_9 rfl ⟨by omega, by omega⟩ (inR_of hI.pn (by decide) (by decide)) (fun n1 => ?_) (fun n1 => ?_)
    · exact absurd n1 (by omega)
    · refine r_ild cd_20_34 rfl rfl ?_
      exact r_ret cd_20_35 True.intro (rI hr)
  | succ m ih =>
    intro i acc r hm ha1 hr
    refine r_ild cd_20_4 rfl rfl ?_
    refine r_aldR cd_20_5 rfl rfl ?_
    refine r_get cd_20_6 rfl o10 rfl ?_
    refine r_ic64 cd_20_9 rfl ⟨by omega, by omega⟩ (inR_of hI.pn (by decide) (by decide)) (fun n1 => ?_) (fun n1 => ?_)
    · refine r_aldR cd_20_12 rfl rfl ?_
      refine r_get cd_20_13 rfl o10 rfl ?_
      refine r_ild cd_20_16 rfl rfl ?_
      refine r_arr (i := i) cd_20_17 rfl o16 rfl (by omega) rfl ?_
      rw [a12 (i) (by omega)]
      refine r_ild cd_20_18 rfl rfl ?_
      refine r_ic62 cd_20_19 rfl (hI.caR (p := i) (by omega)) ⟨by omega, by omega⟩ (fun n2 => ?_) (fun n2 => ?_)
      · refine r_ild cd_20_22 rfl rfl ?_
        refine r_con (v := 1) cd_20_23 rfl (by decide) ?_
        refine r_ild cd_20_24 rfl rfl ?_
        refine r_shl cd_20_25 rfl ?_
        refine r_or cd_20_26 rfl ?_
        refine r_ist cd_20_27 rfl rfl (L' := [aR (B + 10), aI ((b : Nat) : Int), aI (orI acc (shlI 1 ((i : Nat) : Int))), aI ((i : Nat) : Int)]) rfl ?_
        refine r_inc (v := ((i + 1 : Nat) : Int)) cd_20_28 rfl rfl rfl (by omega) (L' := [aR (B + 10), aI ((b : Nat) : Int), aI (orI acc (shlI 1 ((i : Nat) : Int))), aI ((i + 1 : Nat) : Int)]) rfl ?_
        refine r_goto cd_20_31 ?_
        exact ih (i + 1) (orI acc (shlI 1 ((i : Nat) : Int))) r (by omega) (op2_in _ _ _) (hr.trans (itF_step (setG_t (carr_iff.mp n2))))
      · refine r_inc (v := ((i + 1 : Nat) : Int)) cd_20_28 rfl rfl rfl (by omega) (L' := [aR (B + 10), aI ((b : Nat) : Int), aI acc, aI ((i + 1 : Nat) : Int)]) rfl ?_
        refine r_goto cd_20_31 ?_
        exact ih (i + 1) acc r (by omega) ha1 (hr.trans (itF_step (setG_f (carr_f n2) ha1)))
    · exact absurd n1 (by omega)
theorem k_20 {h : aH} {B : Nat} {w : Nat → Int} (hR : Rp h B w) (hI : Inv0 w) (b : Nat) (g0 : b < 8) : Ct 1 20 [aR (B + 10), aI ((b : Nat) : Int)] h (.inl (some (aI (setF (fun p => tied w p b) (nP w)))), h) := by
  obtain ⟨c, ⟨o0, o1, o2, o3, o4, o5, o6, o7, o8, o9, o10, o11, o12, o13, o14, o15, o16, o17⟩, a0, a1, a2, a3, a4, a5, a6, a7, a8, a9, a10, a11, a12, a13, a14⟩ := id hR
  have hbn := hI.bNe
  have hpn := hI.pNe
  have x0 := hI.len
  have x1 := hI.hour
  have x2 := hI.gas
  have x3 := hI.leak
  have x4 := hI.gn
  have x5 := hI.bn
  have x6 := hI.pn
  refine Ct.of [aR (B + 10), aI ((b : Nat) : Int), aU, aU] rfl ?_
  refine r_con (v := 0) cd_20_0 rfl (by decide) ?_
  refine r_ist cd_20_1 rfl rfl (L' := [aR (B + 10), aI ((b : Nat) : Int), aI 0, aU]) rfl ?_
  refine r_con (v := 0) cd_20_2 rfl (by decide) ?_
  refine r_ist cd_20_3 rfl rfl (L' := [aR (B + 10), aI ((b : Nat) : Int), aI 0, aI 0]) rfl ?_
  exact lk_20 hR hI b g0 (nP w) 0 0 _ (by omega) ⟨by decide, by decide⟩ rfl
theorem lk_32 {h : aH} {B : Nat} {w : Nat → Int} (hR : Rp h B w) (hI : Inv0 w) (x : Int) (hx : inR x) : ∀ (m i : Nat) (acc r : Int), i + m = nP w → inR acc → r = itF (setG (fun p => lies w p x)) i m acc → RU 1 32 (.inl (some (aI r)), h) (4, [aR (B + 10), aI x, aI acc, aI ((i : Nat) : Int)], [], 0, 0, h) := by
  obtain ⟨c, ⟨o0, o1, o2, o3, o4, o5, o6, o7, o8, o9, o10, o11, o12, o13, o14, o15, o16, o17⟩, a0, a1, a2, a3, a4, a5, a6, a7, a8, a9, a10, a11, a12, a13, a14⟩ := id hR
  have hbn := hI.bNe
  have hpn := hI.pNe
  have x0 := hI.len
  have x1 := hI.hour
  have x2 := hI.gas
  have x3 := hI.leak
  have x4 := hI.gn
  have x5 := hI.bn
  have x6 := hI.pn
  intro m
  induction m with
  | zero =>
    intro i acc r hm ha1 hr
    refine r_ild cd_32_4 rfl rfl ?_
    refine r_aldR cd_32_5 rfl rfl ?_
    refine r_get cd_32_6 rfl o10 rfl ?_
    refine r_ic64 cd_32_9 rfl ⟨by omega, by omega⟩ (inR_of hI.pn (by decide) (by decide)) (fun n1 => ?_) (fun n1 => ?_)
    · exact absurd n1 (by omega)
    · refine r_ild cd_32_43 rfl rfl ?_
      exact r_ret cd_32_44 True.intro (rI hr)
  | succ m ih =>
    intro i acc r hm ha1 hr
    refine r_ild cd_32_4 rfl rfl ?_
    refine r_aldR cd_32_5 rfl rfl ?_
    refine r_get cd_32_6 rfl o10 rfl ?_
    refine r_ic64 cd_32_9 rfl ⟨by omega, by omega⟩ (inR_of hI.pn (by decide) (by decide)) (fun n1 => ?_) (fun n1 => ?_)
    · refine r_aldR cd_32_12 rfl rfl ?_
      refine r_get cd_32_13 rfl o10 rfl ?_
      refine r_ild cd_32_16 rfl rfl ?_
      refine r_arr (i := i) cd_32_17 rfl o15 rfl (by omega) rfl ?_
      rw [a11 (i) (by omega)]
      refine r_if52 cd_32_18 rfl (hI.paR (p := i) (k := 4) (by omega) (by decide)) (fun n2 => ?_) (fun n2 => ?_)
      · refine r_aldR cd_32_21 rfl rfl ?_
        refine r_get cd_32_22 rfl o10 rfl ?_
        refine r_ild cd_32_25 rfl rfl ?_
        refine r_arr (i := i) cd_32_26 rfl o17 rfl (by omega) rfl ?_
        rw [a13 (i) (by omega)]
        refine r_ild cd_32_27 rfl rfl ?_
        refine r_ic62 cd_32_28 rfl (hI.plR (p := i) (by omega)) hx (fun n3 => ?_) (fun n3 => ?_)
        · refine r_ild cd_32_31 rfl rfl ?_
          refine r_con (v := 1) cd_32_32 rfl (by decide) ?_
          refine r_ild cd_32_33 rfl rfl ?_
          refine r_shl cd_32_34 rfl ?_
          refine r_or cd_32_35 rfl ?_
          refine r_ist cd_32_36 rfl rfl (L' := [aR (B + 10), aI x, aI (orI acc (shlI 1 ((i : Nat) : Int))), aI ((i : Nat) : Int)]) rfl ?_
          refine r_inc (v := ((i + 1 : Nat) : Int)) cd_32_37 rfl rfl rfl (by omega) (L' := [aR (B + 10), aI x, aI (orI acc (shlI 1 ((i : Nat) : Int))), aI ((i + 1 : Nat) : Int)]) rfl ?_
          refine r_goto cd_32_40 ?_
          exact ih (i + 1) (orI acc (shlI 1 ((i : Nat) : Int))) r (by omega) (op2_in _ _ _) (hr.trans (itF_step (setG_t (lies_t n2 n3))))
        · refine r_inc (v := ((i + 1 : Nat) : Int)) cd_32_37 rfl rfl rfl (by omega) (L' := [aR (B + 10), aI x, aI acc, aI ((i + 1 : Nat) : Int)]) rfl ?_
          refine r_goto cd_32_40 ?_
          exact ih (i + 1) acc r (by omega) ha1 (hr.trans (itF_step (setG_f (lies_f2 n2 n3) ha1)))
      · refine r_inc (v := ((i + 1 : Nat) : Int)) cd_32_37 rfl rfl rfl (by omega) (L' := [aR (B + 10), aI x, aI acc, aI ((i + 1 : Nat) : Int)]) rfl ?_
        refine r_goto cd_32_40 ?_
        exact ih (i + 1) acc r (by omega) ha1 (hr.trans (itF_step (setG_f (lies_f1 n2) ha1)))
    · exact absurd n1 (by omega)
theorem k_32 {h : aH} {B : Nat} {w : Nat → Int} (hR : Rp h B w) (hI : Inv0 w) (x : Int) (hx : inR x) : Ct 1 32 [aR (B + 10), aI x] h (.inl (some (aI (setF (fun p => lies w p x) (nP w)))), h) := by
  obtain ⟨c, ⟨o0, o1, o2, o3, o4, o5, o6, o7, o8, o9, o10, o11, o12, o13, o14, o15, o16, o17⟩, a0, a1, a2, a3, a4, a5, a6, a7, a8, a9, a10, a11, a12, a13, a14⟩ := id hR
  have hbn := hI.bNe
  have hpn := hI.pNe
  have x0 := hI.len
  have x1 := hI.hour
  have x2 := hI.gas
  have x3 := hI.leak
  have x4 := hI.gn
  have x5 := hI.bn
  have x6 := hI.pn
  refine Ct.of [aR (B + 10), aI x, aU, aU] rfl ?_
  refine r_con (v := 0) cd_32_0 rfl (by decide) ?_
  refine r_ist cd_32_1 rfl rfl (L' := [aR (B + 10), aI x, aI 0, aU]) rfl ?_
  refine r_con (v := 0) cd_32_2 rfl (by decide) ?_
  refine r_ist cd_32_3 rfl rfl (L' := [aR (B + 10), aI x, aI 0, aI 0]) rfl ?_
  exact lk_32 hR hI x hx (nP w) 0 0 _ (by omega) ⟨by decide, by decide⟩ rfl
theorem lk_21 {h : aH} {B : Nat} {w : Nat → Int} (hR : Rp h B w) (hI : Inv0 w) (b : Nat) (hb : b < 8) : ∀ (m i : Nat) (acc r : Int), i + m = nP w → r = itF (loadG w b) i m acc → RU 1 21 (.inl (some (aI r)), h) (4, [aR (B + 10), aI ((b : Nat) : Int), aI acc, aI ((i : Nat) : Int)], [], 0, 0, h) := by
  obtain ⟨c, ⟨o0, o1, o2, o3, o4, o5, o6, o7, o8, o9, o10, o11, o12, o13, o14, o15, o16, o17⟩, a0, a1, a2, a3, a4, a5, a6, a7, a8, a9, a10, a11, a12, a13, a14⟩ := id hR
  have hbn := hI.bNe
  have hpn := hI.pNe
  have x0 := hI.len
  have x1 := hI.hour
  have x2 := hI.gas
  have x3 := hI.leak
  have x4 := hI.gn
  have x5 := hI.bn
  have x6 := hI.pn
  intro m
  induction m with
  | zero =>
    intro i acc r hm hr
    refine r_ild cd_21_4 rfl rfl ?_
    refine r_aldR cd_21_5 rfl rfl ?_
    refine r_get cd_21_6 rfl o10 rfl ?_
    refine r_ic64 cd_21_9 rfl ⟨by omega, by omega⟩ (inR_of hI.pn (by decide) (by decide)) (fun n1 => ?_) (fun n1 => ?_)
    · exact absurd n1 (by omega)
    · refine r_ild cd_21_37 rfl rfl ?_
      exact r_ret cd_21_38 True.intro (rI hr)
  | succ m ih =>
    intro i acc r hm hr
    refine r_ild cd_21_4 rfl rfl ?_
    refine r_aldR cd_21_5 rfl rfl ?_
    refine r_get cd_21_6 rfl o10 rfl ?_
    refine r_ic64 cd_21_9 rfl ⟨by omega, by omega⟩ (inR_of hI.pn (by decide) (by decide)) (fun n1 => ?_) (fun n1 => ?_)
    · refine r_aldR cd_21_12 rfl rfl ?_
      refine r_get cd_21_13 rfl o10 rfl ?_
      refine r_ild cd_21_16 rfl rfl ?_
      refine r_arr (i := i) cd_21_17 rfl o16 rfl (by omega) rfl ?_
      rw [a12 (i) (by omega)]
      refine r_ild cd_21_18 rfl rfl ?_
      refine r_ic62 cd_21_19 rfl (hI.caR (p := i) (by omega)) ⟨by omega, by omega⟩ (fun n2 => ?_) (fun n2 => ?_)
      · have n2' := carr_iff.mp n2
        refine r_ild cd_21_22 rfl rfl ?_
        refine r_aldR cd_21_23 rfl rfl ?_
        refine r_get cd_21_24 rfl o10 rfl ?_
        refine r_ild cd_21_27 rfl rfl ?_
        refine r_arr (i := i) cd_21_28 rfl o11 rfl (by omega) rfl ?_
        rw [a7 (i) (by omega)]
        refine r_add (v := acc + (pa w i 0)) cd_21_29 rfl (by rfl) ?_
        refine r_ist cd_21_30 rfl rfl (L' := [aR (B + 10), aI ((b : Nat) : Int), aI (acc + (pa w i 0)), aI ((i : Nat) : Int)]) rfl ?_
        refine r_inc (v := ((i + 1 : Nat) : Int)) cd_21_31 rfl rfl rfl (by omega) (L' := [aR (B + 10), aI ((b : Nat) : Int), aI (acc + (pa w i 0)), aI ((i + 1 : Nat) : Int)]) rfl ?_
        refine r_goto cd_21_34 ?_
        exact ih (i + 1) (acc + (pa w i 0)) r (by omega) (hr.trans (itF_step (by first | rfl | (simp [loadG, bz, n1, n2']; done) | (simp [loadG, bz, n1, n2']; omega))))
      · have n2' := carr_f n2
        refine r_inc (v := ((i + 1 : Nat) : Int)) cd_21_31 rfl rfl rfl (by omega) (L' := [aR (B + 10), aI ((b : Nat) : Int), aI acc, aI ((i + 1 : Nat) : Int)]) rfl ?_
        refine r_goto cd_21_34 ?_
        exact ih (i + 1) (acc) r (by omega) (hr.trans (itF_step (by first | rfl | (simp [loadG, bz, n1, n2']; done) | (simp [loadG, bz, n1, n2']; omega))))
    · exact absurd n1 (by omega)
theorem k_21 {h : aH} {B : Nat} {w : Nat → Int} (hR : Rp h B w) (hI : Inv0 w) (b : Nat) (g0 : b < 8) : Ct 1 21 [aR (B + 10), aI ((b : Nat) : Int)] h (.inl (some (aI (loadOf w b))), h) := by
  obtain ⟨c, ⟨o0, o1, o2, o3, o4, o5, o6, o7, o8, o9, o10, o11, o12, o13, o14, o15, o16, o17⟩, a0, a1, a2, a3, a4, a5, a6, a7, a8, a9, a10, a11, a12, a13, a14⟩ := id hR
  have hbn := hI.bNe
  have hpn := hI.pNe
  have x0 := hI.len
  have x1 := hI.hour
  have x2 := hI.gas
  have x3 := hI.leak
  have x4 := hI.gn
  have x5 := hI.bn
  have x6 := hI.pn
  refine Ct.of [aR (B + 10), aI ((b : Nat) : Int), aU, aU] rfl ?_
  refine r_con (v := 0) cd_21_0 rfl (by decide) ?_
  refine r_ist cd_21_1 rfl rfl (L' := [aR (B + 10), aI ((b : Nat) : Int), aI 0, aU]) rfl ?_
  refine r_con (v := 0) cd_21_2 rfl (by decide) ?_
  refine r_ist cd_21_3 rfl rfl (L' := [aR (B + 10), aI ((b : Nat) : Int), aI 0, aI 0]) rfl ?_
  exact lk_21 hR hI b g0 (nP w) 0 0 _ (by omega) rfl
theorem k_28 {h : aH} {B : Nat} {w : Nat → Int} (hR : Rp h B w) (hI : Inv0 w) (p : Nat) (g0 : p < nP w) : Ct 2 28 [aR (B + 10), aI ((p : Nat) : Int)] h (.inl (some (aI (fareP w p))), h) := by
  obtain ⟨c, ⟨o0, o1, o2, o3, o4, o5, o6, o7, o8, o9, o10, o11, o12, o13, o14, o15, o16, o17⟩, a0, a1, a2, a3, a4, a5, a6, a7, a8, a9, a10, a11, a12, a13, a14⟩ := id hR
  have hbn := hI.bNe
  have hpn := hI.pNe
  have x0 := hI.len
  have x1 := hI.hour
  have x2 := hI.gas
  have x3 := hI.leak
  have x4 := hI.gn
  have x5 := hI.bn
  have x6 := hI.pn
  have hp0 := hI.ps p g0
  refine Ct.of [aR (B + 10), aI ((p : Nat) : Int)] rfl ?_
  refine r_aldR cd_28_0 rfl rfl ?_
  refine r_get cd_28_1 rfl o10 rfl ?_
  refine r_ild cd_28_4 rfl rfl ?_
  refine r_arr (i := p) cd_28_5 rfl o11 rfl (by omega) rfl ?_
  rw [a7 (p) (by omega)]
  refine r_aldR cd_28_6 rfl rfl ?_
  refine r_get cd_28_7 rfl o10 rfl ?_
  refine r_ild cd_28_10 rfl rfl ?_
  refine r_arr (i := p) cd_28_11 rfl o12 rfl (by omega) rfl ?_
  rw [a8 (p) (by omega)]
  refine r_aldR cd_28_12 rfl rfl ?_
  refine r_get cd_28_13 rfl o10 rfl ?_
  refine r_ild cd_28_16 rfl rfl ?_
  refine r_arr (i := p) cd_28_17 rfl o13 rfl (by omega) rfl ?_
  rw [a9 (p) (by omega)]
  refine r_sub (v := (pa w p 1) - (pa w p 2)) cd_28_18 rfl (by rfl) ?_
  refine r_cI (k_374 ((pa w p 1) - (pa w p 2)) ⟨by omega, by omega⟩) cd_28_19 rfl rfl rfl True.intro rfl rfl rfl ?_
  refine r_mul (v := (pa w p 0) * (absI ((pa w p 1) - (pa w p 2)))) cd_28_22 rfl (by rfl) ?_
  exact r_ret cd_28_23 True.intro (rfl)
