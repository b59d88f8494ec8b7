/-! THE CLASS: what refuses a command; signs (written by wip/whole/gen44.py) -/
theorem k_385 {h : aH} (k : Nat) (hk : k < 15) : Ct 1 385 [aC (4 + k)] h (.inl (some (aI ((k : Nat) : Int))), h) := by
  refine Ct.of [aC (4 + k)] rfl ?_
  refine r_aldC cd_385_0 rfl rfl ?_
  refine r_cget (v := aI ((k : Nat) : Int)) cd_385_1 rfl (by show (if 4 ≤ 4 + k ∧ 4 + k < 19 then _ else _) = _; rw [if_pos (by omega), show 4 + k - 4 = k by omega]) ?_
  exact r_ret cd_385_4 True.intro (rfl)
theorem k_76_0 {h : aH} {B : Nat} {w : Nat → Int} (hR : Rp h B w) (hI : Inv0 w) (x : Int) (z : Int) (d : Int)  : Ct 4 76 [aR B, aC 4, aI x, aI z, aI d] h (.inl (some (aI (bz (false)))), h) := by
  obtain ⟨c, ⟨o0, o1, o2, o3, o4, o5, o6, o7, o8, o9, o10, o11, o12, o13, o14, o15, o16, o17⟩, a0, a1, a2, a3, a4, a5, a6, a7, a8, a9, a10, a11, a12, a13, a14⟩ := id hR
  have hbn := hI.bNe
  have hpn := hI.pNe
  have x0 := hI.len
  have x1 := hI.hour
  have x2 := hI.gas
  have x3 := hI.leak
  have x4 := hI.gn
  have x5 := hI.bn
  have x6 := hI.pn
  refine Ct.of [aR B, aC 4, aI x, aI z, aI d] rfl ?_
  refine r_cst cd_76_0 rfl ?_
  refine r_aldC cd_76_3 rfl rfl ?_
  refine r_cI (k_385 0 (by decide)) cd_76_4 rfl rfl rfl ⟨by decide, by decide⟩ rfl rfl rfl ?_
  refine r_arrC (t := 0) (i := 0) cd_76_7 rfl (by decide) rfl rfl rfl (by decide) rfl ?_
  refine RU.cast (pc2 := 8) (S2 := [aI 12]) rfl rfl rfl ?_
  refine r_tsw (t := 241) cd_76_8 ⟨by omega, by omega⟩ (by decide) ?_
  refine r_con (v := 0) cd_76_241 rfl (by decide) ?_
  exact r_ret cd_76_242 (Or.inl rfl) (rB (by first | rfl | simp [bz]))
theorem k_76_1 {h : aH} {B : Nat} {w : Nat → Int} (hR : Rp h B w) (hI : Inv0 w) (x : Int) (z : Int) (d : Int)  : Ct 4 76 [aR B, aC 5, aI x, aI z, aI d] h (.inl (some (aI (bz (false)))), h) := by
  obtain ⟨c, ⟨o0, o1, o2, o3, o4, o5, o6, o7, o8, o9, o10, o11, o12, o13, o14, o15, o16, o17⟩, a0, a1, a2, a3, a4, a5, a6, a7, a8, a9, a10, a11, a12, a13, a14⟩ := id hR
  have hbn := hI.bNe
  have hpn := hI.pNe
  have x0 := hI.len
  have x1 := hI.hour
  have x2 := hI.gas
  have x3 := hI.leak
  have x4 := hI.gn
  have x5 := hI.bn
  have x6 := hI.pn
  refine Ct.of [aR B, aC 5, aI x, aI z, aI d] rfl ?_
  refine r_cst cd_76_0 rfl ?_
  refine r_aldC cd_76_3 rfl rfl ?_
  refine r_cI (k_385 1 (by decide)) cd_76_4 rfl rfl rfl ⟨by decide, by decide⟩ rfl rfl rfl ?_
  refine r_arrC (t := 0) (i := 1) cd_76_7 rfl (by decide) rfl rfl rfl (by decide) rfl ?_
  refine RU.cast (pc2 := 8) (S2 := [aI 13]) rfl rfl rfl ?_
  refine r_tsw (t := 241) cd_76_8 ⟨by omega, by omega⟩ (by decide) ?_
  refine r_con (v := 0) cd_76_241 rfl (by decide) ?_
  exact r_ret cd_76_242 (Or.inl rfl) (rB (by first | rfl | simp [bz]))
theorem k_76_2 {h : aH} {B : Nat} {w : Nat → Int} (hR : Rp h B w) (hI : Inv0 w) (x : Int) (z : Int) (d : Int)  : Ct 4 76 [aR B, aC 6, aI x, aI z, aI d] h (.inl (some (aI (bz (decide (w 4 = 12))))), h) := by
  obtain ⟨c, ⟨o0, o1, o2, o3, o4, o5, o6, o7, o8, o9, o10, o11, o12, o13, o14, o15, o16, o17⟩, a0, a1, a2, a3, a4, a5, a6, a7, a8, a9, a10, a11, a12, a13, a14⟩ := id hR
  have hbn := hI.bNe
  have hpn := hI.pNe
  have x0 := hI.len
  have x1 := hI.hour
  have x2 := hI.gas
  have x3 := hI.leak
  have x4 := hI.gn
  have x5 := hI.bn
  have x6 := hI.pn
  refine Ct.of [aR B, aC 6, aI x, aI z, aI d] rfl ?_
  refine r_cst cd_76_0 rfl ?_
  refine r_aldC cd_76_3 rfl rfl ?_
  refine r_cI (k_385 2 (by decide)) cd_76_4 rfl rfl rfl ⟨by decide, by decide⟩ rfl rfl rfl ?_
  refine r_arrC (t := 0) (i := 2) cd_76_7 rfl (by decide) rfl rfl rfl (by decide) rfl ?_
  refine RU.cast (pc2 := 8) (S2 := [aI 1]) rfl rfl rfl ?_
  refine r_tsw (t := 68) cd_76_8 ⟨by omega, by omega⟩ (by decide) ?_
  refine r_aldR cd_76_68 rfl rfl ?_
  refine r_get cd_76_69 rfl o0 rfl ?_
  refine r_cI (k_50 hR hI ) cd_76_72 rfl rfl rfl (rc0 o1 rfl) rfl rfl rfl ?_
  exact r_ret cd_76_75 (bz_fit _) (rB (by first | rfl | simp [bz]))
theorem k_76_3 {h : aH} {B : Nat} {w : Nat → Int} (hR : Rp h B w) (hI : Inv0 w) (x : Int) (z : Int) (d : Int)  : Ct 4 76 [aR B, aC 7, aI x, aI z, aI d] h (.inl (some (aI (bz (false)))), h) := by
  obtain ⟨c, ⟨o0, o1, o2, o3, o4, o5, o6, o7, o8, o9, o10, o11, o12, o13, o14, o15, o16, o17⟩, a0, a1, a2, a3, a4, a5, a6, a7, a8, a9, a10, a11, a12, a13, a14⟩ := id hR
  have hbn := hI.bNe
  have hpn := hI.pNe
  have x0 := hI.len
  have x1 := hI.hour
  have x2 := hI.gas
  have x3 := hI.leak
  have x4 := hI.gn
  have x5 := hI.bn
  have x6 := hI.pn
  refine Ct.of [aR B, aC 7, aI x, aI z, aI d] rfl ?_
  refine r_cst cd_76_0 rfl ?_
  refine r_aldC cd_76_3 rfl rfl ?_
  refine r_cI (k_385 3 (by decide)) cd_76_4 rfl rfl rfl ⟨by decide, by decide⟩ rfl rfl rfl ?_
  refine r_arrC (t := 0) (i := 3) cd_76_7 rfl (by decide) rfl rfl rfl (by decide) rfl ?_
  refine RU.cast (pc2 := 8) (S2 := [aI 14]) rfl rfl rfl ?_
  refine r_tsw (t := 241) cd_76_8 ⟨by omega, by omega⟩ (by decide) ?_
  refine r_con (v := 0) cd_76_241 rfl (by decide) ?_
  exact r_ret cd_76_242 (Or.inl rfl) (rB (by first | rfl | simp [bz]))
theorem k_76_4 {h : aH} {B : Nat} {w : Nat → Int} (hR : Rp h B w) (hI : Inv0 w) (x : Int) (z : Int) (d : Int)  : Ct 4 76 [aR B, aC 8, aI x, aI z, aI d] h (.inl (some (aI (bz (decide (w 5 = 8))))), h) := by
  obtain ⟨c, ⟨o0, o1, o2, o3, o4, o5, o6, o7, o8, o9, o10, o11, o12, o13, o14, o15, o16, o17⟩, a0, a1, a2, a3, a4, a5, a6, a7, a8, a9, a10, a11, a12, a13, a14⟩ := id hR
  have hbn := hI.bNe
  have hpn := hI.pNe
  have x0 := hI.len
  have x1 := hI.hour
  have x2 := hI.gas
  have x3 := hI.leak
  have x4 := hI.gn
  have x5 := hI.bn
  have x6 := hI.pn
  refine Ct.of [aR B, aC 8, aI x, aI z, aI d] rfl ?_
  refine r_cst cd_76_0 rfl ?_
  refine r_aldC cd_76_3 rfl rfl ?_
  refine r_cI (k_385 4 (by decide)) cd_76_4 rfl rfl rfl ⟨by decide, by decide⟩ rfl rfl rfl ?_
  refine r_arrC (t := 0) (i := 4) cd_76_7 rfl (by decide) rfl rfl rfl (by decide) rfl ?_
  refine RU.cast (pc2 := 8) (S2 := [aI 2]) rfl rfl rfl ?_
  refine r_tsw (t := 76) cd_76_8 ⟨by omega, by omega⟩ (by decide) ?_
  refine r_aldR cd_76_76 rfl rfl ?_
  refine r_get cd_76_77 rfl o0 rfl ?_
  refine r_cI (k_1 hR hI ) cd_76_80 rfl rfl rfl (rc0 o5 rfl) rfl rfl rfl ?_
  exact r_ret cd_76_83 (bz_fit _) (rB (by first | rfl | simp [bz]))
theorem k_76_5 {h : aH} {B : Nat} {w : Nat → Int} (hR : Rp h B w) (hI : Inv0 w) (x : Int) (z : Int) (d : Int) (hd : inR d) : Ct 4 76 [aR B, aC 9, aI x, aI z, aI d] h (.inl (some (aI (bz (!(decide (w 6 < 16) && decide (numbd w d = -1)))))), h) := by
  obtain ⟨c, ⟨o0, o1, o2, o3, o4, o5, o6, o7, o8, o9, o10, o11, o12, o13, o14, o15, o16, o17⟩, a0, a1, a2, a3, a4, a5, a6, a7, a8, a9, a10, a11, a12, a13, a14⟩ := id hR
  have hbn := hI.bNe
  have hpn := hI.pNe
  have x0 := hI.len
  have x1 := hI.hour
  have x2 := hI.gas
  have x3 := hI.leak
  have x4 := hI.gn
  have x5 := hI.bn
  have x6 := hI.pn
  refine Ct.of [aR B, aC 9, aI x, aI z, aI d] rfl ?_
  refine r_cst cd_76_0 rfl ?_
  refine r_aldC cd_76_3 rfl rfl ?_
  refine r_cI (k_385 5 (by decide)) cd_76_4 rfl rfl rfl ⟨by decide, by decide⟩ rfl rfl rfl ?_
  refine r_arrC (t := 0) (i := 5) cd_76_7 rfl (by decide) rfl rfl rfl (by decide) rfl ?_
  refine RU.cast (pc2 := 8) (S2 := [aI 3]) rfl rfl rfl ?_
  refine r_tsw (t := 84) cd_76_8 ⟨by omega, by omega⟩ (by decide) ?_
  refine r_aldR cd_76_84 rfl rfl ?_
  refine r_get cd_76_85 rfl o0 rfl ?_
  refine r_cI (k_17 hR hI ) cd_76_88 rfl rfl rfl (rc0 o10 rfl) rfl rfl rfl ?_
  refine r_if52b cd_76_91 rfl (fun n1 => ?_) (fun n1 => ?_)
  · simp only [decide_eq_true_eq, decide_eq_false_iff_not, Bool.not_eq_true', Bool.not_eq_false'] at n1
    refine r_aldR cd_76_94 rfl rfl ?_
    refine r_get cd_76_95 rfl o0 rfl ?_
    refine r_ild cd_76_98 rfl rfl ?_
    refine r_cI (k_18 hR hI d hd) cd_76_100 rfl rfl rfl (rc0 o10 rfl) rfl rfl rfl ?_
    refine r_con (v := (-1)) cd_76_103 rfl (by decide) ?_
    refine r_ic61 cd_76_104 rfl (inR_of (numbd_c hI) (by decide) (by decide)) ⟨by omega, by omega⟩ (fun n2 => ?_) (fun n2 => ?_)
    · refine r_con (v := 0) cd_76_111 rfl (by decide) ?_
      exact r_ret cd_76_112 (Or.inl rfl) (rB (by first | rfl | (simp [bz, n1, n2]; done) | (simp [bz]; omega) | (have e9 : w 6 < 16 := (by omega); simp [bz, e9, n1, n2]; done)))
    · refine r_con (v := 1) cd_76_107 rfl (by decide) ?_
      refine r_goto cd_76_108 ?_
      exact r_ret cd_76_112 (Or.inr rfl) (rB (by first | rfl | (simp [bz, n1, n2]; done) | (simp [bz]; omega) | (have e9 : w 6 < 16 := (by omega); simp [bz, e9, n1, n2]; done)))
  · simp only [decide_eq_true_eq, decide_eq_false_iff_not, Bool.not_eq_true', Bool.not_eq_false'] at n1
    refine r_con (v := 1) cd_76_107 rfl (by decide) ?_
    refine r_goto cd_76_108 ?_
    exact r_ret cd_76_112 (Or.inr rfl) (rB (by first | rfl | (simp [bz, n1]; done) | (simp [bz]; omega) | (have e9 : w 6 < 16 := (by omega); simp [bz, e9, n1]; done)))
theorem k_76_6 {h : aH} {B : Nat} {w : Nat → Int} (hR : Rp h B w) (hI : Inv0 w) (d : Int) (p : Nat) (g0 : p < nP w) (b : Nat) (g1 : b < nB w) (g2 : knots w b ≤ 4) : Ct 4 76 [aR B, aC 10, aI ((p : Nat) : Int), aI ((b : Nat) : Int), aI d] h (.inl (some (aI (bz (!decide (whyT w p b = 0))))), h) := by
  obtain ⟨c, ⟨o0, o1, o2, o3, o4, o5, o6, o7, o8, o9, o10, o11, o12, o13, o14, o15, o16, o17⟩, a0, a1, a2, a3, a4, a5, a6, a7, a8, a9, a10, a11, a12, a13, a14⟩ := id hR
  have hbn := hI.bNe
  have hpn := hI.pNe
  have x0 := hI.len
  have x1 := hI.hour
  have x2 := hI.gas
  have x3 := hI.leak
  have x4 := hI.gn
  have x5 := hI.bn
  have x6 := hI.pn
  refine Ct.of [aR B, aC 10, aI ((p : Nat) : Int), aI ((b : Nat) : Int), aI d] rfl ?_
  refine r_cst cd_76_0 rfl ?_
  refine r_aldC cd_76_3 rfl rfl ?_
  refine r_cI (k_385 6 (by decide)) cd_76_4 rfl rfl rfl ⟨by decide, by decide⟩ rfl rfl rfl ?_
  refine r_arrC (t := 0) (i := 6) cd_76_7 rfl (by decide) rfl rfl rfl (by decide) rfl ?_
  refine RU.cast (pc2 := 8) (S2 := [aI 4]) rfl rfl rfl ?_
  refine r_tsw (t := 113) cd_76_8 ⟨by omega, by omega⟩ (by decide) ?_
  refine r_aldR cd_76_113 rfl rfl ?_
  refine r_ild cd_76_114 rfl rfl ?_
  refine r_ild cd_76_115 rfl rfl ?_
  refine r_cI (k_77 hR hI p b (by omega) (by omega) (by omega)) cd_76_116 rfl rfl rfl (rc0 o0 rfl) rfl rfl rfl ?_
  refine r_if51 cd_76_119 rfl (inR_of (whyT_b _ _ _) (by decide) (by decide)) (fun n1 => ?_) (fun n1 => ?_)
  · refine r_con (v := 0) cd_76_126 rfl (by decide) ?_
    exact r_ret cd_76_127 (Or.inl rfl) (rB (by first | rfl | (simp [bz, n1]; done) | (simp [bz]; omega) | (have e9 : w 6 < 16 := (by omega); simp [bz, e9, n1]; done)))
  · refine r_con (v := 1) cd_76_122 rfl (by decide) ?_
    refine r_goto cd_76_123 ?_
    exact r_ret cd_76_127 (Or.inr rfl) (rB (by first | rfl | (simp [bz, n1]; done) | (simp [bz]; omega) | (have e9 : w 6 < 16 := (by omega); simp [bz, e9, n1]; done)))
theorem k_76_7 {h : aH} {B : Nat} {w : Nat → Int} (hR : Rp h B w) (hI : Inv0 w) (z : Int) (d : Int) (p : Nat) (g0 : p < nP w) : Ct 4 76 [aR B, aC 11, aI ((p : Nat) : Int), aI z, aI d] h (.inl (some (aI (bz (!canU w p)))), h) := by
  obtain ⟨c, ⟨o0, o1, o2, o3, o4, o5, o6, o7, o8, o9, o10, o11, o12, o13, o14, o15, o16, o17⟩, a0, a1, a2, a3, a4, a5, a6, a7, a8, a9, a10, a11, a12, a13, a14⟩ := id hR
  have hbn := hI.bNe
  have hpn := hI.pNe
  have x0 := hI.len
  have x1 := hI.hour
  have x2 := hI.gas
  have x3 := hI.leak
  have x4 := hI.gn
  have x5 := hI.bn
  have x6 := hI.pn
  refine Ct.of [aR B, aC 11, aI ((p : Nat) : Int), aI z, aI d] rfl ?_
  refine r_cst cd_76_0 rfl ?_
  refine r_aldC cd_76_3 rfl rfl ?_
  refine r_cI (k_385 7 (by decide)) cd_76_4 rfl rfl rfl ⟨by decide, by decide⟩ rfl rfl rfl ?_
  refine r_arrC (t := 0) (i := 7) cd_76_7 rfl (by decide) rfl rfl rfl (by decide) rfl ?_
  refine RU.cast (pc2 := 8) (S2 := [aI 5]) rfl rfl rfl ?_
  refine r_tsw (t := 128) cd_76_8 ⟨by omega, by omega⟩ (by decide) ?_
  refine r_aldR cd_76_128 rfl rfl ?_
  refine r_ild cd_76_129 rfl rfl ?_
  refine r_cI (k_79 hR hI p (by omega)) cd_76_130 rfl rfl rfl (rc0 o0 rfl) rfl rfl rfl ?_
  refine r_if52b cd_76_133 rfl (fun n1 => ?_) (fun n1 => ?_)
  · refine r_con (v := 1) cd_76_136 rfl (by decide) ?_
    refine r_goto cd_76_137 ?_
    exact r_ret cd_76_141 (Or.inr rfl) (rB (by first | rfl | (simp [bz, n1]; done) | (simp [bz]; omega) | (have e9 : w 6 < 16 := (by omega); simp [bz, e9, n1]; done)))
  · refine r_con (v := 0) cd_76_140 rfl (by decide) ?_
    exact r_ret cd_76_141 (Or.inl rfl) (rB (by first | rfl | (simp [bz, n1]; done) | (simp [bz]; omega) | (have e9 : w 6 < 16 := (by omega); simp [bz, e9, n1]; done)))
theorem k_76_8 {h : aH} {B : Nat} {w : Nat → Int} (hR : Rp h B w) (hI : Inv0 w) (z : Int) (d : Int) (b : Nat) (g0 : b < nB w) : Ct 4 76 [aR B, aC 12, aI ((b : Nat) : Int), aI z, aI d] h (.inl (some (aI (bz (!decide (whyL w b = 0))))), h) := by
  obtain ⟨c, ⟨o0, o1, o2, o3, o4, o5, o6, o7, o8, o9, o10, o11, o12, o13, o14, o15, o16, o17⟩, a0, a1, a2, a3, a4, a5, a6, a7, a8, a9, a10, a11, a12, a13, a14⟩ := id hR
  have hbn := hI.bNe
  have hpn := hI.pNe
  have x0 := hI.len
  have x1 := hI.hour
  have x2 := hI.gas
  have x3 := hI.leak
  have x4 := hI.gn
  have x5 := hI.bn
  have x6 := hI.pn
  refine Ct.of [aR B, aC 12, aI ((b : Nat) : Int), aI z, aI d] rfl ?_
  refine r_cst cd_76_0 rfl ?_
  refine r_aldC cd_76_3 rfl rfl ?_
  refine r_cI (k_385 8 (by decide)) cd_76_4 rfl rfl rfl ⟨by decide, by decide⟩ rfl rfl rfl ?_
  refine r_arrC (t := 0) (i := 8) cd_76_7 rfl (by decide) rfl rfl rfl (by decide) rfl ?_
  refine RU.cast (pc2 := 8) (S2 := [aI 6]) rfl rfl rfl ?_
  refine r_tsw (t := 142) cd_76_8 ⟨by omega, by omega⟩ (by decide) ?_
  refine r_aldR cd_76_142 rfl rfl ?_
  refine r_ild cd_76_143 rfl rfl ?_
  refine r_cI (k_80 hR hI b (by omega)) cd_76_144 rfl rfl rfl (rc0 o0 rfl) rfl rfl rfl ?_
  refine r_if51 cd_76_147 rfl (inR_of (whyL_b _ _) (by decide) (by decide)) (fun n1 => ?_) (fun n1 => ?_)
  · refine r_con (v := 0) cd_76_154 rfl (by decide) ?_
    exact r_ret cd_76_155 (Or.inl rfl) (rB (by first | rfl | (simp [bz, n1]; done) | (simp [bz]; omega) | (have e9 : w 6 < 16 := (by omega); simp [bz, e9, n1]; done)))
  · refine r_con (v := 1) cd_76_150 rfl (by decide) ?_
    refine r_goto cd_76_151 ?_
    exact r_ret cd_76_155 (Or.inr rfl) (rB (by first | rfl | (simp [bz, n1]; done) | (simp [bz]; omega) | (have e9 : w 6 < 16 := (by omega); simp [bz, e9, n1]; done)))
theorem k_76_9 {h : aH} {B : Nat} {w : Nat → Int} (hR : Rp h B w) (hI : Inv0 w) (z : Int) (d : Int) (b : Nat) (g0 : b < nB w) : Ct 4 76 [aR B, aC 13, aI ((b : Nat) : Int), aI z, aI d] h (.inl (some (aI (bz (!decide (bo w b 3 = 1))))), h) := by
  obtain ⟨c, ⟨o0, o1, o2, o3, o4, o5, o6, o7, o8, o9, o10, o11, o12, o13, o14, o15, o16, o17⟩, a0, a1, a2, a3, a4, a5, a6, a7, a8, a9, a10, a11, a12, a13, a14⟩ := id hR
  have hbn := hI.bNe
  have hpn := hI.pNe
  have x0 := hI.len
  have x1 := hI.hour
  have x2 := hI.gas
  have x3 := hI.leak
  have x4 := hI.gn
  have x5 := hI.bn
  have x6 := hI.pn
  refine Ct.of [aR B, aC 13, aI ((b : Nat) : Int), aI z, aI d] rfl ?_
  refine r_cst cd_76_0 rfl ?_
  refine r_aldC cd_76_3 rfl rfl ?_
  refine r_cI (k_385 9 (by decide)) cd_76_4 rfl rfl rfl ⟨by decide, by decide⟩ rfl rfl rfl ?_
  refine r_arrC (t := 0) (i := 9) cd_76_7 rfl (by decide) rfl rfl rfl (by decide) rfl ?_
  refine RU.cast (pc2 := 8) (S2 := [aI 7]) rfl rfl rfl ?_
  refine r_tsw (t := 156) cd_76_8 ⟨by omega, by omega⟩ (by decide) ?_
  refine r_aldR cd_76_156 rfl rfl ?_
  refine r_get cd_76_157 rfl o0 rfl ?_
  refine r_ild cd_76_160 rfl rfl ?_
  refine r_cI (k_4 hR hI b (by omega)) cd_76_161 rfl rfl rfl (rc0 o5 rfl) rfl rfl rfl ?_
  refine r_if52b cd_76_164 rfl (fun n1 => ?_) (fun n1 => ?_)
  · simp only [decide_eq_true_eq, decide_eq_false_iff_not, Bool.not_eq_true', Bool.not_eq_false'] at n1
    refine r_con (v := 1) cd_76_167 rfl (by decide) ?_
    refine r_goto cd_76_168 ?_
    exact r_ret cd_76_172 (Or.inr rfl) (rB (by first | rfl | (simp [bz, n1]; done) | (simp [bz]; omega) | (have e9 : w 6 < 16 := (by omega); simp [bz, e9, n1]; done)))
  · simp only [decide_eq_true_eq, decide_eq_false_iff_not, Bool.not_eq_true', Bool.not_eq_false'] at n1
    refine r_con (v := 0) cd_76_171 rfl (by decide) ?_
    exact r_ret cd_76_172 (Or.inl rfl) (rB (by first | rfl | (simp [bz, n1]; done) | (simp [bz]; omega) | (have e9 : w 6 < 16 := (by omega); simp [bz, e9, n1]; done)))
theorem k_76_10 {h : aH} {B : Nat} {w : Nat → Int} (hR : Rp h B w) (hI : Inv0 w) (z : Int) (d : Int) (b : Nat) (g0 : b < nB w) : Ct 4 76 [aR B, aC 14, aI ((b : Nat) : Int), aI z, aI d] h (.inl (some (aI (bz (!decide (bo w b 3 = 2))))), h) := by
  obtain ⟨c, ⟨o0, o1, o2, o3, o4, o5, o6, o7, o8, o9, o10, o11, o12, o13, o14, o15, o16, o17⟩, a0, a1, a2, a3, a4, a5, a6, a7, a8, a9, a10, a11, a12, a13, a14⟩ := id hR
  have hbn := hI.bNe
  have hpn := hI.pNe
  have x0 := hI.len
  have x1 := hI.hour
  have x2 := hI.gas
  have x3 := hI.leak
  have x4 := hI.gn
  have x5 := hI.bn
  have x6 := hI.pn
  refine Ct.of [aR B, aC 14, aI ((b : Nat) : Int), aI z, aI d] rfl ?_
  refine r_cst cd_76_0 rfl ?_
  refine r_aldC cd_76_3 rfl rfl ?_
  refine r_cI (k_385 10 (by decide)) cd_76_4 rfl rfl rfl ⟨by decide, by decide⟩ rfl rfl rfl ?_
  refine r_arrC (t := 0) (i := 10) cd_76_7 rfl (by decide) rfl rfl rfl (by decide) rfl ?_
  refine RU.cast (pc2 := 8) (S2 := [aI 8]) rfl rfl rfl ?_
  refine r_tsw (t := 173) cd_76_8 ⟨by omega, by omega⟩ (by decide) ?_
  refine r_aldR cd_76_173 rfl rfl ?_
  refine r_get cd_76_174 rfl o0 rfl ?_
  refine r_ild cd_76_177 rfl rfl ?_
  refine r_cI (k_5 hR hI b (by omega)) cd_76_178 rfl rfl rfl (rc0 o5 rfl) rfl rfl rfl ?_
  refine r_if52b cd_76_181 rfl (fun n1 => ?_) (fun n1 => ?_)
  · simp only [decide_eq_true_eq, decide_eq_false_iff_not, Bool.not_eq_true', Bool.not_eq_false'] at n1
    refine r_con (v := 1) cd_76_184 rfl (by decide) ?_
    refine r_goto cd_76_185 ?_
    exact r_ret cd_76_189 (Or.inr rfl) (rB (by first | rfl | (simp [bz, n1]; done) | (simp [bz]; omega) | (have e9 : w 6 < 16 := (by omega); simp [bz, e9, n1]; done)))
  · simp only [decide_eq_true_eq, decide_eq_false_iff_not, Bool.not_eq_true', Bool.not_eq_false'] at n1
    refine r_con (v := 0) cd_76_188 rfl (by decide) ?_
    exact r_ret cd_76_189 (Or.inl rfl) (rB (by first | rfl | (simp [bz, n1]; done) | (simp [bz]; omega) | (have e9 : w 6 < 16 := (by omega); simp [bz, e9, n1]; done)))
theorem k_76_11 {h : aH} {B : Nat} {w : Nat → Int} (hR : Rp h B w) (hI : Inv0 w) (d : Int) (b : Nat) (g0 : b < nB w) (g : Nat) (g1 : g ≤ 29) : Ct 4 76 [aR B, aC 15, aI ((b : Nat) : Int), aI ((g : Nat) : Int), aI d] h (.inl (some (aI (bz (!canF w b ((g : Nat) : Int))))), h) := by
  obtain ⟨c, ⟨o0, o1, o2, o3, o4, o5, o6, o7, o8, o9, o10, o11, o12, o13, o14, o15, o16, o17⟩, a0, a1, a2, a3, a4, a5, a6, a7, a8, a9, a10, a11, a12, a13, a14⟩ := id hR
  have hbn := hI.bNe
  have hpn := hI.pNe
  have x0 := hI.len
  have x1 := hI.hour
  have x2 := hI.gas
  have x3 := hI.leak
  have x4 := hI.gn
  have x5 := hI.bn
  have x6 := hI.pn
  refine Ct.of [aR B, aC 15, aI ((b : Nat) : Int), aI ((g : Nat) : Int), aI d] rfl ?_
  refine r_cst cd_76_0 rfl ?_
  refine r_aldC cd_76_3 rfl rfl ?_
  refine r_cI (k_385 11 (by decide)) cd_76_4 rfl rfl rfl ⟨by decide, by decide⟩ rfl rfl rfl ?_
  refine r_arrC (t := 0) (i := 11) cd_76_7 rfl (by decide) rfl rfl rfl (by decide) rfl ?_
  refine RU.cast (pc2 := 8) (S2 := [aI 9]) rfl rfl rfl ?_
  refine r_tsw (t := 190) cd_76_8 ⟨by omega, by omega⟩ (by decide) ?_
  refine r_aldR cd_76_190 rfl rfl ?_
  refine r_ild cd_76_191 rfl rfl ?_
  refine r_ild cd_76_192 rfl rfl ?_
  refine r_cI (k_83 hR hI b g (by omega) (by omega)) cd_76_193 rfl rfl rfl (rc0 o0 rfl) rfl rfl rfl ?_
  refine r_if52b cd_76_196 rfl (fun n1 => ?_) (fun n1 => ?_)
  · refine r_con (v := 1) cd_76_199 rfl (by decide) ?_
    refine r_goto cd_76_200 ?_
    exact r_ret cd_76_204 (Or.inr rfl) (rB (by first | rfl | (simp [bz, n1]; done) | (simp [bz]; omega) | (have e9 : w 6 < 16 := (by omega); simp [bz, e9, n1]; done)))
  · refine r_con (v := 0) cd_76_203 rfl (by decide) ?_
    exact r_ret cd_76_204 (Or.inl rfl) (rB (by first | rfl | (simp [bz, n1]; done) | (simp [bz]; omega) | (have e9 : w 6 < 16 := (by omega); simp [bz, e9, n1]; done)))
theorem k_76_12 {h : aH} {B : Nat} {w : Nat → Int} (hR : Rp h B w) (hI : Inv0 w) (z : Int) (d : Int) (g : Nat) (g1 : g ≤ 200) : Ct 4 76 [aR B, aC 16, aI ((g : Nat) : Int), aI z, aI d] h (.inl (some (aI (bz (decide (999 < w 2 + ((g : Nat) : Int)))))), h) := by
  obtain ⟨c, ⟨o0, o1, o2, o3, o4, o5, o6, o7, o8, o9, o10, o11, o12, o13, o14, o15, o16, o17⟩, a0, a1, a2, a3, a4, a5, a6, a7, a8, a9, a10, a11, a12, a13, a14⟩ := id hR
  have hbn := hI.bNe
  have hpn := hI.pNe
  have x0 := hI.len
  have x1 := hI.hour
  have x2 := hI.gas
  have x3 := hI.leak
  have x4 := hI.gn
  have x5 := hI.bn
  have x6 := hI.pn
  refine Ct.of [aR B, aC 16, aI ((g : Nat) : Int), aI z, aI d] rfl ?_
  refine r_cst cd_76_0 rfl ?_
  refine r_aldC cd_76_3 rfl rfl ?_
  refine r_cI (k_385 12 (by decide)) cd_76_4 rfl rfl rfl ⟨by decide, by decide⟩ rfl rfl rfl ?_
  refine r_arrC (t := 0) (i := 12) cd_76_7 rfl (by decide) rfl rfl rfl (by decide) rfl ?_
  refine RU.cast (pc2 := 8) (S2 := [aI 10]) rfl rfl rfl ?_
  refine r_tsw (t := 205) cd_76_8 ⟨by omega, by omega⟩ (by decide) ?_
  refine r_aldR cd_76_205 rfl rfl ?_
  refine r_get cd_76_206 rfl o0 rfl ?_
  refine r_ild cd_76_209 rfl rfl ?_
  refine r_add (v := (w 2) + ((g : Nat) : Int)) cd_76_210 rfl (by rfl) ?_
  refine r_con (v := 999) cd_76_211 rfl (by decide) ?_
  refine r_ic66 cd_76_214 rfl ⟨by omega, by omega⟩ ⟨by omega, by omega⟩ (fun n1 => ?_) (fun n1 => ?_)
  · refine r_con (v := 1) cd_76_217 rfl (by decide) ?_
    refine r_goto cd_76_218 ?_
    exact r_ret cd_76_222 (Or.inr rfl) (rB (by first | rfl | (simp [bz, n1]; done) | (simp [bz]; omega) | (have e9 : w 6 < 16 := (by omega); simp [bz, e9, n1]; done)))
  · refine r_con (v := 0) cd_76_221 rfl (by decide) ?_
    exact r_ret cd_76_222 (Or.inl rfl) (rB (by first | rfl | (simp [bz, n1]; done) | (simp [bz]; omega) | (have e9 : w 6 < 16 := (by omega); simp [bz, e9, n1]; done)))
theorem k_76_13 {h : aH} {B : Nat} {w : Nat → Int} (hR : Rp h B w) (hI : Inv0 w) (x : Int) (z : Int) (d : Int)  : Ct 4 76 [aR B, aC 17, aI x, aI z, aI d] h (.inl (some (aI (bz (false)))), h) := by
  obtain ⟨c, ⟨o0, o1, o2, o3, o4, o5, o6, o7, o8, o9, o10, o11, o12, o13, o14, o15, o16, o17⟩, a0, a1, a2, a3, a4, a5, a6, a7, a8, a9, a10, a11, a12, a13, a14⟩ := id hR
  have hbn := hI.bNe
  have hpn := hI.pNe
  have x0 := hI.len
  have x1 := hI.hour
  have x2 := hI.gas
  have x3 := hI.leak
  have x4 := hI.gn
  have x5 := hI.bn
  have x6 := hI.pn
  refine Ct.of [aR B, aC 17, aI x, aI z, aI d] rfl ?_
  refine r_cst cd_76_0 rfl ?_
  refine r_aldC cd_76_3 rfl rfl ?_
  refine r_cI (k_385 13 (by decide)) cd_76_4 rfl rfl rfl ⟨by decide, by decide⟩ rfl rfl rfl ?_
  refine r_arrC (t := 0) (i := 13) cd_76_7 rfl (by decide) rfl rfl rfl (by decide) rfl ?_
  refine RU.cast (pc2 := 8) (S2 := [aI 15]) rfl rfl rfl ?_
  refine r_tsw (t := 241) cd_76_8 ⟨by omega, by omega⟩ (by decide) ?_
  refine r_con (v := 0) cd_76_241 rfl (by decide) ?_
  exact r_ret cd_76_242 (Or.inl rfl) (rB (by first | rfl | simp [bz]))
theorem k_76_14 {h : aH} {B : Nat} {w : Nat → Int} (hR : Rp h B w) (hI : Inv0 w) (z : Int) (d : Int) (n : Nat) (g1 : n ≤ 24) : Ct 4 76 [aR B, aC 18, aI ((n : Nat) : Int), aI z, aI d] h (.inl (some (aI (bz (decide (999 < w 1 + ((n : Nat) : Int)))))), h) := by
  obtain ⟨c, ⟨o0, o1, o2, o3, o4, o5, o6, o7, o8, o9, o10, o11, o12, o13, o14, o15, o16, o17⟩, a0, a1, a2, a3, a4, a5, a6, a7, a8, a9, a10, a11, a12, a13, a14⟩ := id hR
  have hbn := hI.bNe
  have hpn := hI.pNe
  have x0 := hI.len
  have x1 := hI.hour
  have x2 := hI.gas
  have x3 := hI.leak
  have x4 := hI.gn
  have x5 := hI.bn
  have x6 := hI.pn
  refine Ct.of [aR B, aC 18, aI ((n : Nat) : Int), aI z, aI d] rfl ?_
  refine r_cst cd_76_0 rfl ?_
  refine r_aldC cd_76_3 rfl rfl ?_
  refine r_cI (k_385 14 (by decide)) cd_76_4 rfl rfl rfl ⟨by decide, by decide⟩ rfl rfl rfl ?_
  refine r_arrC (t := 0) (i := 14) cd_76_7 rfl (by decide) rfl rfl rfl (by decide) rfl ?_
  refine RU.cast (pc2 := 8) (S2 := [aI 11]) rfl rfl rfl ?_
  refine r_tsw (t := 223) cd_76_8 ⟨by omega, by omega⟩ (by decide) ?_
  refine r_aldR cd_76_223 rfl rfl ?_
  refine r_get cd_76_224 rfl o0 rfl ?_
  refine r_ild cd_76_227 rfl rfl ?_
  refine r_add (v := (w 1) + ((n : Nat) : Int)) cd_76_228 rfl (by rfl) ?_
  refine r_con (v := 999) cd_76_229 rfl (by decide) ?_
  refine r_ic66 cd_76_232 rfl ⟨by omega, by omega⟩ ⟨by omega, by omega⟩ (fun n1 => ?_) (fun n1 => ?_)
  · refine r_con (v := 1) cd_76_235 rfl (by decide) ?_
    refine r_goto cd_76_236 ?_
    exact r_ret cd_76_240 (Or.inr rfl) (rB (by first | rfl | (simp [bz, n1]; done) | (simp [bz]; omega) | (have e9 : w 6 < 16 := (by omega); simp [bz, e9, n1]; done)))
  · refine r_con (v := 0) cd_76_239 rfl (by decide) ?_
    exact r_ret cd_76_240 (Or.inl rfl) (rB (by first | rfl | (simp [bz, n1]; done) | (simp [bz]; omega) | (have e9 : w 6 < 16 := (by omega); simp [bz, e9, n1]; done)))
