/-! THE CLASS: numbers and marks of a script (written by wip/whole/gen61.py) -/
/-- the script's own numbers -/
def SO (dp ex ek eo : Int) : aCell := .inr (3, [aR 202, aR 204, aR 222, aR 223, aR 224, aI dp, aI ex, aI ek, aI eo])
/-- the cells but the script's and the tokens' are as before -/
def NO (h h' : aH) : Prop := (∀ a, ¬ a = 201 → ¬ a = 202 → h'.2.2 a = h.2.2 a) ∧ h'.1 = h.1 ∧ h'.2.1 = h.2.1
theorem NO.rf {h : aH} : NO h h := ⟨fun _ _ _ => rfl, rfl, rfl⟩
theorem NO.t {h h' : aH} {c : aCell} (a : NO h h') : NO h (sw h' 202 c) := ⟨fun q x y => (sw_ne y).trans (a.1 q x y), a.2⟩
theorem NO.s {h h' : aH} {c : aCell} (a : NO h h') : NO h (sw h' 201 c) := ⟨fun q x y => (sw_ne x).trans (a.1 q x y), a.2⟩
theorem NO.tr {h h1 h2 : aH} (a : NO h h1) (b : NO h1 h2) : NO h h2 := ⟨fun q x y => (b.1 q x y).trans (a.1 q x y), b.2.1.trans a.2.1, b.2.2.trans a.2.2⟩
theorem NO.rp {h h' : aH} (a : NO h h') {w : Nat → Int} (R : Rp h 204 w) : Rp h' 204 w := R.mv fun q h1 h2 => a.1 q (by omega) (by omega)
theorem k_36 {h : aH} (dp ex ek eo : Int) (hS : h.2.2 201 = SO dp ex ek eo) (N st nx kd vl : Int) (hO : h.2.2 202 = TO N st nx kd vl) (k : Int) : Ct 1 36 [aR 201, aI k] h (.inl (some (aI 0)), sw h 201 (SO dp ex k st)) := by
  refine Ct.of [aR 201, aI k] rfl ?_
  refine r_aldR cd_36_0 rfl rfl ?_
  refine r_ild cd_36_1 rfl rfl ?_
  refine r_put (fs' := [aR 202, aR 204, aR 222, aR 223, aR 224, aI dp, aI ex, aI k, aI eo]) cd_36_2 rfl hS rfl rfl ?_
  refine r_aldR cd_36_5 rfl rfl ?_
  refine r_aldR cd_36_6 rfl rfl ?_
  refine r_get cd_36_7 rfl (sw_at _ _ _) rfl ?_
  refine r_get cd_36_10 rfl ((sw_ne (by decide)).trans hO) rfl ?_
  refine r_put (fs' := [aR 202, aR 204, aR 222, aR 223, aR 224, aI dp, aI ex, aI k, aI st]) cd_36_13 rfl (sw_at _ _ _) rfl rfl ?_
  rw [sw_sw]
  refine r_con (v := 0) cd_36_16 rfl (by decide) ?_
  exact r_ret cd_36_17 (Or.inl rfl) (rfl)
theorem k_39_p {h : aH} : Ct 1 39 [aR 201, aI 112] h (.inl (some (aI 0)), h) := by
  refine Ct.of [aR 201, aI 112] rfl ?_
  refine r_ild cd_39_0 rfl rfl ?_
  refine r_tsw (t := 113) cd_39_1 ⟨by omega, by omega⟩ (by decide) ?_
  refine r_con (v := 0) cd_39_113 rfl (by decide) ?_
  exact r_ret cd_39_114 True.intro (rfl)
theorem k_40_p {h : aH} (dp ex ek eo : Int) (hS : h.2.2 201 = SO dp ex ek eo) {w : Nat → Int} (hR : Rp h 204 w) : Ct 1 40 [aR 201, aI 112] h (.inl (some (aI (w 0 - 1))), h) := by
  obtain ⟨c, ⟨o0, o1, o2, o3, o4, o5, o6, o7, o8, o9, o10, o11, o12, o13, o14, o15, o16, o17⟩, a0, a1, a2, a3, a4, a5, a6, a7, a8, a9, a10, a11, a12, a13, a14⟩ := id hR
  refine Ct.of [aR 201, aI 112] rfl ?_
  refine r_ild cd_40_0 rfl rfl ?_
  refine r_tsw (t := 108) cd_40_1 ⟨by omega, by omega⟩ (by decide) ?_
  refine r_aldR cd_40_108 rfl rfl ?_
  refine r_get cd_40_109 rfl hS rfl ?_
  refine r_get cd_40_112 rfl o0 rfl ?_
  refine r_get cd_40_115 rfl o1 rfl ?_
  refine r_con (v := 1) cd_40_118 rfl (by decide) ?_
  refine r_sub (v := (w 0) - 1) cd_40_119 rfl (by rfl) ?_
  exact r_ret cd_40_120 True.intro (rfl)
theorem k_39_o {h : aH} : Ct 1 39 [aR 201, aI 111] h (.inl (some (aI 0)), h) := by
  refine Ct.of [aR 201, aI 111] rfl ?_
  refine r_ild cd_39_0 rfl rfl ?_
  refine r_tsw (t := 113) cd_39_1 ⟨by omega, by omega⟩ (by decide) ?_
  refine r_con (v := 0) cd_39_113 rfl (by decide) ?_
  exact r_ret cd_39_114 True.intro (rfl)
theorem k_40_o {h : aH} (dp ex ek eo : Int) (hS : h.2.2 201 = SO dp ex ek eo) {w : Nat → Int} (hR : Rp h 204 w) : Ct 1 40 [aR 201, aI 111] h (.inl (some (aI (w 0 - 1))), h) := by
  obtain ⟨c, ⟨o0, o1, o2, o3, o4, o5, o6, o7, o8, o9, o10, o11, o12, o13, o14, o15, o16, o17⟩, a0, a1, a2, a3, a4, a5, a6, a7, a8, a9, a10, a11, a12, a13, a14⟩ := id hR
  refine Ct.of [aR 201, aI 111] rfl ?_
  refine r_ild cd_40_0 rfl rfl ?_
  refine r_tsw (t := 108) cd_40_1 ⟨by omega, by omega⟩ (by decide) ?_
  refine r_aldR cd_40_108 rfl rfl ?_
  refine r_get cd_40_109 rfl hS rfl ?_
  refine r_get cd_40_112 rfl o0 rfl ?_
  refine r_get cd_40_115 rfl o1 rfl ?_
  refine r_con (v := 1) cd_40_118 rfl (by decide) ?_
  refine r_sub (v := (w 0) - 1) cd_40_119 rfl (by rfl) ?_
  exact r_ret cd_40_120 True.intro (rfl)
theorem k_39_h {h : aH} : Ct 1 39 [aR 201, aI 104] h (.inl (some (aI 0)), h) := by
  refine Ct.of [aR 201, aI 104] rfl ?_
  refine r_ild cd_39_0 rfl rfl ?_
  refine r_tsw (t := 113) cd_39_1 ⟨by omega, by omega⟩ (by decide) ?_
  refine r_con (v := 0) cd_39_113 rfl (by decide) ?_
  exact r_ret cd_39_114 True.intro (rfl)
theorem k_40_h {h : aH} (dp ex ek eo : Int) (hS : h.2.2 201 = SO dp ex ek eo) {w : Nat → Int} (hR : Rp h 204 w) : Ct 1 40 [aR 201, aI 104] h (.inl (some (aI (9))), h) := by
  obtain ⟨c, ⟨o0, o1, o2, o3, o4, o5, o6, o7, o8, o9, o10, o11, o12, o13, o14, o15, o16, o17⟩, a0, a1, a2, a3, a4, a5, a6, a7, a8, a9, a10, a11, a12, a13, a14⟩ := id hR
  refine Ct.of [aR 201, aI 104] rfl ?_
  refine r_ild cd_40_0 rfl rfl ?_
  refine r_tsw (t := 147) cd_40_1 ⟨by omega, by omega⟩ (by decide) ?_
  refine r_con (v := 9) cd_40_147 rfl (by decide) ?_
  exact r_ret cd_40_149 True.intro (rfl)
theorem k_39_g {h : aH} : Ct 1 39 [aR 201, aI 103] h (.inl (some (aI 0)), h) := by
  refine Ct.of [aR 201, aI 103] rfl ?_
  refine r_ild cd_39_0 rfl rfl ?_
  refine r_tsw (t := 113) cd_39_1 ⟨by omega, by omega⟩ (by decide) ?_
  refine r_con (v := 0) cd_39_113 rfl (by decide) ?_
  exact r_ret cd_39_114 True.intro (rfl)
theorem k_40_g {h : aH} (dp ex ek eo : Int) (hS : h.2.2 201 = SO dp ex ek eo) {w : Nat → Int} (hR : Rp h 204 w) : Ct 1 40 [aR 201, aI 103] h (.inl (some (aI (3))), h) := by
  obtain ⟨c, ⟨o0, o1, o2, o3, o4, o5, o6, o7, o8, o9, o10, o11, o12, o13, o14, o15, o16, o17⟩, a0, a1, a2, a3, a4, a5, a6, a7, a8, a9, a10, a11, a12, a13, a14⟩ := id hR
  refine Ct.of [aR 201, aI 103] rfl ?_
  refine r_ild cd_40_0 rfl rfl ?_
  refine r_tsw (t := 150) cd_40_1 ⟨by omega, by omega⟩ (by decide) ?_
  refine r_con (v := 3) cd_40_150 rfl (by decide) ?_
  exact r_ret cd_40_151 True.intro (rfl)
theorem k_39_l {h : aH} : Ct 1 39 [aR 201, aI 108] h (.inl (some (aI 1)), h) := by
  refine Ct.of [aR 201, aI 108] rfl ?_
  refine r_ild cd_39_0 rfl rfl ?_
  refine r_tsw (t := 108) cd_39_1 ⟨by omega, by omega⟩ (by decide) ?_
  refine r_con (v := 1) cd_39_108 rfl (by decide) ?_
  exact r_ret cd_39_109 True.intro (rfl)
theorem k_40_l {h : aH} (dp ex ek eo : Int) (hS : h.2.2 201 = SO dp ex ek eo) {w : Nat → Int} (hR : Rp h 204 w) : Ct 1 40 [aR 201, aI 108] h (.inl (some (aI (9))), h) := by
  obtain ⟨c, ⟨o0, o1, o2, o3, o4, o5, o6, o7, o8, o9, o10, o11, o12, o13, o14, o15, o16, o17⟩, a0, a1, a2, a3, a4, a5, a6, a7, a8, a9, a10, a11, a12, a13, a14⟩ := id hR
  refine Ct.of [aR 201, aI 108] rfl ?_
  refine r_ild cd_40_0 rfl rfl ?_
  refine r_tsw (t := 152) cd_40_1 ⟨by omega, by omega⟩ (by decide) ?_
  refine r_con (v := 9) cd_40_152 rfl (by decide) ?_
  exact r_ret cd_40_154 True.intro (rfl)
theorem k_39_u {h : aH} : Ct 1 39 [aR 201, aI 117] h (.inl (some (aI 1)), h) := by
  refine Ct.of [aR 201, aI 117] rfl ?_
  refine r_ild cd_39_0 rfl rfl ?_
  refine r_tsw (t := 108) cd_39_1 ⟨by omega, by omega⟩ (by decide) ?_
  refine r_con (v := 1) cd_39_108 rfl (by decide) ?_
  exact r_ret cd_39_109 True.intro (rfl)
theorem k_40_u {h : aH} (dp ex ek eo : Int) (hS : h.2.2 201 = SO dp ex ek eo) {w : Nat → Int} (hR : Rp h 204 w) : Ct 1 40 [aR 201, aI 117] h (.inl (some (aI (30))), h) := by
  obtain ⟨c, ⟨o0, o1, o2, o3, o4, o5, o6, o7, o8, o9, o10, o11, o12, o13, o14, o15, o16, o17⟩, a0, a1, a2, a3, a4, a5, a6, a7, a8, a9, a10, a11, a12, a13, a14⟩ := id hR
  refine Ct.of [aR 201, aI 117] rfl ?_
  refine r_ild cd_40_0 rfl rfl ?_
  refine r_tsw (t := 155) cd_40_1 ⟨by omega, by omega⟩ (by decide) ?_
  refine r_con (v := 30) cd_40_155 rfl (by decide) ?_
  exact r_ret cd_40_157 True.intro (rfl)
theorem k_39_s {h : aH} : Ct 1 39 [aR 201, aI 115] h (.inl (some (aI 1)), h) := by
  refine Ct.of [aR 201, aI 115] rfl ?_
  refine r_ild cd_39_0 rfl rfl ?_
  refine r_tsw (t := 108) cd_39_1 ⟨by omega, by omega⟩ (by decide) ?_
  refine r_con (v := 1) cd_39_108 rfl (by decide) ?_
  exact r_ret cd_39_109 True.intro (rfl)
theorem k_40_s {h : aH} (dp ex ek eo : Int) (hS : h.2.2 201 = SO dp ex ek eo) {w : Nat → Int} (hR : Rp h 204 w) : Ct 1 40 [aR 201, aI 115] h (.inl (some (aI (9))), h) := by
  obtain ⟨c, ⟨o0, o1, o2, o3, o4, o5, o6, o7, o8, o9, o10, o11, o12, o13, o14, o15, o16, o17⟩, a0, a1, a2, a3, a4, a5, a6, a7, a8, a9, a10, a11, a12, a13, a14⟩ := id hR
  refine Ct.of [aR 201, aI 115] rfl ?_
  refine r_ild cd_40_0 rfl rfl ?_
  refine r_tsw (t := 158) cd_40_1 ⟨by omega, by omega⟩ (by decide) ?_
  refine r_con (v := 9) cd_40_158 rfl (by decide) ?_
  exact r_ret cd_40_160 True.intro (rfl)
theorem k_39_w {h : aH} : Ct 1 39 [aR 201, aI 119] h (.inl (some (aI 1)), h) := by
  refine Ct.of [aR 201, aI 119] rfl ?_
  refine r_ild cd_39_0 rfl rfl ?_
  refine r_tsw (t := 108) cd_39_1 ⟨by omega, by omega⟩ (by decide) ?_
  refine r_con (v := 1) cd_39_108 rfl (by decide) ?_
  exact r_ret cd_39_109 True.intro (rfl)
theorem k_40_w {h : aH} (dp ex ek eo : Int) (hS : h.2.2 201 = SO dp ex ek eo) {w : Nat → Int} (hR : Rp h 204 w) : Ct 1 40 [aR 201, aI 119] h (.inl (some (aI (9))), h) := by
  obtain ⟨c, ⟨o0, o1, o2, o3, o4, o5, o6, o7, o8, o9, o10, o11, o12, o13, o14, o15, o16, o17⟩, a0, a1, a2, a3, a4, a5, a6, a7, a8, a9, a10, a11, a12, a13, a14⟩ := id hR
  refine Ct.of [aR 201, aI 119] rfl ?_
  refine r_ild cd_40_0 rfl rfl ?_
  refine r_tsw (t := 161) cd_40_1 ⟨by omega, by omega⟩ (by decide) ?_
  refine r_con (v := 9) cd_40_161 rfl (by decide) ?_
  exact r_ret cd_40_163 True.intro (rfl)
theorem k_39_n {h : aH} : Ct 1 39 [aR 201, aI 110] h (.inl (some (aI 0)), h) := by
  refine Ct.of [aR 201, aI 110] rfl ?_
  refine r_ild cd_39_0 rfl rfl ?_
  refine r_tsw (t := 113) cd_39_1 ⟨by omega, by omega⟩ (by decide) ?_
  refine r_con (v := 0) cd_39_113 rfl (by decide) ?_
  exact r_ret cd_39_114 True.intro (rfl)
theorem k_40_n {h : aH} (dp ex ek eo : Int) (hS : h.2.2 201 = SO dp ex ek eo) {w : Nat → Int} (hR : Rp h 204 w) : Ct 1 40 [aR 201, aI 110] h (.inl (some (aI (99))), h) := by
  obtain ⟨c, ⟨o0, o1, o2, o3, o4, o5, o6, o7, o8, o9, o10, o11, o12, o13, o14, o15, o16, o17⟩, a0, a1, a2, a3, a4, a5, a6, a7, a8, a9, a10, a11, a12, a13, a14⟩ := id hR
  refine Ct.of [aR 201, aI 110] rfl ?_
  refine r_ild cd_40_0 rfl rfl ?_
  refine r_tsw (t := 180) cd_40_1 ⟨by omega, by omega⟩ (by decide) ?_
  refine r_con (v := 99) cd_40_180 rfl (by decide) ?_
  exact r_ret cd_40_182 True.intro (rfl)
theorem k_39_c {h : aH} : Ct 1 39 [aR 201, aI 99] h (.inl (some (aI 0)), h) := by
  refine Ct.of [aR 201, aI 99] rfl ?_
  refine r_ild cd_39_0 rfl rfl ?_
  refine r_tsw (t := 113) cd_39_1 ⟨by omega, by omega⟩ (by decide) ?_
  refine r_con (v := 0) cd_39_113 rfl (by decide) ?_
  exact r_ret cd_39_114 True.intro (rfl)
theorem k_40_c {h : aH} (dp ex ek eo : Int) (hS : h.2.2 201 = SO dp ex ek eo) {w : Nat → Int} (hR : Rp h 204 w) : Ct 1 40 [aR 201, aI 99] h (.inl (some (aI (w 6 - 1))), h) := by
  obtain ⟨c, ⟨o0, o1, o2, o3, o4, o5, o6, o7, o8, o9, o10, o11, o12, o13, o14, o15, o16, o17⟩, a0, a1, a2, a3, a4, a5, a6, a7, a8, a9, a10, a11, a12, a13, a14⟩ := id hR
  refine Ct.of [aR 201, aI 99] rfl ?_
  refine r_ild cd_40_0 rfl rfl ?_
  refine r_tsw (t := 121) cd_40_1 ⟨by omega, by omega⟩ (by decide) ?_
  refine r_aldR cd_40_121 rfl rfl ?_
  refine r_get cd_40_122 rfl hS rfl ?_
  refine r_get cd_40_125 rfl o0 rfl ?_
  refine r_get cd_40_128 rfl o10 rfl ?_
  refine r_con (v := 1) cd_40_131 rfl (by decide) ?_
  refine r_sub (v := (w 6) - 1) cd_40_132 rfl (by rfl) ?_
  exact r_ret cd_40_133 True.intro (rfl)
theorem k_39_b {h : aH} : Ct 1 39 [aR 201, aI 98] h (.inl (some (aI 0)), h) := by
  refine Ct.of [aR 201, aI 98] rfl ?_
  refine r_ild cd_39_0 rfl rfl ?_
  refine r_tsw (t := 113) cd_39_1 ⟨by omega, by omega⟩ (by decide) ?_
  refine r_con (v := 0) cd_39_113 rfl (by decide) ?_
  exact r_ret cd_39_114 True.intro (rfl)
theorem k_40_b {h : aH} (dp ex ek eo : Int) (hS : h.2.2 201 = SO dp ex ek eo) {w : Nat → Int} (hR : Rp h 204 w) : Ct 1 40 [aR 201, aI 98] h (.inl (some (aI (w 5 - 1))), h) := by
  obtain ⟨c, ⟨o0, o1, o2, o3, o4, o5, o6, o7, o8, o9, o10, o11, o12, o13, o14, o15, o16, o17⟩, a0, a1, a2, a3, a4, a5, a6, a7, a8, a9, a10, a11, a12, a13, a14⟩ := id hR
  refine Ct.of [aR 201, aI 98] rfl ?_
  refine r_ild cd_40_0 rfl rfl ?_
  refine r_tsw (t := 134) cd_40_1 ⟨by omega, by omega⟩ (by decide) ?_
  refine r_aldR cd_40_134 rfl rfl ?_
  refine r_get cd_40_135 rfl hS rfl ?_
  refine r_get cd_40_138 rfl o0 rfl ?_
  refine r_get cd_40_141 rfl o5 rfl ?_
  refine r_con (v := 1) cd_40_144 rfl (by decide) ?_
  refine r_sub (v := (w 5) - 1) cd_40_145 rfl (by rfl) ?_
  exact r_ret cd_40_146 True.intro (rfl)
theorem k_39_f {h : aH} : Ct 1 39 [aR 201, aI 102] h (.inl (some (aI 1)), h) := by
  refine Ct.of [aR 201, aI 102] rfl ?_
  refine r_ild cd_39_0 rfl rfl ?_
  refine r_tsw (t := 108) cd_39_1 ⟨by omega, by omega⟩ (by decide) ?_
  refine r_con (v := 1) cd_39_108 rfl (by decide) ?_
  exact r_ret cd_39_109 True.intro (rfl)
theorem k_40_f {h : aH} (dp ex ek eo : Int) (hS : h.2.2 201 = SO dp ex ek eo) {w : Nat → Int} (hR : Rp h 204 w) : Ct 1 40 [aR 201, aI 102] h (.inl (some (aI (29))), h) := by
  obtain ⟨c, ⟨o0, o1, o2, o3, o4, o5, o6, o7, o8, o9, o10, o11, o12, o13, o14, o15, o16, o17⟩, a0, a1, a2, a3, a4, a5, a6, a7, a8, a9, a10, a11, a12, a13, a14⟩ := id hR
  refine Ct.of [aR 201, aI 102] rfl ?_
  refine r_ild cd_40_0 rfl rfl ?_
  refine r_tsw (t := 164) cd_40_1 ⟨by omega, by omega⟩ (by decide) ?_
  refine r_con (v := 29) cd_40_164 rfl (by decide) ?_
  exact r_ret cd_40_166 True.intro (rfl)
theorem k_39_a {h : aH} : Ct 1 39 [aR 201, aI 97] h (.inl (some (aI 1)), h) := by
  refine Ct.of [aR 201, aI 97] rfl ?_
  refine r_ild cd_39_0 rfl rfl ?_
  refine r_tsw (t := 108) cd_39_1 ⟨by omega, by omega⟩ (by decide) ?_
  refine r_con (v := 1) cd_39_108 rfl (by decide) ?_
  exact r_ret cd_39_109 True.intro (rfl)
theorem k_40_a {h : aH} (dp ex ek eo : Int) (hS : h.2.2 201 = SO dp ex ek eo) {w : Nat → Int} (hR : Rp h 204 w) : Ct 1 40 [aR 201, aI 97] h (.inl (some (aI (200))), h) := by
  obtain ⟨c, ⟨o0, o1, o2, o3, o4, o5, o6, o7, o8, o9, o10, o11, o12, o13, o14, o15, o16, o17⟩, a0, a1, a2, a3, a4, a5, a6, a7, a8, a9, a10, a11, a12, a13, a14⟩ := id hR
  refine Ct.of [aR 201, aI 97] rfl ?_
  refine r_ild cd_40_0 rfl rfl ?_
  refine r_tsw (t := 167) cd_40_1 ⟨by omega, by omega⟩ (by decide) ?_
  refine r_con (v := 200) cd_40_167 rfl (by decide) ?_
  exact r_ret cd_40_170 True.intro (rfl)
theorem k_39_k {h : aH} : Ct 1 39 [aR 201, aI 107] h (.inl (some (aI 0)), h) := by
  refine Ct.of [aR 201, aI 107] rfl ?_
  refine r_ild cd_39_0 rfl rfl ?_
  refine r_tsw (t := 113) cd_39_1 ⟨by omega, by omega⟩ (by decide) ?_
  refine r_con (v := 0) cd_39_113 rfl (by decide) ?_
  exact r_ret cd_39_114 True.intro (rfl)
theorem k_40_k {h : aH} (dp ex ek eo : Int) (hS : h.2.2 201 = SO dp ex ek eo) {w : Nat → Int} (hR : Rp h 204 w) : Ct 1 40 [aR 201, aI 107] h (.inl (some (aI (99))), h) := by
  obtain ⟨c, ⟨o0, o1, o2, o3, o4, o5, o6, o7, o8, o9, o10, o11, o12, o13, o14, o15, o16, o17⟩, a0, a1, a2, a3, a4, a5, a6, a7, a8, a9, a10, a11, a12, a13, a14⟩ := id hR
  refine Ct.of [aR 201, aI 107] rfl ?_
  refine r_ild cd_40_0 rfl rfl ?_
  refine r_tsw (t := 180) cd_40_1 ⟨by omega, by omega⟩ (by decide) ?_
  refine r_con (v := 99) cd_40_180 rfl (by decide) ?_
  exact r_ret cd_40_182 True.intro (rfl)
theorem k_39_t {h : aH} : Ct 1 39 [aR 201, aI 116] h (.inl (some (aI 1)), h) := by
  refine Ct.of [aR 201, aI 116] rfl ?_
  refine r_ild cd_39_0 rfl rfl ?_
  refine r_tsw (t := 108) cd_39_1 ⟨by omega, by omega⟩ (by decide) ?_
  refine r_con (v := 1) cd_39_108 rfl (by decide) ?_
  exact r_ret cd_39_109 True.intro (rfl)
theorem k_40_t {h : aH} (dp ex ek eo : Int) (hS : h.2.2 201 = SO dp ex ek eo) {w : Nat → Int} (hR : Rp h 204 w) : Ct 1 40 [aR 201, aI 116] h (.inl (some (aI (24))), h) := by
  obtain ⟨c, ⟨o0, o1, o2, o3, o4, o5, o6, o7, o8, o9, o10, o11, o12, o13, o14, o15, o16, o17⟩, a0, a1, a2, a3, a4, a5, a6, a7, a8, a9, a10, a11, a12, a13, a14⟩ := id hR
  refine Ct.of [aR 201, aI 116] rfl ?_
  refine r_ild cd_40_0 rfl rfl ?_
  refine r_tsw (t := 171) cd_40_1 ⟨by omega, by omega⟩ (by decide) ?_
  refine r_con (v := 24) cd_40_171 rfl (by decide) ?_
  exact r_ret cd_40_173 True.intro (rfl)
theorem k_39_r {h : aH} : Ct 1 39 [aR 201, aI 114] h (.inl (some (aI 1)), h) := by
  refine Ct.of [aR 201, aI 114] rfl ?_
  refine r_ild cd_39_0 rfl rfl ?_
  refine r_tsw (t := 108) cd_39_1 ⟨by omega, by omega⟩ (by decide) ?_
  refine r_con (v := 1) cd_39_108 rfl (by decide) ?_
  exact r_ret cd_39_109 True.intro (rfl)
theorem k_40_r {h : aH} (dp ex ek eo : Int) (hS : h.2.2 201 = SO dp ex ek eo) {w : Nat → Int} (hR : Rp h 204 w) : Ct 1 40 [aR 201, aI 114] h (.inl (some (aI (20))), h) := by
  obtain ⟨c, ⟨o0, o1, o2, o3, o4, o5, o6, o7, o8, o9, o10, o11, o12, o13, o14, o15, o16, o17⟩, a0, a1, a2, a3, a4, a5, a6, a7, a8, a9, a10, a11, a12, a13, a14⟩ := id hR
  refine Ct.of [aR 201, aI 114] rfl ?_
  refine r_ild cd_40_0 rfl rfl ?_
  refine r_tsw (t := 174) cd_40_1 ⟨by omega, by omega⟩ (by decide) ?_
  refine r_con (v := 20) cd_40_174 rfl (by decide) ?_
  exact r_ret cd_40_176 True.intro (rfl)
theorem k_39_e {h : aH} : Ct 1 39 [aR 201, aI 101] h (.inl (some (aI 8)), h) := by
  refine Ct.of [aR 201, aI 101] rfl ?_
  refine r_ild cd_39_0 rfl rfl ?_
  refine r_tsw (t := 110) cd_39_1 ⟨by omega, by omega⟩ (by decide) ?_
  refine r_con (v := 8) cd_39_110 rfl (by decide) ?_
  exact r_ret cd_39_112 True.intro (rfl)
theorem k_38_p {h : aH} (dp ex ek eo : Int) (hS : h.2.2 201 = SO dp ex ek eo) {w : Nat → Int} (hR : Rp h 204 w) (hI : Inv0 w) {va : Nat → Int} (hV : h.2.2 222 = .inl (0, 4, .inl va)) (v : Int) (hv : inR v) : Ct 2 38 [aR 201, aI 112, aI v] h (.inl (some (aI (bz (decide (0 ≤ v ∧ v ≤ w 0 - 1))))), h) := by
  obtain ⟨c, ⟨o0, o1, o2, o3, o4, o5, o6, o7, o8, o9, o10, o11, o12, o13, o14, o15, o16, o17⟩, a0, a1, a2, a3, a4, a5, a6, a7, a8, a9, a10, a11, a12, a13, a14⟩ := id hR
  have hbn := hI.bNe
  have hpn := hI.pNe
  have x0 := hI.len
  have x1 := hI.hour
  have x2 := hI.gas
  have x3 := hI.leak
  have x4 := hI.gn
  have x5 := hI.bn
  have x6 := hI.pn
  refine Ct.of [aR 201, aI 112, aI v] rfl ?_
  refine r_ild cd_38_0 rfl rfl ?_
  refine r_con (v := 111) cd_38_1 rfl (by decide) ?_
  refine r_ic62 cd_38_3 rfl ⟨by omega, by omega⟩ ⟨by omega, by omega⟩ (fun n1 => ?_) (fun n1 => ?_)
  · exact absurd n1 (by decide)
  · refine r_ild cd_38_18 rfl rfl ?_
    refine r_con (v := 107) cd_38_19 rfl (by decide) ?_
    refine r_ic62 cd_38_21 rfl ⟨by omega, by omega⟩ ⟨by omega, by omega⟩ (fun n2 => ?_) (fun n2 => ?_)
    · exact absurd n2 (by decide)
    · refine r_ild cd_38_47 rfl rfl ?_
      refine r_aldR cd_38_48 rfl rfl ?_
      refine r_ild cd_38_49 rfl rfl ?_
      refine r_cI k_39_p cd_38_50 rfl rfl rfl (rc0 hS rfl) rfl rfl rfl ?_
      refine r_ic63 cd_38_53 rfl hv ⟨by omega, by omega⟩ (fun n3 => ?_) (fun n3 => ?_)
      · refine r_con (v := 0) cd_38_69 rfl (by decide) ?_
        exact r_ret cd_38_70 (Or.inl rfl) (rB (by rw [decide_eq_false (show ¬ (0 ≤ v ∧ v ≤ w 0 - 1) by omega)]; rfl))
      · refine r_ild cd_38_56 rfl rfl ?_
        refine r_aldR cd_38_57 rfl rfl ?_
        refine r_ild cd_38_58 rfl rfl ?_
        refine r_cI (k_40_p dp ex ek eo hS hR) cd_38_59 rfl rfl rfl (rc0 hS rfl) rfl rfl rfl ?_
        refine r_ic65 cd_38_62 rfl hv ⟨by omega, by omega⟩ (fun n4 => ?_) (fun n4 => ?_)
        · refine r_con (v := 0) cd_38_69 rfl (by decide) ?_
          exact r_ret cd_38_70 (Or.inl rfl) (rB (by rw [decide_eq_false (show ¬ (0 ≤ v ∧ v ≤ w 0 - 1) by omega)]; rfl))
        · refine r_con (v := 1) cd_38_65 rfl (by decide) ?_
          refine r_goto cd_38_66 ?_
          exact r_ret cd_38_70 (Or.inr rfl) (rB (by rw [decide_eq_true (show 0 ≤ v ∧ v ≤ w 0 - 1 by omega)]; rfl))
theorem k_38_o {h : aH} (dp ex ek eo : Int) (hS : h.2.2 201 = SO dp ex ek eo) {w : Nat → Int} (hR : Rp h 204 w) (hI : Inv0 w) {va : Nat → Int} (hV : h.2.2 222 = .inl (0, 4, .inl va)) (hv1 : inR (va 1)) (v : Int) (hv : inR v) : Ct 2 38 [aR 201, aI 111, aI v] h (.inl (some (aI (bz (!decide (v = va 1) && decide (0 ≤ v ∧ v ≤ w 0 - 1))))), h) := by
  obtain ⟨c, ⟨o0, o1, o2, o3, o4, o5, o6, o7, o8, o9, o10, o11, o12, o13, o14, o15, o16, o17⟩, a0, a1, a2, a3, a4, a5, a6, a7, a8, a9, a10, a11, a12, a13, a14⟩ := id hR
  have hbn := hI.bNe
  have hpn := hI.pNe
  have x0 := hI.len
  have x1 := hI.hour
  have x2 := hI.gas
  have x3 := hI.leak
  have x4 := hI.gn
  have x5 := hI.bn
  have x6 := hI.pn
  refine Ct.of [aR 201, aI 111, aI v] rfl ?_
  refine r_ild cd_38_0 rfl rfl ?_
  refine r_con (v := 111) cd_38_1 rfl (by decide) ?_
  refine r_ic62 cd_38_3 rfl ⟨by omega, by omega⟩ ⟨by omega, by omega⟩ (fun n1 => ?_) (fun n1 => ?_)
  · refine r_ild cd_38_6 rfl rfl ?_
    refine r_aldR cd_38_7 rfl rfl ?_
    refine r_get cd_38_8 rfl hS rfl ?_
    refine r_con (v := 1) cd_38_11 rfl (by decide) ?_
    refine r_arr (i := 1) cd_38_12 rfl hV rfl (by omega) rfl ?_
    refine r_ic62 cd_38_13 rfl hv hv1 (fun n2 => ?_) (fun n2 => ?_)
    · refine r_con (v := 0) cd_38_16 rfl (by decide) ?_
      exact r_ret cd_38_17 (Or.inl rfl) (rB (by rw [decide_eq_true (show v = va 1 from n2), Bool.not_true, Bool.false_and]; rfl))
    · refine r_ild cd_38_18 rfl rfl ?_
      refine r_con (v := 107) cd_38_19 rfl (by decide) ?_
      refine r_ic62 cd_38_21 rfl ⟨by omega, by omega⟩ ⟨by omega, by omega⟩ (fun n3 => ?_) (fun n3 => ?_)
      · exact absurd n3 (by decide)
      · refine r_ild cd_38_47 rfl rfl ?_
        refine r_aldR cd_38_48 rfl rfl ?_
        refine r_ild cd_38_49 rfl rfl ?_
        refine r_cI k_39_o cd_38_50 rfl rfl rfl (rc0 hS rfl) rfl rfl rfl ?_
        refine r_ic63 cd_38_53 rfl hv ⟨by omega, by omega⟩ (fun n4 => ?_) (fun n4 => ?_)
        · refine r_con (v := 0) cd_38_69 rfl (by decide) ?_
          exact r_ret cd_38_70 (Or.inl rfl) (rB (by rw [decide_eq_false (show ¬ (0 ≤ v ∧ v ≤ w 0 - 1) by omega), Bool.and_false]; rfl))
        · refine r_ild cd_38_56 rfl rfl ?_
          refine r_aldR cd_38_57 rfl rfl ?_
          refine r_ild cd_38_58 rfl rfl ?_
          refine r_cI (k_40_o dp ex ek eo hS hR) cd_38_59 rfl rfl rfl (rc0 hS rfl) rfl rfl rfl ?_
          refine r_ic65 cd_38_62 rfl hv ⟨by omega, by omega⟩ (fun n5 => ?_) (fun n5 => ?_)
          · refine r_con (v := 0) cd_38_69 rfl (by decide) ?_
            exact r_ret cd_38_70 (Or.inl rfl) (rB (by rw [decide_eq_false (show ¬ (0 ≤ v ∧ v ≤ w 0 - 1) by omega), Bool.and_false]; rfl))
          · refine r_con (v := 1) cd_38_65 rfl (by decide) ?_
            refine r_goto cd_38_66 ?_
            exact r_ret cd_38_70 (Or.inr rfl) (rB (by rw [decide_eq_false (show ¬ v = va 1 from n2), Bool.not_false, Bool.true_and]; rw [decide_eq_true (show 0 ≤ v ∧ v ≤ w 0 - 1 by omega)]; rfl))
  · exact absurd rfl n1
theorem k_38_h {h : aH} (dp ex ek eo : Int) (hS : h.2.2 201 = SO dp ex ek eo) {w : Nat → Int} (hR : Rp h 204 w) (hI : Inv0 w) {va : Nat → Int} (hV : h.2.2 222 = .inl (0, 4, .inl va)) (v : Int) (hv : inR v) : Ct 2 38 [aR 201, aI 104, aI v] h (.inl (some (aI (bz (decide (0 ≤ v ∧ v ≤ 9))))), h) := by
  obtain ⟨c, ⟨o0, o1, o2, o3, o4, o5, o6, o7, o8, o9, o10, o11, o12, o13, o14, o15, o16, o17⟩, a0, a1, a2, a3, a4, a5, a6, a7, a8, a9, a10, a11, a12, a13, a14⟩ := id hR
  have hbn := hI.bNe
  have hpn := hI.pNe
  have x0 := hI.len
  have x1 := hI.hour
  have x2 := hI.gas
  have x3 := hI.leak
  have x4 := hI.gn
  have x5 := hI.bn
  have x6 := hI.pn
  refine Ct.of [aR 201, aI 104, aI v] rfl ?_
  refine r_ild cd_38_0 rfl rfl ?_
  refine r_con (v := 111) cd_38_1 rfl (by decide) ?_
  refine r_ic62 cd_38_3 rfl ⟨by omega, by omega⟩ ⟨by omega, by omega⟩ (fun n1 => ?_) (fun n1 => ?_)
  · exact absurd n1 (by decide)
  · refine r_ild cd_38_18 rfl rfl ?_
    refine r_con (v := 107) cd_38_19 rfl (by decide) ?_
    refine r_ic62 cd_38_21 rfl ⟨by omega, by omega⟩ ⟨by omega, by omega⟩ (fun n2 => ?_) (fun n2 => ?_)
    · exact absurd n2 (by decide)
    · refine r_ild cd_38_47 rfl rfl ?_
      refine r_aldR cd_38_48 rfl rfl ?_
      refine r_ild cd_38_49 rfl rfl ?_
      refine r_cI k_39_h cd_38_50 rfl rfl rfl (rc0 hS rfl) rfl rfl rfl ?_
      refine r_ic63 cd_38_53 rfl hv ⟨by omega, by omega⟩ (fun n3 => ?_) (fun n3 => ?_)
      · refine r_con (v := 0) cd_38_69 rfl (by decide) ?_
        exact r_ret cd_38_70 (Or.inl rfl) (rB (by rw [decide_eq_false (show ¬ (0 ≤ v ∧ v ≤ 9) by omega)]; rfl))
      · refine r_ild cd_38_56 rfl rfl ?_
        refine r_aldR cd_38_57 rfl rfl ?_
        refine r_ild cd_38_58 rfl rfl ?_
        refine r_cI (k_40_h dp ex ek eo hS hR) cd_38_59 rfl rfl rfl (rc0 hS rfl) rfl rfl rfl ?_
        refine r_ic65 cd_38_62 rfl hv ⟨by omega, by omega⟩ (fun n4 => ?_) (fun n4 => ?_)
        · refine r_con (v := 0) cd_38_69 rfl (by decide) ?_
          exact r_ret cd_38_70 (Or.inl rfl) (rB (by rw [decide_eq_false (show ¬ (0 ≤ v ∧ v ≤ 9) by omega)]; rfl))
        · refine r_con (v := 1) cd_38_65 rfl (by decide) ?_
          refine r_goto cd_38_66 ?_
          exact r_ret cd_38_70 (Or.inr rfl) (rB (by rw [decide_eq_true (show 0 ≤ v ∧ v ≤ 9 by omega)]; rfl))
theorem k_38_g {h : aH} (dp ex ek eo : Int) (hS : h.2.2 201 = SO dp ex ek eo) {w : Nat → Int} (hR : Rp h 204 w) (hI : Inv0 w) {va : Nat → Int} (hV : h.2.2 222 = .inl (0, 4, .inl va)) (v : Int) (hv : inR v) : Ct 2 38 [aR 201, aI 103, aI v] h (.inl (some (aI (bz (decide (0 ≤ v ∧ v ≤ 3))))), h) := by
  obtain ⟨c, ⟨o0, o1, o2, o3, o4, o5, o6, o7, o8, o9, o10, o11, o12, o13, o14, o15, o16, o17⟩, a0, a1, a2, a3, a4, a5, a6, a7, a8, a9, a10, a11, a12, a13, a14⟩ := id hR
  have hbn := hI.bNe
  have hpn := hI.pNe
  have x0 := hI.len
  have x1 := hI.hour
  have x2 := hI.gas
  have x3 := hI.leak
  have x4 := hI.gn
  have x5 := hI.bn
  have x6 := hI.pn
  refine Ct.of [aR 201, aI 103, aI v] rfl ?_
  refine r_ild cd_38_0 rfl rfl ?_
  refine r_con (v := 111) cd_38_1 rfl (by decide) ?_
  refine r_ic62 cd_38_3 rfl ⟨by omega, by omega⟩ ⟨by omega, by omega⟩ (fun n1 => ?_) (fun n1 => ?_)
  · exact absurd n1 (by decide)
  · refine r_ild cd_38_18 rfl rfl ?_
    refine r_con (v := 107) cd_38_19 rfl (by decide) ?_
    refine r_ic62 cd_38_21 rfl ⟨by omega, by omega⟩ ⟨by omega, by omega⟩ (fun n2 => ?_) (fun n2 => ?_)
    · exact absurd n2 (by decide)
    · refine r_ild cd_38_47 rfl rfl ?_
      refine r_aldR cd_38_48 rfl rfl ?_
      refine r_ild cd_38_49 rfl rfl ?_
      refine r_cI k_39_g cd_38_50 rfl rfl rfl (rc0 hS rfl) rfl rfl rfl ?_
      refine r_ic63 cd_38_53 rfl hv ⟨by omega, by omega⟩ (fun n3 => ?_) (fun n3 => ?_)
      · refine r_con (v := 0) cd_38_69 rfl (by decide) ?_
        exact r_ret cd_38_70 (Or.inl rfl) (rB (by rw [decide_eq_false (show ¬ (0 ≤ v ∧ v ≤ 3) by omega)]; rfl))
      · refine r_ild cd_38_56 rfl rfl ?_
        refine r_aldR cd_38_57 rfl rfl ?_
        refine r_ild cd_38_58 rfl rfl ?_
        refine r_cI (k_40_g dp ex ek eo hS hR) cd_38_59 rfl rfl rfl (rc0 hS rfl) rfl rfl rfl ?_
        refine r_ic65 cd_38_62 rfl hv ⟨by omega, by omega⟩ (fun n4 => ?_) (fun n4 => ?_)
        · refine r_con (v := 0) cd_38_69 rfl (by decide) ?_
          exact r_ret cd_38_70 (Or.inl rfl) (rB (by rw [decide_eq_false (show ¬ (0 ≤ v ∧ v ≤ 3) by omega)]; rfl))
        · refine r_con (v := 1) cd_38_65 rfl (by decide) ?_
          refine r_goto cd_38_66 ?_
          exact r_ret cd_38_70 (Or.inr rfl) (rB (by rw [decide_eq_true (show 0 ≤ v ∧ v ≤ 3 by omega)]; rfl))
theorem k_38_l {h : aH} (dp ex ek eo : Int) (hS : h.2.2 201 = SO dp ex ek eo) {w : Nat → Int} (hR : Rp h 204 w) (hI : Inv0 w) {va : Nat → Int} (hV : h.2.2 222 = .inl (0, 4, .inl va)) (v : Int) (hv : inR v) : Ct 2 38 [aR 201, aI 108, aI v] h (.inl (some (aI (bz (decide (1 ≤ v ∧ v ≤ 9))))), h) := by
  obtain ⟨c, ⟨o0, o1, o2, o3, o4, o5, o6, o7, o8, o9, o10, o11, o12, o13, o14, o15, o16, o17⟩, a0, a1, a2, a3, a4, a5, a6, a7, a8, a9, a10, a11, a12, a13, a14⟩ := id hR
  have hbn := hI.bNe
  have hpn := hI.pNe
  have x0 := hI.len
  have x1 := hI.hour
  have x2 := hI.gas
  have x3 := hI.leak
  have x4 := hI.gn
  have x5 := hI.bn
  have x6 := hI.pn
  refine Ct.of [aR 201, aI 108, aI v] rfl ?_
  refine r_ild cd_38_0 rfl rfl ?_
  refine r_con (v := 111) cd_38_1 rfl (by decide) ?_
  refine r_ic62 cd_38_3 rfl ⟨by omega, by omega⟩ ⟨by omega, by omega⟩ (fun n1 => ?_) (fun n1 => ?_)
  · exact absurd n1 (by decide)
  · refine r_ild cd_38_18 rfl rfl ?_
    refine r_con (v := 107) cd_38_19 rfl (by decide) ?_
    refine r_ic62 cd_38_21 rfl ⟨by omega, by omega⟩ ⟨by omega, by omega⟩ (fun n2 => ?_) (fun n2 => ?_)
    · exact absurd n2 (by decide)
    · refine r_ild cd_38_47 rfl rfl ?_
      refine r_aldR cd_38_48 rfl rfl ?_
      refine r_ild cd_38_49 rfl rfl ?_
      refine r_cI k_39_l cd_38_50 rfl rfl rfl (rc0 hS rfl) rfl rfl rfl ?_
      refine r_ic63 cd_38_53 rfl hv ⟨by omega, by omega⟩ (fun n3 => ?_) (fun n3 => ?_)
      · refine r_con (v := 0) cd_38_69 rfl (by decide) ?_
        exact r_ret cd_38_70 (Or.inl rfl) (rB (by rw [decide_eq_false (show ¬ (1 ≤ v ∧ v ≤ 9) by omega)]; rfl))
      · refine r_ild cd_38_56 rfl rfl ?_
        refine r_aldR cd_38_57 rfl rfl ?_
        refine r_ild cd_38_58 rfl rfl ?_
        refine r_cI (k_40_l dp ex ek eo hS hR) cd_38_59 rfl rfl rfl (rc0 hS rfl) rfl rfl rfl ?_
        refine r_ic65 cd_38_62 rfl hv ⟨by omega, by omega⟩ (fun n4 => ?_) (fun n4 => ?_)
        · refine r_con (v := 0) cd_38_69 rfl (by decide) ?_
          exact r_ret cd_38_70 (Or.inl rfl) (rB (by rw [decide_eq_false (show ¬ (1 ≤ v ∧ v ≤ 9) by omega)]; rfl))
        · refine r_con (v := 1) cd_38_65 rfl (by decide) ?_
          refine r_goto cd_38_66 ?_
          exact r_ret cd_38_70 (Or.inr rfl) (rB (by rw [decide_eq_true (show 1 ≤ v ∧ v ≤ 9 by omega)]; rfl))
theorem k_38_u {h : aH} (dp ex ek eo : Int) (hS : h.2.2 201 = SO dp ex ek eo) {w : Nat → Int} (hR : Rp h 204 w) (hI : Inv0 w) {va : Nat → Int} (hV : h.2.2 222 = .inl (0, 4, .inl va)) (v : Int) (hv : inR v) : Ct 2 38 [aR 201, aI 117, aI v] h (.inl (some (aI (bz (decide (1 ≤ v ∧ v ≤ 30))))), h) := by
  obtain ⟨c, ⟨o0, o1, o2, o3, o4, o5, o6, o7, o8, o9, o10, o11, o12, o13, o14, o15, o16, o17⟩, a0, a1, a2, a3, a4, a5, a6, a7, a8, a9, a10, a11, a12, a13, a14⟩ := id hR
  have hbn := hI.bNe
  have hpn := hI.pNe
  have x0 := hI.len
  have x1 := hI.hour
  have x2 := hI.gas
  have x3 := hI.leak
  have x4 := hI.gn
  have x5 := hI.bn
  have x6 := hI.pn
  refine Ct.of [aR 201, aI 117, aI v] rfl ?_
  refine r_ild cd_38_0 rfl rfl ?_
  refine r_con (v := 111) cd_38_1 rfl (by decide) ?_
  refine r_ic62 cd_38_3 rfl ⟨by omega, by omega⟩ ⟨by omega, by omega⟩ (fun n1 => ?_) (fun n1 => ?_)
  · exact absurd n1 (by decide)
  · refine r_ild cd_38_18 rfl rfl ?_
    refine r_con (v := 107) cd_38_19 rfl (by decide) ?_
    refine r_ic62 cd_38_21 rfl ⟨by omega, by omega⟩ ⟨by omega, by omega⟩ (fun n2 => ?_) (fun n2 => ?_)
    · exact absurd n2 (by decide)
    · refine r_ild cd_38_47 rfl rfl ?_
      refine r_aldR cd_38_48 rfl rfl ?_
      refine r_ild cd_38_49 rfl rfl ?_
      refine r_cI k_39_u cd_38_50 rfl rfl rfl (rc0 hS rfl) rfl rfl rfl ?_
      refine r_ic63 cd_38_53 rfl hv ⟨by omega, by omega⟩ (fun n3 => ?_) (fun n3 => ?_)
      · refine r_con (v := 0) cd_38_69 rfl (by decide) ?_
        exact r_ret cd_38_70 (Or.inl rfl) (rB (by rw [decide_eq_false (show ¬ (1 ≤ v ∧ v ≤ 30) by omega)]; rfl))
      · refine r_ild cd_38_56 rfl rfl ?_
        refine r_aldR cd_38_57 rfl rfl ?_
        refine r_ild cd_38_58 rfl rfl ?_
        refine r_cI (k_40_u dp ex ek eo hS hR) cd_38_59 rfl rfl rfl (rc0 hS rfl) rfl rfl rfl ?_
        refine r_ic65 cd_38_62 rfl hv ⟨by omega, by omega⟩ (fun n4 => ?_) (fun n4 => ?_)
        · refine r_con (v := 0) cd_38_69 rfl (by decide) ?_
          exact r_ret cd_38_70 (Or.inl rfl) (rB (by rw [decide_eq_false (show ¬ (1 ≤ v ∧ v ≤ 30) by omega)]; rfl))
        · refine r_con (v := 1) cd_38_65 rfl (by decide) ?_
          refine r_goto cd_38_66 ?_
          exact r_ret cd_38_70 (Or.inr rfl) (rB (by rw [decide_eq_true (show 1 ≤ v ∧ v ≤ 30 by omega)]; rfl))
theorem k_38_s {h : aH} (dp ex ek eo : Int) (hS : h.2.2 201 = SO dp ex ek eo) {w : Nat → Int} (hR : Rp h 204 w) (hI : Inv0 w) {va : Nat → Int} (hV : h.2.2 222 = .inl (0, 4, .inl va)) (v : Int) (hv : inR v) : Ct 2 38 [aR 201, aI 115, aI v] h (.inl (some (aI (bz (decide (1 ≤ v ∧ v ≤ 9))))), h) := by
  obtain ⟨c, ⟨o0, o1, o2, o3, o4, o5, o6, o7, o8, o9, o10, o11, o12, o13, o14, o15, o16, o17⟩, a0, a1, a2, a3, a4, a5, a6, a7, a8, a9, a10, a11, a12, a13, a14⟩ := id hR
  have hbn := hI.bNe
  have hpn := hI.pNe
  have x0 := hI.len
  have x1 := hI.hour
  have x2 := hI.gas
  have x3 := hI.leak
  have x4 := hI.gn
  have x5 := hI.bn
  have x6 := hI.pn
  refine Ct.of [aR 201, aI 115, aI v] rfl ?_
  refine r_ild cd_38_0 rfl rfl ?_
  refine r_con (v := 111) cd_38_1 rfl (by decide) ?_
  refine r_ic62 cd_38_3 rfl ⟨by omega, by omega⟩ ⟨by omega, by omega⟩ (fun n1 => ?_) (fun n1 => ?_)
  · exact absurd n1 (by decide)
  · refine r_ild cd_38_18 rfl rfl ?_
    refine r_con (v := 107) cd_38_19 rfl (by decide) ?_
    refine r_ic62 cd_38_21 rfl ⟨by omega, by omega⟩ ⟨by omega, by omega⟩ (fun n2 => ?_) (fun n2 => ?_)
    · exact absurd n2 (by decide)
    · refine r_ild cd_38_47 rfl rfl ?_
      refine r_aldR cd_38_48 rfl rfl ?_
      refine r_ild cd_38_49 rfl rfl ?_
      refine r_cI k_39_s cd_38_50 rfl rfl rfl (rc0 hS rfl) rfl rfl rfl ?_
      refine r_ic63 cd_38_53 rfl hv ⟨by omega, by omega⟩ (fun n3 => ?_) (fun n3 => ?_)
      · refine r_con (v := 0) cd_38_69 rfl (by decide) ?_
        exact r_ret cd_38_70 (Or.inl rfl) (rB (by rw [decide_eq_false (show ¬ (1 ≤ v ∧ v ≤ 9) by omega)]; rfl))
      · refine r_ild cd_38_56 rfl rfl ?_
        refine r_aldR cd_38_57 rfl rfl ?_
        refine r_ild cd_38_58 rfl rfl ?_
        refine r_cI (k_40_s dp ex ek eo hS hR) cd_38_59 rfl rfl rfl (rc0 hS rfl) rfl rfl rfl ?_
        refine r_ic65 cd_38_62 rfl hv ⟨by omega, by omega⟩ (fun n4 => ?_) (fun n4 => ?_)
        · refine r_con (v := 0) cd_38_69 rfl (by decide) ?_
          exact r_ret cd_38_70 (Or.inl rfl) (rB (by rw [decide_eq_false (show ¬ (1 ≤ v ∧ v ≤ 9) by omega)]; rfl))
        · refine r_con (v := 1) cd_38_65 rfl (by decide) ?_
          refine r_goto cd_38_66 ?_
          exact r_ret cd_38_70 (Or.inr rfl) (rB (by rw [decide_eq_true (show 1 ≤ v ∧ v ≤ 9 by omega)]; rfl))
theorem k_38_w {h : aH} (dp ex ek eo : Int) (hS : h.2.2 201 = SO dp ex ek eo) {w : Nat → Int} (hR : Rp h 204 w) (hI : Inv0 w) {va : Nat → Int} (hV : h.2.2 222 = .inl (0, 4, .inl va)) (v : Int) (hv : inR v) : Ct 2 38 [aR 201, aI 119, aI v] h (.inl (some (aI (bz (decide (1 ≤ v ∧ v ≤ 9))))), h) := by
  obtain ⟨c, ⟨o0, o1, o2, o3, o4, o5, o6, o7, o8, o9, o10, o11, o12, o13, o14, o15, o16, o17⟩, a0, a1, a2, a3, a4, a5, a6, a7, a8, a9, a10, a11, a12, a13, a14⟩ := id hR
  have hbn := hI.bNe
  have hpn := hI.pNe
  have x0 := hI.len
  have x1 := hI.hour
  have x2 := hI.gas
  have x3 := hI.leak
  have x4 := hI.gn
  have x5 := hI.bn
  have x6 := hI.pn
  refine Ct.of [aR 201, aI 119, aI v] rfl ?_
  refine r_ild cd_38_0 rfl rfl ?_
  refine r_con (v := 111) cd_38_1 rfl (by decide) ?_
  refine r_ic62 cd_38_3 rfl ⟨by omega, by omega⟩ ⟨by omega, by omega⟩ (fun n1 => ?_) (fun n1 => ?_)
  · exact absurd n1 (by decide)
  · refine r_ild cd_38_18 rfl rfl ?_
    refine r_con (v := 107) cd_38_19 rfl (by decide) ?_
    refine r_ic62 cd_38_21 rfl ⟨by omega, by omega⟩ ⟨by omega, by omega⟩ (fun n2 => ?_) (fun n2 => ?_)
    · exact absurd n2 (by decide)
    · refine r_ild cd_38_47 rfl rfl ?_
      refine r_aldR cd_38_48 rfl rfl ?_
      refine r_ild cd_38_49 rfl rfl ?_
      refine r_cI k_39_w cd_38_50 rfl rfl rfl (rc0 hS rfl) rfl rfl rfl ?_
      refine r_ic63 cd_38_53 rfl hv ⟨by omega, by omega⟩ (fun n3 => ?_) (fun n3 => ?_)
      · refine r_con (v := 0) cd_38_69 rfl (by decide) ?_
        exact r_ret cd_38_70 (Or.inl rfl) (rB (by rw [decide_eq_false (show ¬ (1 ≤ v ∧ v ≤ 9) by omega)]; rfl))
      · refine r_ild cd_38_56 rfl rfl ?_
        refine r_aldR cd_38_57 rfl rfl ?_
        refine r_ild cd_38_58 rfl rfl ?_
        refine r_cI (k_40_w dp ex ek eo hS hR) cd_38_59 rfl rfl rfl (rc0 hS rfl) rfl rfl rfl ?_
        refine r_ic65 cd_38_62 rfl hv ⟨by omega, by omega⟩ (fun n4 => ?_) (fun n4 => ?_)
        · refine r_con (v := 0) cd_38_69 rfl (by decide) ?_
          exact r_ret cd_38_70 (Or.inl rfl) (rB (by rw [decide_eq_false (show ¬ (1 ≤ v ∧ v ≤ 9) by omega)]; rfl))
        · refine r_con (v := 1) cd_38_65 rfl (by decide) ?_
          refine r_goto cd_38_66 ?_
          exact r_ret cd_38_70 (Or.inr rfl) (rB (by rw [decide_eq_true (show 1 ≤ v ∧ v ≤ 9 by omega)]; rfl))
theorem k_38_n {h : aH} (dp ex ek eo : Int) (hS : h.2.2 201 = SO dp ex ek eo) {w : Nat → Int} (hR : Rp h 204 w) (hI : Inv0 w) {va : Nat → Int} (hV : h.2.2 222 = .inl (0, 4, .inl va)) (v : Int) (hv : inR v) : Ct 2 38 [aR 201, aI 110, aI v] h (.inl (some (aI (bz (decide (0 ≤ v ∧ v ≤ 99))))), h) := by
  obtain ⟨c, ⟨o0, o1, o2, o3, o4, o5, o6, o7, o8, o9, o10, o11, o12, o13, o14, o15, o16, o17⟩, a0, a1, a2, a3, a4, a5, a6, a7, a8, a9, a10, a11, a12, a13, a14⟩ := id hR
  have hbn := hI.bNe
  have hpn := hI.pNe
  have x0 := hI.len
  have x1 := hI.hour
  have x2 := hI.gas
  have x3 := hI.leak
  have x4 := hI.gn
  have x5 := hI.bn
  have x6 := hI.pn
  refine Ct.of [aR 201, aI 110, aI v] rfl ?_
  refine r_ild cd_38_0 rfl rfl ?_
  refine r_con (v := 111) cd_38_1 rfl (by decide) ?_
  refine r_ic62 cd_38_3 rfl ⟨by omega, by omega⟩ ⟨by omega, by omega⟩ (fun n1 => ?_) (fun n1 => ?_)
  · exact absurd n1 (by decide)
  · refine r_ild cd_38_18 rfl rfl ?_
    refine r_con (v := 107) cd_38_19 rfl (by decide) ?_
    refine r_ic62 cd_38_21 rfl ⟨by omega, by omega⟩ ⟨by omega, by omega⟩ (fun n2 => ?_) (fun n2 => ?_)
    · exact absurd n2 (by decide)
    · refine r_ild cd_38_47 rfl rfl ?_
      refine r_aldR cd_38_48 rfl rfl ?_
      refine r_ild cd_38_49 rfl rfl ?_
      refine r_cI k_39_n cd_38_50 rfl rfl rfl (rc0 hS rfl) rfl rfl rfl ?_
      refine r_ic63 cd_38_53 rfl hv ⟨by omega, by omega⟩ (fun n3 => ?_) (fun n3 => ?_)
      · refine r_con (v := 0) cd_38_69 rfl (by decide) ?_
        exact r_ret cd_38_70 (Or.inl rfl) (rB (by rw [decide_eq_false (show ¬ (0 ≤ v ∧ v ≤ 99) by omega)]; rfl))
      · refine r_ild cd_38_56 rfl rfl ?_
        refine r_aldR cd_38_57 rfl rfl ?_
        refine r_ild cd_38_58 rfl rfl ?_
        refine r_cI (k_40_n dp ex ek eo hS hR) cd_38_59 rfl rfl rfl (rc0 hS rfl) rfl rfl rfl ?_
        refine r_ic65 cd_38_62 rfl hv ⟨by omega, by omega⟩ (fun n4 => ?_) (fun n4 => ?_)
        · refine r_con (v := 0) cd_38_69 rfl (by decide) ?_
          exact r_ret cd_38_70 (Or.inl rfl) (rB (by rw [decide_eq_false (show ¬ (0 ≤ v ∧ v ≤ 99) by omega)]; rfl))
        · refine r_con (v := 1) cd_38_65 rfl (by decide) ?_
          refine r_goto cd_38_66 ?_
          exact r_ret cd_38_70 (Or.inr rfl) (rB (by rw [decide_eq_true (show 0 ≤ v ∧ v ≤ 99 by omega)]; rfl))
theorem k_38_c {h : aH} (dp ex ek eo : Int) (hS : h.2.2 201 = SO dp ex ek eo) {w : Nat → Int} (hR : Rp h 204 w) (hI : Inv0 w) {va : Nat → Int} (hV : h.2.2 222 = .inl (0, 4, .inl va)) (v : Int) (hv : inR v) : Ct 2 38 [aR 201, aI 99, aI v] h (.inl (some (aI (bz (decide (0 ≤ v ∧ v ≤ w 6 - 1))))), h) := by
  obtain ⟨c, ⟨o0, o1, o2, o3, o4, o5, o6, o7, o8, o9, o10, o11, o12, o13, o14, o15, o16, o17⟩, a0, a1, a2, a3, a4, a5, a6, a7, a8, a9, a10, a11, a12, a13, a14⟩ := id hR
  have hbn := hI.bNe
  have hpn := hI.pNe
  have x0 := hI.len
  have x1 := hI.hour
  have x2 := hI.gas
  have x3 := hI.leak
  have x4 := hI.gn
  have x5 := hI.bn
  have x6 := hI.pn
  refine Ct.of [aR 201, aI 99, aI v] rfl ?_
  refine r_ild cd_38_0 rfl rfl ?_
  refine r_con (v := 111) cd_38_1 rfl (by decide) ?_
  refine r_ic62 cd_38_3 rfl ⟨by omega, by omega⟩ ⟨by omega, by omega⟩ (fun n1 => ?_) (fun n1 => ?_)
  · exact absurd n1 (by decide)
  · refine r_ild cd_38_18 rfl rfl ?_
    refine r_con (v := 107) cd_38_19 rfl (by decide) ?_
    refine r_ic62 cd_38_21 rfl ⟨by omega, by omega⟩ ⟨by omega, by omega⟩ (fun n2 => ?_) (fun n2 => ?_)
    · exact absurd n2 (by decide)
    · refine r_ild cd_38_47 rfl rfl ?_
      refine r_aldR cd_38_48 rfl rfl ?_
      refine r_ild cd_38_49 rfl rfl ?_
      refine r_cI k_39_c cd_38_50 rfl rfl rfl (rc0 hS rfl) rfl rfl rfl ?_
      refine r_ic63 cd_38_53 rfl hv ⟨by omega, by omega⟩ (fun n3 => ?_) (fun n3 => ?_)
      · refine r_con (v := 0) cd_38_69 rfl (by decide) ?_
        exact r_ret cd_38_70 (Or.inl rfl) (rB (by rw [decide_eq_false (show ¬ (0 ≤ v ∧ v ≤ w 6 - 1) by omega)]; rfl))
      · refine r_ild cd_38_56 rfl rfl ?_
        refine r_aldR cd_38_57 rfl rfl ?_
        refine r_ild cd_38_58 rfl rfl ?_
        refine r_cI (k_40_c dp ex ek eo hS hR) cd_38_59 rfl rfl rfl (rc0 hS rfl) rfl rfl rfl ?_
        refine r_ic65 cd_38_62 rfl hv ⟨by omega, by omega⟩ (fun n4 => ?_) (fun n4 => ?_)
        · refine r_con (v := 0) cd_38_69 rfl (by decide) ?_
          exact r_ret cd_38_70 (Or.inl rfl) (rB (by rw [decide_eq_false (show ¬ (0 ≤ v ∧ v ≤ w 6 - 1) by omega)]; rfl))
        · refine r_con (v := 1) cd_38_65 rfl (by decide) ?_
          refine r_goto cd_38_66 ?_
          exact r_ret cd_38_70 (Or.inr rfl) (rB (by rw [decide_eq_true (show 0 ≤ v ∧ v ≤ w 6 - 1 by omega)]; rfl))
theorem k_38_b {h : aH} (dp ex ek eo : Int) (hS : h.2.2 201 = SO dp ex ek eo) {w : Nat → Int} (hR : Rp h 204 w) (hI : Inv0 w) {va : Nat → Int} (hV : h.2.2 222 = .inl (0, 4, .inl va)) (v : Int) (hv : inR v) : Ct 2 38 [aR 201, aI 98, aI v] h (.inl (some (aI (bz (decide (0 ≤ v ∧ v ≤ w 5 - 1))))), h) := by
  obtain ⟨c, ⟨o0, o1, o2, o3, o4, o5, o6, o7, o8, o9, o10, o11, o12, o13, o14, o15, o16, o17⟩, a0, a1, a2, a3, a4, a5, a6, a7, a8, a9, a10, a11, a12, a13, a14⟩ := id hR
  have hbn := hI.bNe
  have hpn := hI.pNe
  have x0 := hI.len
  have x1 := hI.hour
  have x2 := hI.gas
  have x3 := hI.leak
  have x4 := hI.gn
  have x5 := hI.bn
  have x6 := hI.pn
  refine Ct.of [aR 201, aI 98, aI v] rfl ?_
  refine r_ild cd_38_0 rfl rfl ?_
  refine r_con (v := 111) cd_38_1 rfl (by decide) ?_
  refine r_ic62 cd_38_3 rfl ⟨by omega, by omega⟩ ⟨by omega, by omega⟩ (fun n1 => ?_) (fun n1 => ?_)
  · exact absurd n1 (by decide)
  · refine r_ild cd_38_18 rfl rfl ?_
    refine r_con (v := 107) cd_38_19 rfl (by decide) ?_
    refine r_ic62 cd_38_21 rfl ⟨by omega, by omega⟩ ⟨by omega, by omega⟩ (fun n2 => ?_) (fun n2 => ?_)
    · exact absurd n2 (by decide)
    · refine r_ild cd_38_47 rfl rfl ?_
      refine r_aldR cd_38_48 rfl rfl ?_
      refine r_ild cd_38_49 rfl rfl ?_
      refine r_cI k_39_b cd_38_50 rfl rfl rfl (rc0 hS rfl) rfl rfl rfl ?_
      refine r_ic63 cd_38_53 rfl hv ⟨by omega, by omega⟩ (fun n3 => ?_) (fun n3 => ?_)
      · refine r_con (v := 0) cd_38_69 rfl (by decide) ?_
        exact r_ret cd_38_70 (Or.inl rfl) (rB (by rw [decide_eq_false (show ¬ (0 ≤ v ∧ v ≤ w 5 - 1) by omega)]; rfl))
      · refine r_ild cd_38_56 rfl rfl ?_
        refine r_aldR cd_38_57 rfl rfl ?_
        refine r_ild cd_38_58 rfl rfl ?_
        refine r_cI (k_40_b dp ex ek eo hS hR) cd_38_59 rfl rfl rfl (rc0 hS rfl) rfl rfl rfl ?_
        refine r_ic65 cd_38_62 rfl hv ⟨by omega, by omega⟩ (fun n4 => ?_) (fun n4 => ?_)
        · refine r_con (v := 0) cd_38_69 rfl (by decide) ?_
          exact r_ret cd_38_70 (Or.inl rfl) (rB (by rw [decide_eq_false (show ¬ (0 ≤ v ∧ v ≤ w 5 - 1) by omega)]; rfl))
        · refine r_con (v := 1) cd_38_65 rfl (by decide) ?_
          refine r_goto cd_38_66 ?_
          exact r_ret cd_38_70 (Or.inr rfl) (rB (by rw [decide_eq_true (show 0 ≤ v ∧ v ≤ w 5 - 1 by omega)]; rfl))
theorem k_38_f {h : aH} (dp ex ek eo : Int) (hS : h.2.2 201 = SO dp ex ek eo) {w : Nat → Int} (hR : Rp h 204 w) (hI : Inv0 w) {va : Nat → Int} (hV : h.2.2 222 = .inl (0, 4, .inl va)) (v : Int) (hv : inR v) : Ct 2 38 [aR 201, aI 102, aI v] h (.inl (some (aI (bz (decide (1 ≤ v ∧ v ≤ 29))))), h) := by
  obtain ⟨c, ⟨o0, o1, o2, o3, o4, o5, o6, o7, o8, o9, o10, o11, o12, o13, o14, o15, o16, o17⟩, a0, a1, a2, a3, a4, a5, a6, a7, a8, a9, a10, a11, a12, a13, a14⟩ := id hR
  have hbn := hI.bNe
  have hpn := hI.pNe
  have x0 := hI.len
  have x1 := hI.hour
  have x2 := hI.gas
  have x3 := hI.leak
  have x4 := hI.gn
  have x5 := hI.bn
  have x6 := hI.pn
  refine Ct.of [aR 201, aI 102, aI v] rfl ?_
  refine r_ild cd_38_0 rfl rfl ?_
  refine r_con (v := 111) cd_38_1 rfl (by decide) ?_
  refine r_ic62 cd_38_3 rfl ⟨by omega, by omega⟩ ⟨by omega, by omega⟩ (fun n1 => ?_) (fun n1 => ?_)
  · exact absurd n1 (by decide)
  · refine r_ild cd_38_18 rfl rfl ?_
    refine r_con (v := 107) cd_38_19 rfl (by decide) ?_
    refine r_ic62 cd_38_21 rfl ⟨by omega, by omega⟩ ⟨by omega, by omega⟩ (fun n2 => ?_) (fun n2 => ?_)
    · exact absurd n2 (by decide)
    · refine r_ild cd_38_47 rfl rfl ?_
      refine r_aldR cd_38_48 rfl rfl ?_
      refine r_ild cd_38_49 rfl rfl ?_
      refine r_cI k_39_f cd_38_50 rfl rfl rfl (rc0 hS rfl) rfl rfl rfl ?_
      refine r_ic63 cd_38_53 rfl hv ⟨by omega, by omega⟩ (fun n3 => ?_) (fun n3 => ?_)
      · refine r_con (v := 0) cd_38_69 rfl (by decide) ?_
        exact r_ret cd_38_70 (Or.inl rfl) (rB (by rw [decide_eq_false (show ¬ (1 ≤ v ∧ v ≤ 29) by omega)]; rfl))
      · refine r_ild cd_38_56 rfl rfl ?_
        refine r_aldR cd_38_57 rfl rfl ?_
        refine r_ild cd_38_58 rfl rfl ?_
        refine r_cI (k_40_f dp ex ek eo hS hR) cd_38_59 rfl rfl rfl (rc0 hS rfl) rfl rfl rfl ?_
        refine r_ic65 cd_38_62 rfl hv ⟨by omega, by omega⟩ (fun n4 => ?_) (fun n4 => ?_)
        · refine r_con (v := 0) cd_38_69 rfl (by decide) ?_
          exact r_ret cd_38_70 (Or.inl rfl) (rB (by rw [decide_eq_false (show ¬ (1 ≤ v ∧ v ≤ 29) by omega)]; rfl))
        · refine r_con (v := 1) cd_38_65 rfl (by decide) ?_
          refine r_goto cd_38_66 ?_
          exact r_ret cd_38_70 (Or.inr rfl) (rB (by rw [decide_eq_true (show 1 ≤ v ∧ v ≤ 29 by omega)]; rfl))
theorem k_38_a {h : aH} (dp ex ek eo : Int) (hS : h.2.2 201 = SO dp ex ek eo) {w : Nat → Int} (hR : Rp h 204 w) (hI : Inv0 w) {va : Nat → Int} (hV : h.2.2 222 = .inl (0, 4, .inl va)) (v : Int) (hv : inR v) : Ct 2 38 [aR 201, aI 97, aI v] h (.inl (some (aI (bz (decide (1 ≤ v ∧ v ≤ 200))))), h) := by
  obtain ⟨c, ⟨o0, o1, o2, o3, o4, o5, o6, o7, o8, o9, o10, o11, o12, o13, o14, o15, o16, o17⟩, a0, a1, a2, a3, a4, a5, a6, a7, a8, a9, a10, a11, a12, a13, a14⟩ := id hR
  have hbn := hI.bNe
  have hpn := hI.pNe
  have x0 := hI.len
  have x1 := hI.hour
  have x2 := hI.gas
  have x3 := hI.leak
  have x4 := hI.gn
  have x5 := hI.bn
  have x6 := hI.pn
  refine Ct.of [aR 201, aI 97, aI v] rfl ?_
  refine r_ild cd_38_0 rfl rfl ?_
  refine r_con (v := 111) cd_38_1 rfl (by decide) ?_
  refine r_ic62 cd_38_3 rfl ⟨by omega, by omega⟩ ⟨by omega, by omega⟩ (fun n1 => ?_) (fun n1 => ?_)
  · exact absurd n1 (by decide)
  · refine r_ild cd_38_18 rfl rfl ?_
    refine r_con (v := 107) cd_38_19 rfl (by decide) ?_
    refine r_ic62 cd_38_21 rfl ⟨by omega, by omega⟩ ⟨by omega, by omega⟩ (fun n2 => ?_) (fun n2 => ?_)
    · exact absurd n2 (by decide)
    · refine r_ild cd_38_47 rfl rfl ?_
      refine r_aldR cd_38_48 rfl rfl ?_
      refine r_ild cd_38_49 rfl rfl ?_
      refine r_cI k_39_a cd_38_50 rfl rfl rfl (rc0 hS rfl) rfl rfl rfl ?_
      refine r_ic63 cd_38_53 rfl hv ⟨by omega, by omega⟩ (fun n3 => ?_) (fun n3 => ?_)
      · refine r_con (v := 0) cd_38_69 rfl (by decide) ?_
        exact r_ret cd_38_70 (Or.inl rfl) (rB (by rw [decide_eq_false (show ¬ (1 ≤ v ∧ v ≤ 200) by omega)]; rfl))
      · refine r_ild cd_38_56 rfl rfl ?_
        refine r_aldR cd_38_57 rfl rfl ?_
        refine r_ild cd_38_58 rfl rfl ?_
        refine r_cI (k_40_a dp ex ek eo hS hR) cd_38_59 rfl rfl rfl (rc0 hS rfl) rfl rfl rfl ?_
        refine r_ic65 cd_38_62 rfl hv ⟨by omega, by omega⟩ (fun n4 => ?_) (fun n4 => ?_)
        · refine r_con (v := 0) cd_38_69 rfl (by decide) ?_
          exact r_ret cd_38_70 (Or.inl rfl) (rB (by rw [decide_eq_false (show ¬ (1 ≤ v ∧ v ≤ 200) by omega)]; rfl))
        · refine r_con (v := 1) cd_38_65 rfl (by decide) ?_
          refine r_goto cd_38_66 ?_
          exact r_ret cd_38_70 (Or.inr rfl) (rB (by rw [decide_eq_true (show 1 ≤ v ∧ v ≤ 200 by omega)]; rfl))
theorem k_38_k {h : aH} (dp ex ek eo : Int) (hS : h.2.2 201 = SO dp ex ek eo) {w : Nat → Int} (hR : Rp h 204 w) (hI : Inv0 w) {va : Nat → Int} (hV : h.2.2 222 = .inl (0, 4, .inl va)) (hv0 : inR (va 0)) (v : Int) (hv : inR v) : Ct 2 38 [aR 201, aI 107, aI v] h (.inl (some (aI (bz (!decide (foundP w (va 0) v = -1) && decide (0 ≤ v ∧ v ≤ 99))))), h) := by
  obtain ⟨c, ⟨o0, o1, o2, o3, o4, o5, o6, o7, o8, o9, o10, o11, o12, o13, o14, o15, o16, o17⟩, a0, a1, a2, a3, a4, a5, a6, a7, a8, a9, a10, a11, a12, a13, a14⟩ := id hR
  have hbn := hI.bNe
  have hpn := hI.pNe
  have x0 := hI.len
  have x1 := hI.hour
  have x2 := hI.gas
  have x3 := hI.leak
  have x4 := hI.gn
  have x5 := hI.bn
  have x6 := hI.pn
  refine Ct.of [aR 201, aI 107, aI v] rfl ?_
  refine r_ild cd_38_0 rfl rfl ?_
  refine r_con (v := 111) cd_38_1 rfl (by decide) ?_
  refine r_ic62 cd_38_3 rfl ⟨by omega, by omega⟩ ⟨by omega, by omega⟩ (fun n1 => ?_) (fun n1 => ?_)
  · exact absurd n1 (by decide)
  · refine r_ild cd_38_18 rfl rfl ?_
    refine r_con (v := 107) cd_38_19 rfl (by decide) ?_
    refine r_ic62 cd_38_21 rfl ⟨by omega, by omega⟩ ⟨by omega, by omega⟩ (fun n2 => ?_) (fun n2 => ?_)
    · refine r_aldR cd_38_24 rfl rfl ?_
      refine r_get cd_38_25 rfl hS rfl ?_
      refine r_get cd_38_28 rfl o0 rfl ?_
      refine r_aldR cd_38_31 rfl rfl ?_
      refine r_get cd_38_32 rfl hS rfl ?_
      refine r_con (v := 0) cd_38_35 rfl (by decide) ?_
      refine r_arr (i := 0) cd_38_36 rfl hV rfl (by omega) rfl ?_
      refine r_ild cd_38_37 rfl rfl ?_
      refine r_cI (k_16 (B := 204) hR hI (va 0) hv0 v hv) cd_38_38 rfl rfl rfl (rc0 o10 rfl) rfl rfl rfl ?_
      refine r_con (v := (-1)) cd_38_41 rfl (by decide) ?_
      refine r_ic62 cd_38_42 rfl (inR_of (found_c hI) (by decide) (by decide)) ⟨by omega, by omega⟩ (fun n3 => ?_) (fun n3 => ?_)
      · refine r_con (v := 0) cd_38_45 rfl (by decide) ?_
        exact r_ret cd_38_46 (Or.inl rfl) (rB (by rw [decide_eq_true (show foundP w (va 0) v = -1 from n3), Bool.not_true, Bool.false_and]; rfl))
      · refine r_ild cd_38_47 rfl rfl ?_
        refine r_aldR cd_38_48 rfl rfl ?_
        refine r_ild cd_38_49 rfl rfl ?_
        refine r_cI k_39_k cd_38_50 rfl rfl rfl (rc0 hS rfl) rfl rfl rfl ?_
        refine r_ic63 cd_38_53 rfl hv ⟨by omega, by omega⟩ (fun n4 => ?_) (fun n4 => ?_)
        · refine r_con (v := 0) cd_38_69 rfl (by decide) ?_
          exact r_ret cd_38_70 (Or.inl rfl) (rB (by rw [decide_eq_false (show ¬ (0 ≤ v ∧ v ≤ 99) by omega), Bool.and_false]; rfl))
        · refine r_ild cd_38_56 rfl rfl ?_
          refine r_aldR cd_38_57 rfl rfl ?_
          refine r_ild cd_38_58 rfl rfl ?_
          refine r_cI (k_40_k dp ex ek eo hS hR) cd_38_59 rfl rfl rfl (rc0 hS rfl) rfl rfl rfl ?_
          refine r_ic65 cd_38_62 rfl hv ⟨by omega, by omega⟩ (fun n5 => ?_) (fun n5 => ?_)
          · refine r_con (v := 0) cd_38_69 rfl (by decide) ?_
            exact r_ret cd_38_70 (Or.inl rfl) (rB (by rw [decide_eq_false (show ¬ (0 ≤ v ∧ v ≤ 99) by omega), Bool.and_false]; rfl))
          · refine r_con (v := 1) cd_38_65 rfl (by decide) ?_
            refine r_goto cd_38_66 ?_
            exact r_ret cd_38_70 (Or.inr rfl) (rB (by rw [decide_eq_false (show ¬ foundP w (va 0) v = -1 from n3), Bool.not_false, Bool.true_and]; rw [decide_eq_true (show 0 ≤ v ∧ v ≤ 99 by omega)]; rfl))
    · exact absurd rfl n2
theorem k_38_t {h : aH} (dp ex ek eo : Int) (hS : h.2.2 201 = SO dp ex ek eo) {w : Nat → Int} (hR : Rp h 204 w) (hI : Inv0 w) {va : Nat → Int} (hV : h.2.2 222 = .inl (0, 4, .inl va)) (v : Int) (hv : inR v) : Ct 2 38 [aR 201, aI 116, aI v] h (.inl (some (aI (bz (decide (1 ≤ v ∧ v ≤ 24))))), h) := by
  obtain ⟨c, ⟨o0, o1, o2, o3, o4, o5, o6, o7, o8, o9, o10, o11, o12, o13, o14, o15, o16, o17⟩, a0, a1, a2, a3, a4, a5, a6, a7, a8, a9, a10, a11, a12, a13, a14⟩ := id hR
  have hbn := hI.bNe
  have hpn := hI.pNe
  have x0 := hI.len
  have x1 := hI.hour
  have x2 := hI.gas
  have x3 := hI.leak
  have x4 := hI.gn
  have x5 := hI.bn
  have x6 := hI.pn
  refine Ct.of [aR 201, aI 116, aI v] rfl ?_
  refine r_ild cd_38_0 rfl rfl ?_
  refine r_con (v := 111) cd_38_1 rfl (by decide) ?_
  refine r_ic62 cd_38_3 rfl ⟨by omega, by omega⟩ ⟨by omega, by omega⟩ (fun n1 => ?_) (fun n1 => ?_)
  · exact absurd n1 (by decide)
  · refine r_ild cd_38_18 rfl rfl ?_
    refine r_con (v := 107) cd_38_19 rfl (by decide) ?_
    refine r_ic62 cd_38_21 rfl ⟨by omega, by omega⟩ ⟨by omega, by omega⟩ (fun n2 => ?_) (fun n2 => ?_)
    · exact absurd n2 (by decide)
    · refine r_ild cd_38_47 rfl rfl ?_
      refine r_aldR cd_38_48 rfl rfl ?_
      refine r_ild cd_38_49 rfl rfl ?_
      refine r_cI k_39_t cd_38_50 rfl rfl rfl (rc0 hS rfl) rfl rfl rfl ?_
      refine r_ic63 cd_38_53 rfl hv ⟨by omega, by omega⟩ (fun n3 => ?_) (fun n3 => ?_)
      · refine r_con (v := 0) cd_38_69 rfl (by decide) ?_
        exact r_ret cd_38_70 (Or.inl rfl) (rB (by rw [decide_eq_false (show ¬ (1 ≤ v ∧ v ≤ 24) by omega)]; rfl))
      · refine r_ild cd_38_56 rfl rfl ?_
        refine r_aldR cd_38_57 rfl rfl ?_
        refine r_ild cd_38_58 rfl rfl ?_
        refine r_cI (k_40_t dp ex ek eo hS hR) cd_38_59 rfl rfl rfl (rc0 hS rfl) rfl rfl rfl ?_
        refine r_ic65 cd_38_62 rfl hv ⟨by omega, by omega⟩ (fun n4 => ?_) (fun n4 => ?_)
        · refine r_con (v := 0) cd_38_69 rfl (by decide) ?_
          exact r_ret cd_38_70 (Or.inl rfl) (rB (by rw [decide_eq_false (show ¬ (1 ≤ v ∧ v ≤ 24) by omega)]; rfl))
        · refine r_con (v := 1) cd_38_65 rfl (by decide) ?_
          refine r_goto cd_38_66 ?_
          exact r_ret cd_38_70 (Or.inr rfl) (rB (by rw [decide_eq_true (show 1 ≤ v ∧ v ≤ 24 by omega)]; rfl))
theorem k_38_r {h : aH} (dp ex ek eo : Int) (hS : h.2.2 201 = SO dp ex ek eo) {w : Nat → Int} (hR : Rp h 204 w) (hI : Inv0 w) {va : Nat → Int} (hV : h.2.2 222 = .inl (0, 4, .inl va)) (v : Int) (hv : inR v) : Ct 2 38 [aR 201, aI 114, aI v] h (.inl (some (aI (bz (decide (1 ≤ v ∧ v ≤ 20))))), h) := by
  obtain ⟨c, ⟨o0, o1, o2, o3, o4, o5, o6, o7, o8, o9, o10, o11, o12, o13, o14, o15, o16, o17⟩, a0, a1, a2, a3, a4, a5, a6, a7, a8, a9, a10, a11, a12, a13, a14⟩ := id hR
  have hbn := hI.bNe
  have hpn := hI.pNe
  have x0 := hI.len
  have x1 := hI.hour
  have x2 := hI.gas
  have x3 := hI.leak
  have x4 := hI.gn
  have x5 := hI.bn
  have x6 := hI.pn
  refine Ct.of [aR 201, aI 114, aI v] rfl ?_
  refine r_ild cd_38_0 rfl rfl ?_
  refine r_con (v := 111) cd_38_1 rfl (by decide) ?_
  refine r_ic62 cd_38_3 rfl ⟨by omega, by omega⟩ ⟨by omega, by omega⟩ (fun n1 => ?_) (fun n1 => ?_)
  · exact absurd n1 (by decide)
  · refine r_ild cd_38_18 rfl rfl ?_
    refine r_con (v := 107) cd_38_19 rfl (by decide) ?_
    refine r_ic62 cd_38_21 rfl ⟨by omega, by omega⟩ ⟨by omega, by omega⟩ (fun n2 => ?_) (fun n2 => ?_)
    · exact absurd n2 (by decide)
    · refine r_ild cd_38_47 rfl rfl ?_
      refine r_aldR cd_38_48 rfl rfl ?_
      refine r_ild cd_38_49 rfl rfl ?_
      refine r_cI k_39_r cd_38_50 rfl rfl rfl (rc0 hS rfl) rfl rfl rfl ?_
      refine r_ic63 cd_38_53 rfl hv ⟨by omega, by omega⟩ (fun n3 => ?_) (fun n3 => ?_)
      · refine r_con (v := 0) cd_38_69 rfl (by decide) ?_
        exact r_ret cd_38_70 (Or.inl rfl) (rB (by rw [decide_eq_false (show ¬ (1 ≤ v ∧ v ≤ 20) by omega)]; rfl))
      · refine r_ild cd_38_56 rfl rfl ?_
        refine r_aldR cd_38_57 rfl rfl ?_
        refine r_ild cd_38_58 rfl rfl ?_
        refine r_cI (k_40_r dp ex ek eo hS hR) cd_38_59 rfl rfl rfl (rc0 hS rfl) rfl rfl rfl ?_
        refine r_ic65 cd_38_62 rfl hv ⟨by omega, by omega⟩ (fun n4 => ?_) (fun n4 => ?_)
        · refine r_con (v := 0) cd_38_69 rfl (by decide) ?_
          exact r_ret cd_38_70 (Or.inl rfl) (rB (by rw [decide_eq_false (show ¬ (1 ≤ v ∧ v ≤ 20) by omega)]; rfl))
        · refine r_con (v := 1) cd_38_65 rfl (by decide) ?_
          refine r_goto cd_38_66 ?_
          exact r_ret cd_38_70 (Or.inr rfl) (rB (by rw [decide_eq_true (show 1 ≤ v ∧ v ≤ 20 by omega)]; rfl))
/-- a number is read: refused (the script's own numbers tell why), or there it is -/
def NumP (K y : Nat) (args : List aV) (h : aH) (N : Nat) (dp ex ek eo : Int) (A : Er ⊕ (Nat × Nat)) : Prop := match A with
  | .inl e => ∃ h', Ct K y args h (.inl (some (aI 0)), h') ∧ h'.2.2 201 = SO dp ex e.1 e.2 ∧ (∃ st nx kd vl, h'.2.2 202 = TO N st nx kd vl) ∧ NO h h'
  | .inr a => ∃ h', Ct K y args h (.inl (some (aI 1)), h') ∧ h'.2.2 201 = SO dp ex ek eo ∧ (∃ st kd, h'.2.2 202 = TO N st ((a.2 : Nat) : Int) kd ((a.1 : Nat) : Int)) ∧ NO h h'
theorem v_37_p {h : aH} {tx tb : Nat → Int} {N : Nat} (hN : N ≤ 600) (hT : ∀ k, k < N → BT (tx k) (tb k)) (dp ex ek eo : Int) (hS : h.2.2 201 = SO dp ex ek eo) {w : Nat → Int} (hR : Rp h 204 w) (hI : Inv0 w) {va : Nat → Int} (hV : h.2.2 222 = .inl (0, 4, .inl va)) (hb : TxB tx) (st kd vl : Int) (i : Nat) (hi : i ≤ N) (hO : h.2.2 202 = TO N st ((i : Nat) : Int) kd vl) (hB : h.2.2 203 = .inl (1, 600, .inl tb)) : NumP 4 37 [aR 201, aI 112] h N dp ex ek eo (numA tx N i 0 (w 0 - 1)) := by
  obtain ⟨c, ⟨o0, o1, o2, o3, o4, o5, o6, o7, o8, o9, o10, o11, o12, o13, o14, o15, o16, o17⟩, a0, a1, a2, a3, a4, a5, a6, a7, a8, a9, a10, a11, a12, a13, a14⟩ := id hR
  obtain ⟨vl', c1, hv⟩ := v_64 hN hT st kd vl i hi hO hB
  have hkb := kM_b (k := tKnd tx N i)
  have hk3 := kM_3 (tx := tx) (N := N) (i := i)
  have R1 : Rp (sw h 202 (TO N ((tOff tx N i : Nat) : Int) ((tEnd tx N i : Nat) : Int) (kM (tKnd tx N i)) vl')) 204 w := (NO.rf.t).rp hR
  by_cases hk : tKnd tx N i = 3
  rotate_left
  · rw [show numA tx N i 0 (w 0 - 1) = .inl (1, ((tOff tx N i : Nat) : Int)) by unfold numA; rw [if_pos hk]]
    refine ⟨sw (sw h 202 (TO N ((tOff tx N i : Nat) : Int) ((tEnd tx N i : Nat) : Int) (kM (tKnd tx N i)) vl')) 201 (SO dp ex 1 ((tOff tx N i : Nat) : Int)), Ct.of [aR 201, aI 112] rfl ?_, sw_at _ _ _, ⟨_, _, _, _, (sw_ne (by decide)).trans (sw_at _ _ _)⟩, NO.rf.t.s⟩
    refine r_aldR cd_37_0 rfl rfl ?_
    refine r_get cd_37_1 rfl hS rfl ?_
    refine r_cV c1 cd_37_4 rfl rfl rfl (rc0 hO rfl) rfl rfl rfl ?_
    refine r_aldR cd_37_7 rfl rfl ?_
    refine r_get cd_37_8 rfl ((sw_ne (by decide)).trans hS) rfl ?_
    refine r_get cd_37_11 rfl (sw_at _ _ _) rfl ?_
    refine r_con (v := 2) cd_37_14 rfl (by decide) ?_
    refine r_ic61 cd_37_15 rfl ⟨by omega, by omega⟩ ⟨by omega, by omega⟩ (fun n1 => ?_) (fun n1 => ?_)
    · exact absurd (hk3.mp n1) hk
    · refine r_aldR cd_37_18 rfl rfl ?_
      refine r_con (v := 1) cd_37_19 rfl (by decide) ?_
      refine r_cI (k_36 dp ex ek eo ((sw_ne (by decide)).trans hS) N _ _ _ _ (sw_at _ _ _) 1) cd_37_20 rfl rfl rfl (rc0 ((sw_ne (by decide)).trans hS) rfl) rfl rfl rfl ?_
      exact r_ret cd_37_23 (Or.inl rfl) (rfl)
  have hvv := hv hk
  have hvr : inR vl' := by rw [hvv]; exact tVal_in hb hk
  have nk : ¬ ¬ tKnd tx N i = 3 := fun e => e hk
  have es : (decide (0 ≤ vl' ∧ vl' ≤ w 0 - 1)) = true ↔ 0 ≤ tVal tx N i ∧ tVal tx N i ≤ w 0 - 1 := by rw [hvv]; simp
  by_cases hs : 0 ≤ tVal tx N i ∧ tVal tx N i ≤ w 0 - 1
  · rw [show numA tx N i 0 (w 0 - 1) = .inr ((tVal tx N i).toNat, tEnd tx N i) by unfold numA; rw [if_neg nk, if_pos hs]]
    have h0 : 0 ≤ tVal tx N i := by have := hs.1; omega
    refine ⟨(sw h 202 (TO N ((tOff tx N i : Nat) : Int) ((tEnd tx N i : Nat) : Int) (kM (tKnd tx N i)) vl')), Ct.of [aR 201, aI 112] rfl ?_, (sw_ne (by decide)).trans hS, ⟨_, _, (sw_at _ _ _).trans (by rw [hvv]; show TO _ _ _ _ _ = TO _ _ _ _ (((tVal tx N i).toNat : Nat) : Int); rw [Int.toNat_of_nonneg h0])⟩, NO.rf.t⟩
    refine r_aldR cd_37_0 rfl rfl ?_
    refine r_get cd_37_1 rfl hS rfl ?_
    refine r_cV c1 cd_37_4 rfl rfl rfl (rc0 hO rfl) rfl rfl rfl ?_
    refine r_aldR cd_37_7 rfl rfl ?_
    refine r_get cd_37_8 rfl ((sw_ne (by decide)).trans hS) rfl ?_
    refine r_get cd_37_11 rfl (sw_at _ _ _) rfl ?_
    refine r_con (v := 2) cd_37_14 rfl (by decide) ?_
    refine r_ic61 cd_37_15 rfl ⟨by omega, by omega⟩ ⟨by omega, by omega⟩ (fun n1 => ?_) (fun n1 => ?_)
    · refine r_aldR cd_37_24 rfl rfl ?_
      refine r_ild cd_37_25 rfl rfl ?_
      refine r_aldR cd_37_26 rfl rfl ?_
      refine r_get cd_37_27 rfl ((sw_ne (by decide)).trans hS) rfl ?_
      refine r_get cd_37_30 rfl (sw_at _ _ _) rfl ?_
      refine r_cI (k_38_p dp ex ek eo ((sw_ne (by decide)).trans hS) R1 hI ((sw_ne (by decide)).trans hV) vl' hvr) cd_37_33 rfl rfl rfl (rc0 ((sw_ne (by decide)).trans hS) rfl) rfl rfl rfl ?_
      refine r_if52b cd_37_36 rfl (fun n2 => ?_) (fun n2 => ?_)
      · exact Bool.noConfusion (n2.symm.trans (es.mpr hs))
      · refine r_con (v := 1) cd_37_47 rfl (by decide) ?_
        refine r_goto cd_37_48 ?_
        exact r_ret cd_37_52 (Or.inr rfl) (rfl)
    · exact absurd (hk3.mpr hk) n1
  · rw [show numA tx N i 0 (w 0 - 1) = .inl (2, ((tOff tx N i : Nat) : Int)) by unfold numA; rw [if_neg nk, if_neg hs]]
    refine ⟨sw (sw h 202 (TO N ((tOff tx N i : Nat) : Int) ((tEnd tx N i : Nat) : Int) (kM (tKnd tx N i)) vl')) 201 (SO dp ex 2 ((tOff tx N i : Nat) : Int)), Ct.of [aR 201, aI 112] rfl ?_, sw_at _ _ _, ⟨_, _, _, _, (sw_ne (by decide)).trans (sw_at _ _ _)⟩, NO.rf.t.s⟩
    refine r_aldR cd_37_0 rfl rfl ?_
    refine r_get cd_37_1 rfl hS rfl ?_
    refine r_cV c1 cd_37_4 rfl rfl rfl (rc0 hO rfl) rfl rfl rfl ?_
    refine r_aldR cd_37_7 rfl rfl ?_
    refine r_get cd_37_8 rfl ((sw_ne (by decide)).trans hS) rfl ?_
    refine r_get cd_37_11 rfl (sw_at _ _ _) rfl ?_
    refine r_con (v := 2) cd_37_14 rfl (by decide) ?_
    refine r_ic61 cd_37_15 rfl ⟨by omega, by omega⟩ ⟨by omega, by omega⟩ (fun n1 => ?_) (fun n1 => ?_)
    · refine r_aldR cd_37_24 rfl rfl ?_
      refine r_ild cd_37_25 rfl rfl ?_
      refine r_aldR cd_37_26 rfl rfl ?_
      refine r_get cd_37_27 rfl ((sw_ne (by decide)).trans hS) rfl ?_
      refine r_get cd_37_30 rfl (sw_at _ _ _) rfl ?_
      refine r_cI (k_38_p dp ex ek eo ((sw_ne (by decide)).trans hS) R1 hI ((sw_ne (by decide)).trans hV) vl' hvr) cd_37_33 rfl rfl rfl (rc0 ((sw_ne (by decide)).trans hS) rfl) rfl rfl rfl ?_
      refine r_if52b cd_37_36 rfl (fun n2 => ?_) (fun n2 => ?_)
      · refine r_aldR cd_37_39 rfl rfl ?_
        refine r_con (v := 2) cd_37_40 rfl (by decide) ?_
        refine r_cI (k_36 dp ex ek eo ((sw_ne (by decide)).trans hS) N _ _ _ _ (sw_at _ _ _) 2) cd_37_41 rfl rfl rfl (rc0 ((sw_ne (by decide)).trans hS) rfl) rfl rfl rfl ?_
        refine r_if51 cd_37_44 rfl ⟨by omega, by omega⟩ (fun n3 => ?_) (fun n3 => ?_)
        · refine r_con (v := 0) cd_37_51 rfl (by decide) ?_
          exact r_ret cd_37_52 (Or.inl rfl) (rfl)
        · exact absurd n3 (by decide)
      · exact absurd (es.mp n2) hs
    · exact absurd (hk3.mpr hk) n1
theorem v_37_o {h : aH} {tx tb : Nat → Int} {N : Nat} (hN : N ≤ 600) (hT : ∀ k, k < N → BT (tx k) (tb k)) (dp ex ek eo : Int) (hS : h.2.2 201 = SO dp ex ek eo) {w : Nat → Int} (hR : Rp h 204 w) (hI : Inv0 w) {va : Nat → Int} (hV : h.2.2 222 = .inl (0, 4, .inl va)) (hb : TxB tx) (st kd vl : Int) (i : Nat) (hi : i ≤ N) (hO : h.2.2 202 = TO N st ((i : Nat) : Int) kd vl) (hB : h.2.2 203 = .inl (1, 600, .inl tb)) (x : Nat) (hx : x < 30) (hv1 : va 1 = ((x : Nat) : Int)) : NumP 4 37 [aR 201, aI 111] h N dp ex ek eo (othA tx N i x w) := by
  obtain ⟨c, ⟨o0, o1, o2, o3, o4, o5, o6, o7, o8, o9, o10, o11, o12, o13, o14, o15, o16, o17⟩, a0, a1, a2, a3, a4, a5, a6, a7, a8, a9, a10, a11, a12, a13, a14⟩ := id hR
  obtain ⟨vl', c1, hv⟩ := v_64 hN hT st kd vl i hi hO hB
  have hkb := kM_b (k := tKnd tx N i)
  have hk3 := kM_3 (tx := tx) (N := N) (i := i)
  have R1 : Rp (sw h 202 (TO N ((tOff tx N i : Nat) : Int) ((tEnd tx N i : Nat) : Int) (kM (tKnd tx N i)) vl')) 204 w := (NO.rf.t).rp hR
  by_cases hk : tKnd tx N i = 3
  rotate_left
  · rw [show othA tx N i x w = .inl (1, ((tOff tx N i : Nat) : Int)) by unfold othA numA; rw [if_neg (fun e => hk e.1), if_pos hk]]
    refine ⟨sw (sw h 202 (TO N ((tOff tx N i : Nat) : Int) ((tEnd tx N i : Nat) : Int) (kM (tKnd tx N i)) vl')) 201 (SO dp ex 1 ((tOff tx N i : Nat) : Int)), Ct.of [aR 201, aI 111] rfl ?_, sw_at _ _ _, ⟨_, _, _, _, (sw_ne (by decide)).trans (sw_at _ _ _)⟩, NO.rf.t.s⟩
    refine r_aldR cd_37_0 rfl rfl ?_
    refine r_get cd_37_1 rfl hS rfl ?_
    refine r_cV c1 cd_37_4 rfl rfl rfl (rc0 hO rfl) rfl rfl rfl ?_
    refine r_aldR cd_37_7 rfl rfl ?_
    refine r_get cd_37_8 rfl ((sw_ne (by decide)).trans hS) rfl ?_
    refine r_get cd_37_11 rfl (sw_at _ _ _) rfl ?_
    refine r_con (v := 2) cd_37_14 rfl (by decide) ?_
    refine r_ic61 cd_37_15 rfl ⟨by omega, by omega⟩ ⟨by omega, by omega⟩ (fun n1 => ?_) (fun n1 => ?_)
    · exact absurd (hk3.mp n1) hk
    · refine r_aldR cd_37_18 rfl rfl ?_
      refine r_con (v := 1) cd_37_19 rfl (by decide) ?_
      refine r_cI (k_36 dp ex ek eo ((sw_ne (by decide)).trans hS) N _ _ _ _ (sw_at _ _ _) 1) cd_37_20 rfl rfl rfl (rc0 ((sw_ne (by decide)).trans hS) rfl) rfl rfl rfl ?_
      exact r_ret cd_37_23 (Or.inl rfl) (rfl)
  have hvv := hv hk
  have hvr : inR vl' := by rw [hvv]; exact tVal_in hb hk
  have nk : ¬ ¬ tKnd tx N i = 3 := fun e => e hk
  have es : (!decide (vl' = va 1) && decide (0 ≤ vl' ∧ vl' ≤ w 0 - 1)) = true ↔ ¬ tVal tx N i = ((x : Nat) : Int) ∧ (0 ≤ tVal tx N i ∧ tVal tx N i ≤ w 0 - 1) := by rw [hvv, hv1]; simp
  by_cases hs : ¬ tVal tx N i = ((x : Nat) : Int) ∧ (0 ≤ tVal tx N i ∧ tVal tx N i ≤ w 0 - 1)
  · rw [show othA tx N i x w = .inr ((tVal tx N i).toNat, tEnd tx N i) by unfold othA numA; rw [if_neg (fun e => hs.1 e.2), if_neg nk, if_pos hs.2]]
    have h0 : 0 ≤ tVal tx N i := by have := hs.2.1; omega
    refine ⟨(sw h 202 (TO N ((tOff tx N i : Nat) : Int) ((tEnd tx N i : Nat) : Int) (kM (tKnd tx N i)) vl')), Ct.of [aR 201, aI 111] rfl ?_, (sw_ne (by decide)).trans hS, ⟨_, _, (sw_at _ _ _).trans (by rw [hvv]; show TO _ _ _ _ _ = TO _ _ _ _ (((tVal tx N i).toNat : Nat) : Int); rw [Int.toNat_of_nonneg h0])⟩, NO.rf.t⟩
    refine r_aldR cd_37_0 rfl rfl ?_
    refine r_get cd_37_1 rfl hS rfl ?_
    refine r_cV c1 cd_37_4 rfl rfl rfl (rc0 hO rfl) rfl rfl rfl ?_
    refine r_aldR cd_37_7 rfl rfl ?_
    refine r_get cd_37_8 rfl ((sw_ne (by decide)).trans hS) rfl ?_
    refine r_get cd_37_11 rfl (sw_at _ _ _) rfl ?_
    refine r_con (v := 2) cd_37_14 rfl (by decide) ?_
    refine r_ic61 cd_37_15 rfl ⟨by omega, by omega⟩ ⟨by omega, by omega⟩ (fun n1 => ?_) (fun n1 => ?_)
    · refine r_aldR cd_37_24 rfl rfl ?_
      refine r_ild cd_37_25 rfl rfl ?_
      refine r_aldR cd_37_26 rfl rfl ?_
      refine r_get cd_37_27 rfl ((sw_ne (by decide)).trans hS) rfl ?_
      refine r_get cd_37_30 rfl (sw_at _ _ _) rfl ?_
      refine r_cI (k_38_o dp ex ek eo ((sw_ne (by decide)).trans hS) R1 hI ((sw_ne (by decide)).trans hV) (by rw [hv1]; exact ⟨by omega, by omega⟩) vl' hvr) cd_37_33 rfl rfl rfl (rc0 ((sw_ne (by decide)).trans hS) rfl) rfl rfl rfl ?_
      refine r_if52b cd_37_36 rfl (fun n2 => ?_) (fun n2 => ?_)
      · exact Bool.noConfusion (n2.symm.trans (es.mpr hs))
      · refine r_con (v := 1) cd_37_47 rfl (by decide) ?_
        refine r_goto cd_37_48 ?_
        exact r_ret cd_37_52 (Or.inr rfl) (rfl)
    · exact absurd (hk3.mpr hk) n1
  · rw [show othA tx N i x w = .inl (2, ((tOff tx N i : Nat) : Int)) by unfold othA numA; by_cases e9 : tVal tx N i = ((x : Nat) : Int); rw [if_pos ⟨hk, e9⟩]; rw [if_neg (fun e => e9 e.2), if_neg nk, if_neg (fun e => hs ⟨e9, e⟩)]]
    refine ⟨sw (sw h 202 (TO N ((tOff tx N i : Nat) : Int) ((tEnd tx N i : Nat) : Int) (kM (tKnd tx N i)) vl')) 201 (SO dp ex 2 ((tOff tx N i : Nat) : Int)), Ct.of [aR 201, aI 111] rfl ?_, sw_at _ _ _, ⟨_, _, _, _, (sw_ne (by decide)).trans (sw_at _ _ _)⟩, NO.rf.t.s⟩
    refine r_aldR cd_37_0 rfl rfl ?_
    refine r_get cd_37_1 rfl hS rfl ?_
    refine r_cV c1 cd_37_4 rfl rfl rfl (rc0 hO rfl) rfl rfl rfl ?_
    refine r_aldR cd_37_7 rfl rfl ?_
    refine r_get cd_37_8 rfl ((sw_ne (by decide)).trans hS) rfl ?_
    refine r_get cd_37_11 rfl (sw_at _ _ _) rfl ?_
    refine r_con (v := 2) cd_37_14 rfl (by decide) ?_
    refine r_ic61 cd_37_15 rfl ⟨by omega, by omega⟩ ⟨by omega, by omega⟩ (fun n1 => ?_) (fun n1 => ?_)
    · refine r_aldR cd_37_24 rfl rfl ?_
      refine r_ild cd_37_25 rfl rfl ?_
      refine r_aldR cd_37_26 rfl rfl ?_
      refine r_get cd_37_27 rfl ((sw_ne (by decide)).trans hS) rfl ?_
      refine r_get cd_37_30 rfl (sw_at _ _ _) rfl ?_
      refine r_cI (k_38_o dp ex ek eo ((sw_ne (by decide)).trans hS) R1 hI ((sw_ne (by decide)).trans hV) (by rw [hv1]; exact ⟨by omega, by omega⟩) vl' hvr) cd_37_33 rfl rfl rfl (rc0 ((sw_ne (by decide)).trans hS) rfl) rfl rfl rfl ?_
      refine r_if52b cd_37_36 rfl (fun n2 => ?_) (fun n2 => ?_)
      · refine r_aldR cd_37_39 rfl rfl ?_
        refine r_con (v := 2) cd_37_40 rfl (by decide) ?_
        refine r_cI (k_36 dp ex ek eo ((sw_ne (by decide)).trans hS) N _ _ _ _ (sw_at _ _ _) 2) cd_37_41 rfl rfl rfl (rc0 ((sw_ne (by decide)).trans hS) rfl) rfl rfl rfl ?_
        refine r_if51 cd_37_44 rfl ⟨by omega, by omega⟩ (fun n3 => ?_) (fun n3 => ?_)
        · refine r_con (v := 0) cd_37_51 rfl (by decide) ?_
          exact r_ret cd_37_52 (Or.inl rfl) (rfl)
        · exact absurd n3 (by decide)
      · exact absurd (es.mp n2) hs
    · exact absurd (hk3.mpr hk) n1
theorem v_37_h {h : aH} {tx tb : Nat → Int} {N : Nat} (hN : N ≤ 600) (hT : ∀ k, k < N → BT (tx k) (tb k)) (dp ex ek eo : Int) (hS : h.2.2 201 = SO dp ex ek eo) {w : Nat → Int} (hR : Rp h 204 w) (hI : Inv0 w) {va : Nat → Int} (hV : h.2.2 222 = .inl (0, 4, .inl va)) (hb : TxB tx) (st kd vl : Int) (i : Nat) (hi : i ≤ N) (hO : h.2.2 202 = TO N st ((i : Nat) : Int) kd vl) (hB : h.2.2 203 = .inl (1, 600, .inl tb)) : NumP 4 37 [aR 201, aI 104] h N dp ex ek eo (numA tx N i 0 9) := by
  obtain ⟨c, ⟨o0, o1, o2, o3, o4, o5, o6, o7, o8, o9, o10, o11, o12, o13, o14, o15, o16, o17⟩, a0, a1, a2, a3, a4, a5, a6, a7, a8, a9, a10, a11, a12, a13, a14⟩ := id hR
  obtain ⟨vl', c1, hv⟩ := v_64 hN hT st kd vl i hi hO hB
  have hkb := kM_b (k := tKnd tx N i)
  have hk3 := kM_3 (tx := tx) (N := N) (i := i)
  have R1 : Rp (sw h 202 (TO N ((tOff tx N i : Nat) : Int) ((tEnd tx N i : Nat) : Int) (kM (tKnd tx N i)) vl')) 204 w := (NO.rf.t).rp hR
  by_cases hk : tKnd tx N i = 3
  rotate_left
  · rw [show numA tx N i 0 9 = .inl (1, ((tOff tx N i : Nat) : Int)) by unfold numA; rw [if_pos hk]]
    refine ⟨sw (sw h 202 (TO N ((tOff tx N i : Nat) : Int) ((tEnd tx N i : Nat) : Int) (kM (tKnd tx N i)) vl')) 201 (SO dp ex 1 ((tOff tx N i : Nat) : Int)), Ct.of [aR 201, aI 104] rfl ?_, sw_at _ _ _, ⟨_, _, _, _, (sw_ne (by decide)).trans (sw_at _ _ _)⟩, NO.rf.t.s⟩
    refine r_aldR cd_37_0 rfl rfl ?_
    refine r_get cd_37_1 rfl hS rfl ?_
    refine r_cV c1 cd_37_4 rfl rfl rfl (rc0 hO rfl) rfl rfl rfl ?_
    refine r_aldR cd_37_7 rfl rfl ?_
    refine r_get cd_37_8 rfl ((sw_ne (by decide)).trans hS) rfl ?_
    refine r_get cd_37_11 rfl (sw_at _ _ _) rfl ?_
    refine r_con (v := 2) cd_37_14 rfl (by decide) ?_
    refine r_ic61 cd_37_15 rfl ⟨by omega, by omega⟩ ⟨by omega, by omega⟩ (fun n1 => ?_) (fun n1 => ?_)
    · exact absurd (hk3.mp n1) hk
    · refine r_aldR cd_37_18 rfl rfl ?_
      refine r_con (v := 1) cd_37_19 rfl (by decide) ?_
      refine r_cI (k_36 dp ex ek eo ((sw_ne (by decide)).trans hS) N _ _ _ _ (sw_at _ _ _) 1) cd_37_20 rfl rfl rfl (rc0 ((sw_ne (by decide)).trans hS) rfl) rfl rfl rfl ?_
      exact r_ret cd_37_23 (Or.inl rfl) (rfl)
  have hvv := hv hk
  have hvr : inR vl' := by rw [hvv]; exact tVal_in hb hk
  have nk : ¬ ¬ tKnd tx N i = 3 := fun e => e hk
  have es : (decide (0 ≤ vl' ∧ vl' ≤ 9)) = true ↔ 0 ≤ tVal tx N i ∧ tVal tx N i ≤ 9 := by rw [hvv]; simp
  by_cases hs : 0 ≤ tVal tx N i ∧ tVal tx N i ≤ 9
  · rw [show numA tx N i 0 9 = .inr ((tVal tx N i).toNat, tEnd tx N i) by unfold numA; rw [if_neg nk, if_pos hs]]
    have h0 : 0 ≤ tVal tx N i := by have := hs.1; omega
    refine ⟨(sw h 202 (TO N ((tOff tx N i : Nat) : Int) ((tEnd tx N i : Nat) : Int) (kM (tKnd tx N i)) vl')), Ct.of [aR 201, aI 104] rfl ?_, (sw_ne (by decide)).trans hS, ⟨_, _, (sw_at _ _ _).trans (by rw [hvv]; show TO _ _ _ _ _ = TO _ _ _ _ (((tVal tx N i).toNat : Nat) : Int); rw [Int.toNat_of_nonneg h0])⟩, NO.rf.t⟩
    refine r_aldR cd_37_0 rfl rfl ?_
    refine r_get cd_37_1 rfl hS rfl ?_
    refine r_cV c1 cd_37_4 rfl rfl rfl (rc0 hO rfl) rfl rfl rfl ?_
    refine r_aldR cd_37_7 rfl rfl ?_
    refine r_get cd_37_8 rfl ((sw_ne (by decide)).trans hS) rfl ?_
    refine r_get cd_37_11 rfl (sw_at _ _ _) rfl ?_
    refine r_con (v := 2) cd_37_14 rfl (by decide) ?_
    refine r_ic61 cd_37_15 rfl ⟨by omega, by omega⟩ ⟨by omega, by omega⟩ (fun n1 => ?_) (fun n1 => ?_)
    · refine r_aldR cd_37_24 rfl rfl ?_
      refine r_ild cd_37_25 rfl rfl ?_
      refine r_aldR cd_37_26 rfl rfl ?_
      refine r_get cd_37_27 rfl ((sw_ne (by decide)).trans hS) rfl ?_
      refine r_get cd_37_30 rfl (sw_at _ _ _) rfl ?_
      refine r_cI (k_38_h dp ex ek eo ((sw_ne (by decide)).trans hS) R1 hI ((sw_ne (by decide)).trans hV) vl' hvr) cd_37_33 rfl rfl rfl (rc0 ((sw_ne (by decide)).trans hS) rfl) rfl rfl rfl ?_
      refine r_if52b cd_37_36 rfl (fun n2 => ?_) (fun n2 => ?_)
      · exact Bool.noConfusion (n2.symm.trans (es.mpr hs))
      · refine r_con (v := 1) cd_37_47 rfl (by decide) ?_
        refine r_goto cd_37_48 ?_
        exact r_ret cd_37_52 (Or.inr rfl) (rfl)
    · exact absurd (hk3.mpr hk) n1
  · rw [show numA tx N i 0 9 = .inl (2, ((tOff tx N i : Nat) : Int)) by unfold numA; rw [if_neg nk, if_neg hs]]
    refine ⟨sw (sw h 202 (TO N ((tOff tx N i : Nat) : Int) ((tEnd tx N i : Nat) : Int) (kM (tKnd tx N i)) vl')) 201 (SO dp ex 2 ((tOff tx N i : Nat) : Int)), Ct.of [aR 201, aI 104] rfl ?_, sw_at _ _ _, ⟨_, _, _, _, (sw_ne (by decide)).trans (sw_at _ _ _)⟩, NO.rf.t.s⟩
    refine r_aldR cd_37_0 rfl rfl ?_
    refine r_get cd_37_1 rfl hS rfl ?_
    refine r_cV c1 cd_37_4 rfl rfl rfl (rc0 hO rfl) rfl rfl rfl ?_
    refine r_aldR cd_37_7 rfl rfl ?_
    refine r_get cd_37_8 rfl ((sw_ne (by decide)).trans hS) rfl ?_
    refine r_get cd_37_11 rfl (sw_at _ _ _) rfl ?_
    refine r_con (v := 2) cd_37_14 rfl (by decide) ?_
    refine r_ic61 cd_37_15 rfl ⟨by omega, by omega⟩ ⟨by omega, by omega⟩ (fun n1 => ?_) (fun n1 => ?_)
    · refine r_aldR cd_37_24 rfl rfl ?_
      refine r_ild cd_37_25 rfl rfl ?_
      refine r_aldR cd_37_26 rfl rfl ?_
      refine r_get cd_37_27 rfl ((sw_ne (by decide)).trans hS) rfl ?_
      refine r_get cd_37_30 rfl (sw_at _ _ _) rfl ?_
      refine r_cI (k_38_h dp ex ek eo ((sw_ne (by decide)).trans hS) R1 hI ((sw_ne (by decide)).trans hV) vl' hvr) cd_37_33 rfl rfl rfl (rc0 ((sw_ne (by decide)).trans hS) rfl) rfl rfl rfl ?_
      refine r_if52b cd_37_36 rfl (fun n2 => ?_) (fun n2 => ?_)
      · refine r_aldR cd_37_39 rfl rfl ?_
        refine r_con (v := 2) cd_37_40 rfl (by decide) ?_
        refine r_cI (k_36 dp ex ek eo ((sw_ne (by decide)).trans hS) N _ _ _ _ (sw_at _ _ _) 2) cd_37_41 rfl rfl rfl (rc0 ((sw_ne (by decide)).trans hS) rfl) rfl rfl rfl ?_
        refine r_if51 cd_37_44 rfl ⟨by omega, by omega⟩ (fun n3 => ?_) (fun n3 => ?_)
        · refine r_con (v := 0) cd_37_51 rfl (by decide) ?_
          exact r_ret cd_37_52 (Or.inl rfl) (rfl)
        · exact absurd n3 (by decide)
      · exact absurd (es.mp n2) hs
    · exact absurd (hk3.mpr hk) n1
theorem v_37_g {h : aH} {tx tb : Nat → Int} {N : Nat} (hN : N ≤ 600) (hT : ∀ k, k < N → BT (tx k) (tb k)) (dp ex ek eo : Int) (hS : h.2.2 201 = SO dp ex ek eo) {w : Nat → Int} (hR : Rp h 204 w) (hI : Inv0 w) {va : Nat → Int} (hV : h.2.2 222 = .inl (0, 4, .inl va)) (hb : TxB tx) (st kd vl : Int) (i : Nat) (hi : i ≤ N) (hO : h.2.2 202 = TO N st ((i : Nat) : Int) kd vl) (hB : h.2.2 203 = .inl (1, 600, .inl tb)) : NumP 4 37 [aR 201, aI 103] h N dp ex ek eo (numA tx N i 0 3) := by
  obtain ⟨c, ⟨o0, o1, o2, o3, o4, o5, o6, o7, o8, o9, o10, o11, o12, o13, o14, o15, o16, o17⟩, a0, a1, a2, a3, a4, a5, a6, a7, a8, a9, a10, a11, a12, a13, a14⟩ := id hR
  obtain ⟨vl', c1, hv⟩ := v_64 hN hT st kd vl i hi hO hB
  have hkb := kM_b (k := tKnd tx N i)
  have hk3 := kM_3 (tx := tx) (N := N) (i := i)
  have R1 : Rp (sw h 202 (TO N ((tOff tx N i : Nat) : Int) ((tEnd tx N i : Nat) : Int) (kM (tKnd tx N i)) vl')) 204 w := (NO.rf.t).rp hR
  by_cases hk : tKnd tx N i = 3
  rotate_left
  · rw [show numA tx N i 0 3 = .inl (1, ((tOff tx N i : Nat) : Int)) by unfold numA; rw [if_pos hk]]
    refine ⟨sw (sw h 202 (TO N ((tOff tx N i : Nat) : Int) ((tEnd tx N i : Nat) : Int) (kM (tKnd tx N i)) vl')) 201 (SO dp ex 1 ((tOff tx N i : Nat) : Int)), Ct.of [aR 201, aI 103] rfl ?_, sw_at _ _ _, ⟨_, _, _, _, (sw_ne (by decide)).trans (sw_at _ _ _)⟩, NO.rf.t.s⟩
    refine r_aldR cd_37_0 rfl rfl ?_
    refine r_get cd_37_1 rfl hS rfl ?_
    refine r_cV c1 cd_37_4 rfl rfl rfl (rc0 hO rfl) rfl rfl rfl ?_
    refine r_aldR cd_37_7 rfl rfl ?_
    refine r_get cd_37_8 rfl ((sw_ne (by decide)).trans hS) rfl ?_
    refine r_get cd_37_11 rfl (sw_at _ _ _) rfl ?_
    refine r_con (v := 2) cd_37_14 rfl (by decide) ?_
    refine r_ic61 cd_37_15 rfl ⟨by omega, by omega⟩ ⟨by omega, by omega⟩ (fun n1 => ?_) (fun n1 => ?_)
    · exact absurd (hk3.mp n1) hk
    · refine r_aldR cd_37_18 rfl rfl ?_
      refine r_con (v := 1) cd_37_19 rfl (by decide) ?_
      refine r_cI (k_36 dp ex ek eo ((sw_ne (by decide)).trans hS) N _ _ _ _ (sw_at _ _ _) 1) cd_37_20 rfl rfl rfl (rc0 ((sw_ne (by decide)).trans hS) rfl) rfl rfl rfl ?_
      exact r_ret cd_37_23 (Or.inl rfl) (rfl)
  have hvv := hv hk
  have hvr : inR vl' := by rw [hvv]; exact tVal_in hb hk
  have nk : ¬ ¬ tKnd tx N i = 3 := fun e => e hk
  have es : (decide (0 ≤ vl' ∧ vl' ≤ 3)) = true ↔ 0 ≤ tVal tx N i ∧ tVal tx N i ≤ 3 := by rw [hvv]; simp
  by_cases hs : 0 ≤ tVal tx N i ∧ tVal tx N i ≤ 3
  · rw [show numA tx N i 0 3 = .inr ((tVal tx N i).toNat, tEnd tx N i) by unfold numA; rw [if_neg nk, if_pos hs]]
    have h0 : 0 ≤ tVal tx N i := by have := hs.1; omega
    refine ⟨(sw h 202 (TO N ((tOff tx N i : Nat) : Int) ((tEnd tx N i : Nat) : Int) (kM (tKnd tx N i)) vl')), Ct.of [aR 201, aI 103] rfl ?_, (sw_ne (by decide)).trans hS, ⟨_, _, (sw_at _ _ _).trans (by rw [hvv]; show TO _ _ _ _ _ = TO _ _ _ _ (((tVal tx N i).toNat : Nat) : Int); rw [Int.toNat_of_nonneg h0])⟩, NO.rf.t⟩
    refine r_aldR cd_37_0 rfl rfl ?_
    refine r_get cd_37_1 rfl hS rfl ?_
    refine r_cV c1 cd_37_4 rfl rfl rfl (rc0 hO rfl) rfl rfl rfl ?_
    refine r_aldR cd_37_7 rfl rfl ?_
    refine r_get cd_37_8 rfl ((sw_ne (by decide)).trans hS) rfl ?_
    refine r_get cd_37_11 rfl (sw_at _ _ _) rfl ?_
    refine r_con (v := 2) cd_37_14 rfl (by decide) ?_
    refine r_ic61 cd_37_15 rfl ⟨by omega, by omega⟩ ⟨by omega, by omega⟩ (fun n1 => ?_) (fun n1 => ?_)
    · refine r_aldR cd_37_24 rfl rfl ?_
      refine r_ild cd_37_25 rfl rfl ?_
      refine r_aldR cd_37_26 rfl rfl ?_
      refine r_get cd_37_27 rfl ((sw_ne (by decide)).trans hS) rfl ?_
      refine r_get cd_37_30 rfl (sw_at _ _ _) rfl ?_
      refine r_cI (k_38_g dp ex ek eo ((sw_ne (by decide)).trans hS) R1 hI ((sw_ne (by decide)).trans hV) vl' hvr) cd_37_33 rfl rfl rfl (rc0 ((sw_ne (by decide)).trans hS) rfl) rfl rfl rfl ?_
      refine r_if52b cd_37_36 rfl (fun n2 => ?_) (fun n2 => ?_)
      · exact Bool.noConfusion (n2.symm.trans (es.mpr hs))
      · refine r_con (v := 1) cd_37_47 rfl (by decide) ?_
        refine r_goto cd_37_48 ?_
        exact r_ret cd_37_52 (Or.inr rfl) (rfl)
    · exact absurd (hk3.mpr hk) n1
  · rw [show numA tx N i 0 3 = .inl (2, ((tOff tx N i : Nat) : Int)) by unfold numA; rw [if_neg nk, if_neg hs]]
    refine ⟨sw (sw h 202 (TO N ((tOff tx N i : Nat) : Int) ((tEnd tx N i : Nat) : Int) (kM (tKnd tx N i)) vl')) 201 (SO dp ex 2 ((tOff tx N i : Nat) : Int)), Ct.of [aR 201, aI 103] rfl ?_, sw_at _ _ _, ⟨_, _, _, _, (sw_ne (by decide)).trans (sw_at _ _ _)⟩, NO.rf.t.s⟩
    refine r_aldR cd_37_0 rfl rfl ?_
    refine r_get cd_37_1 rfl hS rfl ?_
    refine r_cV c1 cd_37_4 rfl rfl rfl (rc0 hO rfl) rfl rfl rfl ?_
    refine r_aldR cd_37_7 rfl rfl ?_
    refine r_get cd_37_8 rfl ((sw_ne (by decide)).trans hS) rfl ?_
    refine r_get cd_37_11 rfl (sw_at _ _ _) rfl ?_
    refine r_con (v := 2) cd_37_14 rfl (by decide) ?_
    refine r_ic61 cd_37_15 rfl ⟨by omega, by omega⟩ ⟨by omega, by omega⟩ (fun n1 => ?_) (fun n1 => ?_)
    · refine r_aldR cd_37_24 rfl rfl ?_
      refine r_ild cd_37_25 rfl rfl ?_
      refine r_aldR cd_37_26 rfl rfl ?_
      refine r_get cd_37_27 rfl ((sw_ne (by decide)).trans hS) rfl ?_
      refine r_get cd_37_30 rfl (sw_at _ _ _) rfl ?_
      refine r_cI (k_38_g dp ex ek eo ((sw_ne (by decide)).trans hS) R1 hI ((sw_ne (by decide)).trans hV) vl' hvr) cd_37_33 rfl rfl rfl (rc0 ((sw_ne (by decide)).trans hS) rfl) rfl rfl rfl ?_
      refine r_if52b cd_37_36 rfl (fun n2 => ?_) (fun n2 => ?_)
      · refine r_aldR cd_37_39 rfl rfl ?_
        refine r_con (v := 2) cd_37_40 rfl (by decide) ?_
        refine r_cI (k_36 dp ex ek eo ((sw_ne (by decide)).trans hS) N _ _ _ _ (sw_at _ _ _) 2) cd_37_41 rfl rfl rfl (rc0 ((sw_ne (by decide)).trans hS) rfl) rfl rfl rfl ?_
        refine r_if51 cd_37_44 rfl ⟨by omega, by omega⟩ (fun n3 => ?_) (fun n3 => ?_)
        · refine r_con (v := 0) cd_37_51 rfl (by decide) ?_
          exact r_ret cd_37_52 (Or.inl rfl) (rfl)
        · exact absurd n3 (by decide)
      · exact absurd (es.mp n2) hs
    · exact absurd (hk3.mpr hk) n1
theorem v_37_l {h : aH} {tx tb : Nat → Int} {N : Nat} (hN : N ≤ 600) (hT : ∀ k, k < N → BT (tx k) (tb k)) (dp ex ek eo : Int) (hS : h.2.2 201 = SO dp ex ek eo) {w : Nat → Int} (hR : Rp h 204 w) (hI : Inv0 w) {va : Nat → Int} (hV : h.2.2 222 = .inl (0, 4, .inl va)) (hb : TxB tx) (st kd vl : Int) (i : Nat) (hi : i ≤ N) (hO : h.2.2 202 = TO N st ((i : Nat) : Int) kd vl) (hB : h.2.2 203 = .inl (1, 600, .inl tb)) : NumP 4 37 [aR 201, aI 108] h N dp ex ek eo (numA tx N i 1 9) := by
  obtain ⟨c, ⟨o0, o1, o2, o3, o4, o5, o6, o7, o8, o9, o10, o11, o12, o13, o14, o15, o16, o17⟩, a0, a1, a2, a3, a4, a5, a6, a7, a8, a9, a10, a11, a12, a13, a14⟩ := id hR
  obtain ⟨vl', c1, hv⟩ := v_64 hN hT st kd vl i hi hO hB
  have hkb := kM_b (k := tKnd tx N i)
  have hk3 := kM_3 (tx := tx) (N := N) (i := i)
  have R1 : Rp (sw h 202 (TO N ((tOff tx N i : Nat) : Int) ((tEnd tx N i : Nat) : Int) (kM (tKnd tx N i)) vl')) 204 w := (NO.rf.t).rp hR
  by_cases hk : tKnd tx N i = 3
  rotate_left
  · rw [show numA tx N i 1 9 = .inl (1, ((tOff tx N i : Nat) : Int)) by unfold numA; rw [if_pos hk]]
    refine ⟨sw (sw h 202 (TO N ((tOff tx N i : Nat) : Int) ((tEnd tx N i : Nat) : Int) (kM (tKnd tx N i)) vl')) 201 (SO dp ex 1 ((tOff tx N i : Nat) : Int)), Ct.of [aR 201, aI 108] rfl ?_, sw_at _ _ _, ⟨_, _, _, _, (sw_ne (by decide)).trans (sw_at _ _ _)⟩, NO.rf.t.s⟩
    refine r_aldR cd_37_0 rfl rfl ?_
    refine r_get cd_37_1 rfl hS rfl ?_
    refine r_cV c1 cd_37_4 rfl rfl rfl (rc0 hO rfl) rfl rfl rfl ?_
    refine r_aldR cd_37_7 rfl rfl ?_
    refine r_get cd_37_8 rfl ((sw_ne (by decide)).trans hS) rfl ?_
    refine r_get cd_37_11 rfl (sw_at _ _ _) rfl ?_
    refine r_con (v := 2) cd_37_14 rfl (by decide) ?_
    refine r_ic61 cd_37_15 rfl ⟨by omega, by omega⟩ ⟨by omega, by omega⟩ (fun n1 => ?_) (fun n1 => ?_)
    · exact absurd (hk3.mp n1) hk
    · refine r_aldR cd_37_18 rfl rfl ?_
      refine r_con (v := 1) cd_37_19 rfl (by decide) ?_
      refine r_cI (k_36 dp ex ek eo ((sw_ne (by decide)).trans hS) N _ _ _ _ (sw_at _ _ _) 1) cd_37_20 rfl rfl rfl (rc0 ((sw_ne (by decide)).trans hS) rfl) rfl rfl rfl ?_
      exact r_ret cd_37_23 (Or.inl rfl) (rfl)
  have hvv := hv hk
  have hvr : inR vl' := by rw [hvv]; exact tVal_in hb hk
  have nk : ¬ ¬ tKnd tx N i = 3 := fun e => e hk
  have es : (decide (1 ≤ vl' ∧ vl' ≤ 9)) = true ↔ 1 ≤ tVal tx N i ∧ tVal tx N i ≤ 9 := by rw [hvv]; simp
  by_cases hs : 1 ≤ tVal tx N i ∧ tVal tx N i ≤ 9
  · rw [show numA tx N i 1 9 = .inr ((tVal tx N i).toNat, tEnd tx N i) by unfold numA; rw [if_neg nk, if_pos hs]]
    have h0 : 0 ≤ tVal tx N i := by have := hs.1; omega
    refine ⟨(sw h 202 (TO N ((tOff tx N i : Nat) : Int) ((tEnd tx N i : Nat) : Int) (kM (tKnd tx N i)) vl')), Ct.of [aR 201, aI 108] rfl ?_, (sw_ne (by decide)).trans hS, ⟨_, _, (sw_at _ _ _).trans (by rw [hvv]; show TO _ _ _ _ _ = TO _ _ _ _ (((tVal tx N i).toNat : Nat) : Int); rw [Int.toNat_of_nonneg h0])⟩, NO.rf.t⟩
    refine r_aldR cd_37_0 rfl rfl ?_
    refine r_get cd_37_1 rfl hS rfl ?_
    refine r_cV c1 cd_37_4 rfl rfl rfl (rc0 hO rfl) rfl rfl rfl ?_
    refine r_aldR cd_37_7 rfl rfl ?_
    refine r_get cd_37_8 rfl ((sw_ne (by decide)).trans hS) rfl ?_
    refine r_get cd_37_11 rfl (sw_at _ _ _) rfl ?_
    refine r_con (v := 2) cd_37_14 rfl (by decide) ?_
    refine r_ic61 cd_37_15 rfl ⟨by omega, by omega⟩ ⟨by omega, by omega⟩ (fun n1 => ?_) (fun n1 => ?_)
    · refine r_aldR cd_37_24 rfl rfl ?_
      refine r_ild cd_37_25 rfl rfl ?_
      refine r_aldR cd_37_26 rfl rfl ?_
      refine r_get cd_37_27 rfl ((sw_ne (by decide)).trans hS) rfl ?_
      refine r_get cd_37_30 rfl (sw_at _ _ _) rfl ?_
      refine r_cI (k_38_l dp ex ek eo ((sw_ne (by decide)).trans hS) R1 hI ((sw_ne (by decide)).trans hV) vl' hvr) cd_37_33 rfl rfl rfl (rc0 ((sw_ne (by decide)).trans hS) rfl) rfl rfl rfl ?_
      refine r_if52b cd_37_36 rfl (fun n2 => ?_) (fun n2 => ?_)
      · exact Bool.noConfusion (n2.symm.trans (es.mpr hs))
      · refine r_con (v := 1) cd_37_47 rfl (by decide) ?_
        refine r_goto cd_37_48 ?_
        exact r_ret cd_37_52 (Or.inr rfl) (rfl)
    · exact absurd (hk3.mpr hk) n1
  · rw [show numA tx N i 1 9 = .inl (2, ((tOff tx N i : Nat) : Int)) by unfold numA; rw [if_neg nk, if_neg hs]]
    refine ⟨sw (sw h 202 (TO N ((tOff tx N i : Nat) : Int) ((tEnd tx N i : Nat) : Int) (kM (tKnd tx N i)) vl')) 201 (SO dp ex 2 ((tOff tx N i : Nat) : Int)), Ct.of [aR 201, aI 108] rfl ?_, sw_at _ _ _, ⟨_, _, _, _, (sw_ne (by decide)).trans (sw_at _ _ _)⟩, NO.rf.t.s⟩
    refine r_aldR cd_37_0 rfl rfl ?_
    refine r_get cd_37_1 rfl hS rfl ?_
    refine r_cV c1 cd_37_4 rfl rfl rfl (rc0 hO rfl) rfl rfl rfl ?_
    refine r_aldR cd_37_7 rfl rfl ?_
    refine r_get cd_37_8 rfl ((sw_ne (by decide)).trans hS) rfl ?_
    refine r_get cd_37_11 rfl (sw_at _ _ _) rfl ?_
    refine r_con (v := 2) cd_37_14 rfl (by decide) ?_
    refine r_ic61 cd_37_15 rfl ⟨by omega, by omega⟩ ⟨by omega, by omega⟩ (fun n1 => ?_) (fun n1 => ?_)
    · refine r_aldR cd_37_24 rfl rfl ?_
      refine r_ild cd_37_25 rfl rfl ?_
      refine r_aldR cd_37_26 rfl rfl ?_
      refine r_get cd_37_27 rfl ((sw_ne (by decide)).trans hS) rfl ?_
      refine r_get cd_37_30 rfl (sw_at _ _ _) rfl ?_
      refine r_cI (k_38_l dp ex ek eo ((sw_ne (by decide)).trans hS) R1 hI ((sw_ne (by decide)).trans hV) vl' hvr) cd_37_33 rfl rfl rfl (rc0 ((sw_ne (by decide)).trans hS) rfl) rfl rfl rfl ?_
      refine r_if52b cd_37_36 rfl (fun n2 => ?_) (fun n2 => ?_)
      · refine r_aldR cd_37_39 rfl rfl ?_
        refine r_con (v := 2) cd_37_40 rfl (by decide) ?_
        refine r_cI (k_36 dp ex ek eo ((sw_ne (by decide)).trans hS) N _ _ _ _ (sw_at _ _ _) 2) cd_37_41 rfl rfl rfl (rc0 ((sw_ne (by decide)).trans hS) rfl) rfl rfl rfl ?_
        refine r_if51 cd_37_44 rfl ⟨by omega, by omega⟩ (fun n3 => ?_) (fun n3 => ?_)
        · refine r_con (v := 0) cd_37_51 rfl (by decide) ?_
          exact r_ret cd_37_52 (Or.inl rfl) (rfl)
        · exact absurd n3 (by decide)
      · exact absurd (es.mp n2) hs
    · exact absurd (hk3.mpr hk) n1
theorem v_37_u {h : aH} {tx tb : Nat → Int} {N : Nat} (hN : N ≤ 600) (hT : ∀ k, k < N → BT (tx k) (tb k)) (dp ex ek eo : Int) (hS : h.2.2 201 = SO dp ex ek eo) {w : Nat → Int} (hR : Rp h 204 w) (hI : Inv0 w) {va : Nat → Int} (hV : h.2.2 222 = .inl (0, 4, .inl va)) (hb : TxB tx) (st kd vl : Int) (i : Nat) (hi : i ≤ N) (hO : h.2.2 202 = TO N st ((i : Nat) : Int) kd vl) (hB : h.2.2 203 = .inl (1, 600, .inl tb)) : NumP 4 37 [aR 201, aI 117] h N dp ex ek eo (numA tx N i 1 30) := by
  obtain ⟨c, ⟨o0, o1, o2, o3, o4, o5, o6, o7, o8, o9, o10, o11, o12, o13, o14, o15, o16, o17⟩, a0, a1, a2, a3, a4, a5, a6, a7, a8, a9, a10, a11, a12, a13, a14⟩ := id hR
  obtain ⟨vl', c1, hv⟩ := v_64 hN hT st kd vl i hi hO hB
  have hkb := kM_b (k := tKnd tx N i)
  have hk3 := kM_3 (tx := tx) (N := N) (i := i)
  have R1 : Rp (sw h 202 (TO N ((tOff tx N i : Nat) : Int) ((tEnd tx N i : Nat) : Int) (kM (tKnd tx N i)) vl')) 204 w := (NO.rf.t).rp hR
  by_cases hk : tKnd tx N i = 3
  rotate_left
  · rw [show numA tx N i 1 30 = .inl (1, ((tOff tx N i : Nat) : Int)) by unfold numA; rw [if_pos hk]]
    refine ⟨sw (sw h 202 (TO N ((tOff tx N i : Nat) : Int) ((tEnd tx N i : Nat) : Int) (kM (tKnd tx N i)) vl')) 201 (SO dp ex 1 ((tOff tx N i : Nat) : Int)), Ct.of [aR 201, aI 117] rfl ?_, sw_at _ _ _, ⟨_, _, _, _, (sw_ne (by decide)).trans (sw_at _ _ _)⟩, NO.rf.t.s⟩
    refine r_aldR cd_37_0 rfl rfl ?_
    refine r_get cd_37_1 rfl hS rfl ?_
    refine r_cV c1 cd_37_4 rfl rfl rfl (rc0 hO rfl) rfl rfl rfl ?_
    refine r_aldR cd_37_7 rfl rfl ?_
    refine r_get cd_37_8 rfl ((sw_ne (by decide)).trans hS) rfl ?_
    refine r_get cd_37_11 rfl (sw_at _ _ _) rfl ?_
    refine r_con (v := 2) cd_37_14 rfl (by decide) ?_
    refine r_ic61 cd_37_15 rfl ⟨by omega, by omega⟩ ⟨by omega, by omega⟩ (fun n1 => ?_) (fun n1 => ?_)
    · exact absurd (hk3.mp n1) hk
    · refine r_aldR cd_37_18 rfl rfl ?_
      refine r_con (v := 1) cd_37_19 rfl (by decide) ?_
      refine r_cI (k_36 dp ex ek eo ((sw_ne (by decide)).trans hS) N _ _ _ _ (sw_at _ _ _) 1) cd_37_20 rfl rfl rfl (rc0 ((sw_ne (by decide)).trans hS) rfl) rfl rfl rfl ?_
      exact r_ret cd_37_23 (Or.inl rfl) (rfl)
  have hvv := hv hk
  have hvr : inR vl' := by rw [hvv]; exact tVal_in hb hk
  have nk : ¬ ¬ tKnd tx N i = 3 := fun e => e hk
  have es : (decide (1 ≤ vl' ∧ vl' ≤ 30)) = true ↔ 1 ≤ tVal tx N i ∧ tVal tx N i ≤ 30 := by rw [hvv]; simp
  by_cases hs : 1 ≤ tVal tx N i ∧ tVal tx N i ≤ 30
  · rw [show numA tx N i 1 30 = .inr ((tVal tx N i).toNat, tEnd tx N i) by unfold numA; rw [if_neg nk, if_pos hs]]
    have h0 : 0 ≤ tVal tx N i := by have := hs.1; omega
    refine ⟨(sw h 202 (TO N ((tOff tx N i : Nat) : Int) ((tEnd tx N i : Nat) : Int) (kM (tKnd tx N i)) vl')), Ct.of [aR 201, aI 117] rfl ?_, (sw_ne (by decide)).trans hS, ⟨_, _, (sw_at _ _ _).trans (by rw [hvv]; show TO _ _ _ _ _ = TO _ _ _ _ (((tVal tx N i).toNat : Nat) : Int); rw [Int.toNat_of_nonneg h0])⟩, NO.rf.t⟩
    refine r_aldR cd_37_0 rfl rfl ?_
    refine r_get cd_37_1 rfl hS rfl ?_
    refine r_cV c1 cd_37_4 rfl rfl rfl (rc0 hO rfl) rfl rfl rfl ?_
    refine r_aldR cd_37_7 rfl rfl ?_
    refine r_get cd_37_8 rfl ((sw_ne (by decide)).trans hS) rfl ?_
    refine r_get cd_37_11 rfl (sw_at _ _ _) rfl ?_
    refine r_con (v := 2) cd_37_14 rfl (by decide) ?_
    refine r_ic61 cd_37_15 rfl ⟨by omega, by omega⟩ ⟨by omega, by omega⟩ (fun n1 => ?_) (fun n1 => ?_)
    · refine r_aldR cd_37_24 rfl rfl ?_
      refine r_ild cd_37_25 rfl rfl ?_
      refine r_aldR cd_37_26 rfl rfl ?_
      refine r_get cd_37_27 rfl ((sw_ne (by decide)).trans hS) rfl ?_
      refine r_get cd_37_30 rfl (sw_at _ _ _) rfl ?_
      refine r_cI (k_38_u dp ex ek eo ((sw_ne (by decide)).trans hS) R1 hI ((sw_ne (by decide)).trans hV) vl' hvr) cd_37_33 rfl rfl rfl (rc0 ((sw_ne (by decide)).trans hS) rfl) rfl rfl rfl ?_
      refine r_if52b cd_37_36 rfl (fun n2 => ?_) (fun n2 => ?_)
      · exact Bool.noConfusion (n2.symm.trans (es.mpr hs))
      · refine r_con (v := 1) cd_37_47 rfl (by decide) ?_
        refine r_goto cd_37_48 ?_
        exact r_ret cd_37_52 (Or.inr rfl) (rfl)
    · exact absurd (hk3.mpr hk) n1
  · rw [show numA tx N i 1 30 = .inl (2, ((tOff tx N i : Nat) : Int)) by unfold numA; rw [if_neg nk, if_neg hs]]
    refine ⟨sw (sw h 202 (TO N ((tOff tx N i : Nat) : Int) ((tEnd tx N i : Nat) : Int) (kM (tKnd tx N i)) vl')) 201 (SO dp ex 2 ((tOff tx N i : Nat) : Int)), Ct.of [aR 201, aI 117] rfl ?_, sw_at _ _ _, ⟨_, _, _, _, (sw_ne (by decide)).trans (sw_at _ _ _)⟩, NO.rf.t.s⟩
    refine r_aldR cd_37_0 rfl rfl ?_
    refine r_get cd_37_1 rfl hS rfl ?_
    refine r_cV c1 cd_37_4 rfl rfl rfl (rc0 hO rfl) rfl rfl rfl ?_
    refine r_aldR cd_37_7 rfl rfl ?_
    refine r_get cd_37_8 rfl ((sw_ne (by decide)).trans hS) rfl ?_
    refine r_get cd_37_11 rfl (sw_at _ _ _) rfl ?_
    refine r_con (v := 2) cd_37_14 rfl (by decide) ?_
    refine r_ic61 cd_37_15 rfl ⟨by omega, by omega⟩ ⟨by omega, by omega⟩ (fun n1 => ?_) (fun n1 => ?_)
    · refine r_aldR cd_37_24 rfl rfl ?_
      refine r_ild cd_37_25 rfl rfl ?_
      refine r_aldR cd_37_26 rfl rfl ?_
      refine r_get cd_37_27 rfl ((sw_ne (by decide)).trans hS) rfl ?_
      refine r_get cd_37_30 rfl (sw_at _ _ _) rfl ?_
      refine r_cI (k_38_u dp ex ek eo ((sw_ne (by decide)).trans hS) R1 hI ((sw_ne (by decide)).trans hV) vl' hvr) cd_37_33 rfl rfl rfl (rc0 ((sw_ne (by decide)).trans hS) rfl) rfl rfl rfl ?_
      refine r_if52b cd_37_36 rfl (fun n2 => ?_) (fun n2 => ?_)
      · refine r_aldR cd_37_39 rfl rfl ?_
        refine r_con (v := 2) cd_37_40 rfl (by decide) ?_
        refine r_cI (k_36 dp ex ek eo ((sw_ne (by decide)).trans hS) N _ _ _ _ (sw_at _ _ _) 2) cd_37_41 rfl rfl rfl (rc0 ((sw_ne (by decide)).trans hS) rfl) rfl rfl rfl ?_
        refine r_if51 cd_37_44 rfl ⟨by omega, by omega⟩ (fun n3 => ?_) (fun n3 => ?_)
        · refine r_con (v := 0) cd_37_51 rfl (by decide) ?_
          exact r_ret cd_37_52 (Or.inl rfl) (rfl)
        · exact absurd n3 (by decide)
      · exact absurd (es.mp n2) hs
    · exact absurd (hk3.mpr hk) n1
theorem v_37_s {h : aH} {tx tb : Nat → Int} {N : Nat} (hN : N ≤ 600) (hT : ∀ k, k < N → BT (tx k) (tb k)) (dp ex ek eo : Int) (hS : h.2.2 201 = SO dp ex ek eo) {w : Nat → Int} (hR : Rp h 204 w) (hI : Inv0 w) {va : Nat → Int} (hV : h.2.2 222 = .inl (0, 4, .inl va)) (hb : TxB tx) (st kd vl : Int) (i : Nat) (hi : i ≤ N) (hO : h.2.2 202 = TO N st ((i : Nat) : Int) kd vl) (hB : h.2.2 203 = .inl (1, 600, .inl tb)) : NumP 4 37 [aR 201, aI 115] h N dp ex ek eo (numA tx N i 1 9) := by
  obtain ⟨c, ⟨o0, o1, o2, o3, o4, o5, o6, o7, o8, o9, o10, o11, o12, o13, o14, o15, o16, o17⟩, a0, a1, a2, a3, a4, a5, a6, a7, a8, a9, a10, a11, a12, a13, a14⟩ := id hR
  obtain ⟨vl', c1, hv⟩ := v_64 hN hT st kd vl i hi hO hB
  have hkb := kM_b (k := tKnd tx N i)
  have hk3 := kM_3 (tx := tx) (N := N) (i := i)
  have R1 : Rp (sw h 202 (TO N ((tOff tx N i : Nat) : Int) ((tEnd tx N i : Nat) : Int) (kM (tKnd tx N i)) vl')) 204 w := (NO.rf.t).rp hR
  by_cases hk : tKnd tx N i = 3
  rotate_left
  · rw [show numA tx N i 1 9 = .inl (1, ((tOff tx N i : Nat) : Int)) by unfold numA; rw [if_pos hk]]
    refine ⟨sw (sw h 202 (TO N ((tOff tx N i : Nat) : Int) ((tEnd tx N i : Nat) : Int) (kM (tKnd tx N i)) vl')) 201 (SO dp ex 1 ((tOff tx N i : Nat) : Int)), Ct.of [aR 201, aI 115] rfl ?_, sw_at _ _ _, ⟨_, _, _, _, (sw_ne (by decide)).trans (sw_at _ _ _)⟩, NO.rf.t.s⟩
    refine r_aldR cd_37_0 rfl rfl ?_
    refine r_get cd_37_1 rfl hS rfl ?_
    refine r_cV c1 cd_37_4 rfl rfl rfl (rc0 hO rfl) rfl rfl rfl ?_
    refine r_aldR cd_37_7 rfl rfl ?_
    refine r_get cd_37_8 rfl ((sw_ne (by decide)).trans hS) rfl ?_
    refine r_get cd_37_11 rfl (sw_at _ _ _) rfl ?_
    refine r_con (v := 2) cd_37_14 rfl (by decide) ?_
    refine r_ic61 cd_37_15 rfl ⟨by omega, by omega⟩ ⟨by omega, by omega⟩ (fun n1 => ?_) (fun n1 => ?_)
    · exact absurd (hk3.mp n1) hk
    · refine r_aldR cd_37_18 rfl rfl ?_
      refine r_con (v := 1) cd_37_19 rfl (by decide) ?_
      refine r_cI (k_36 dp ex ek eo ((sw_ne (by decide)).trans hS) N _ _ _ _ (sw_at _ _ _) 1) cd_37_20 rfl rfl rfl (rc0 ((sw_ne (by decide)).trans hS) rfl) rfl rfl rfl ?_
      exact r_ret cd_37_23 (Or.inl rfl) (rfl)
  have hvv := hv hk
  have hvr : inR vl' := by rw [hvv]; exact tVal_in hb hk
  have nk : ¬ ¬ tKnd tx N i = 3 := fun e => e hk
  have es : (decide (1 ≤ vl' ∧ vl' ≤ 9)) = true ↔ 1 ≤ tVal tx N i ∧ tVal tx N i ≤ 9 := by rw [hvv]; simp
  by_cases hs : 1 ≤ tVal tx N i ∧ tVal tx N i ≤ 9
  · rw [show numA tx N i 1 9 = .inr ((tVal tx N i).toNat, tEnd tx N i) by unfold numA; rw [if_neg nk, if_pos hs]]
    have h0 : 0 ≤ tVal tx N i := by have := hs.1; omega
    refine ⟨(sw h 202 (TO N ((tOff tx N i : Nat) : Int) ((tEnd tx N i : Nat) : Int) (kM (tKnd tx N i)) vl')), Ct.of [aR 201, aI 115] rfl ?_, (sw_ne (by decide)).trans hS, ⟨_, _, (sw_at _ _ _).trans (by rw [hvv]; show TO _ _ _ _ _ = TO _ _ _ _ (((tVal tx N i).toNat : Nat) : Int); rw [Int.toNat_of_nonneg h0])⟩, NO.rf.t⟩
    refine r_aldR cd_37_0 rfl rfl ?_
    refine r_get cd_37_1 rfl hS rfl ?_
    refine r_cV c1 cd_37_4 rfl rfl rfl (rc0 hO rfl) rfl rfl rfl ?_
    refine r_aldR cd_37_7 rfl rfl ?_
    refine r_get cd_37_8 rfl ((sw_ne (by decide)).trans hS) rfl ?_
    refine r_get cd_37_11 rfl (sw_at _ _ _) rfl ?_
    refine r_con (v := 2) cd_37_14 rfl (by decide) ?_
    refine r_ic61 cd_37_15 rfl ⟨by omega, by omega⟩ ⟨by omega, by omega⟩ (fun n1 => ?_) (fun n1 => ?_)
    · refine r_aldR cd_37_24 rfl rfl ?_
      refine r_ild cd_37_25 rfl rfl ?_
      refine r_aldR cd_37_26 rfl rfl ?_
      refine r_get cd_37_27 rfl ((sw_ne (by decide)).trans hS) rfl ?_
      refine r_get cd_37_30 rfl (sw_at _ _ _) rfl ?_
      refine r_cI (k_38_s dp ex ek eo ((sw_ne (by decide)).trans hS) R1 hI ((sw_ne (by decide)).trans hV) vl' hvr) cd_37_33 rfl rfl rfl (rc0 ((sw_ne (by decide)).trans hS) rfl) rfl rfl rfl ?_
      refine r_if52b cd_37_36 rfl (fun n2 => ?_) (fun n2 => ?_)
      · exact Bool.noConfusion (n2.symm.trans (es.mpr hs))
      · refine r_con (v := 1) cd_37_47 rfl (by decide) ?_
        refine r_goto cd_37_48 ?_
        exact r_ret cd_37_52 (Or.inr rfl) (rfl)
    · exact absurd (hk3.mpr hk) n1
  · rw [show numA tx N i 1 9 = .inl (2, ((tOff tx N i : Nat) : Int)) by unfold numA; rw [if_neg nk, if_neg hs]]
    refine ⟨sw (sw h 202 (TO N ((tOff tx N i : Nat) : Int) ((tEnd tx N i : Nat) : Int) (kM (tKnd tx N i)) vl')) 201 (SO dp ex 2 ((tOff tx N i : Nat) : Int)), Ct.of [aR 201, aI 115] rfl ?_, sw_at _ _ _, ⟨_, _, _, _, (sw_ne (by decide)).trans (sw_at _ _ _)⟩, NO.rf.t.s⟩
    refine r_aldR cd_37_0 rfl rfl ?_
    refine r_get cd_37_1 rfl hS rfl ?_
    refine r_cV c1 cd_37_4 rfl rfl rfl (rc0 hO rfl) rfl rfl rfl ?_
    refine r_aldR cd_37_7 rfl rfl ?_
    refine r_get cd_37_8 rfl ((sw_ne (by decide)).trans hS) rfl ?_
    refine r_get cd_37_11 rfl (sw_at _ _ _) rfl ?_
    refine r_con (v := 2) cd_37_14 rfl (by decide) ?_
    refine r_ic61 cd_37_15 rfl ⟨by omega, by omega⟩ ⟨by omega, by omega⟩ (fun n1 => ?_) (fun n1 => ?_)
    · refine r_aldR cd_37_24 rfl rfl ?_
      refine r_ild cd_37_25 rfl rfl ?_
      refine r_aldR cd_37_26 rfl rfl ?_
      refine r_get cd_37_27 rfl ((sw_ne (by decide)).trans hS) rfl ?_
      refine r_get cd_37_30 rfl (sw_at _ _ _) rfl ?_
      refine r_cI (k_38_s dp ex ek eo ((sw_ne (by decide)).trans hS) R1 hI ((sw_ne (by decide)).trans hV) vl' hvr) cd_37_33 rfl rfl rfl (rc0 ((sw_ne (by decide)).trans hS) rfl) rfl rfl rfl ?_
      refine r_if52b cd_37_36 rfl (fun n2 => ?_) (fun n2 => ?_)
      · refine r_aldR cd_37_39 rfl rfl ?_
        refine r_con (v := 2) cd_37_40 rfl (by decide) ?_
        refine r_cI (k_36 dp ex ek eo ((sw_ne (by decide)).trans hS) N _ _ _ _ (sw_at _ _ _) 2) cd_37_41 rfl rfl rfl (rc0 ((sw_ne (by decide)).trans hS) rfl) rfl rfl rfl ?_
        refine r_if51 cd_37_44 rfl ⟨by omega, by omega⟩ (fun n3 => ?_) (fun n3 => ?_)
        · refine r_con (v := 0) cd_37_51 rfl (by decide) ?_
          exact r_ret cd_37_52 (Or.inl rfl) (rfl)
        · exact absurd n3 (by decide)
      · exact absurd (es.mp n2) hs
    · exact absurd (hk3.mpr hk) n1
theorem v_37_w {h : aH} {tx tb : Nat → Int} {N : Nat} (hN : N ≤ 600) (hT : ∀ k, k < N → BT (tx k) (tb k)) (dp ex ek eo : Int) (hS : h.2.2 201 = SO dp ex ek eo) {w : Nat → Int} (hR : Rp h 204 w) (hI : Inv0 w) {va : Nat → Int} (hV : h.2.2 222 = .inl (0, 4, .inl va)) (hb : TxB tx) (st kd vl : Int) (i : Nat) (hi : i ≤ N) (hO : h.2.2 202 = TO N st ((i : Nat) : Int) kd vl) (hB : h.2.2 203 = .inl (1, 600, .inl tb)) : NumP 4 37 [aR 201, aI 119] h N dp ex ek eo (numA tx N i 1 9) := by
  obtain ⟨c, ⟨o0, o1, o2, o3, o4, o5, o6, o7, o8, o9, o10, o11, o12, o13, o14, o15, o16, o17⟩, a0, a1, a2, a3, a4, a5, a6, a7, a8, a9, a10, a11, a12, a13, a14⟩ := id hR
  obtain ⟨vl', c1, hv⟩ := v_64 hN hT st kd vl i hi hO hB
  have hkb := kM_b (k := tKnd tx N i)
  have hk3 := kM_3 (tx := tx) (N := N) (i := i)
  have R1 : Rp (sw h 202 (TO N ((tOff tx N i : Nat) : Int) ((tEnd tx N i : Nat) : Int) (kM (tKnd tx N i)) vl')) 204 w := (NO.rf.t).rp hR
  by_cases hk : tKnd tx N i = 3
  rotate_left
  · rw [show numA tx N i 1 9 = .inl (1, ((tOff tx N i : Nat) : Int)) by unfold numA; rw [if_pos hk]]
    refine ⟨sw (sw h 202 (TO N ((tOff tx N i : Nat) : Int) ((tEnd tx N i : Nat) : Int) (kM (tKnd tx N i)) vl')) 201 (SO dp ex 1 ((tOff tx N i : Nat) : Int)), Ct.of [aR 201, aI 119] rfl ?_, sw_at _ _ _, ⟨_, _, _, _, (sw_ne (by decide)).trans (sw_at _ _ _)⟩, NO.rf.t.s⟩
    refine r_aldR cd_37_0 rfl rfl ?_
    refine r_get cd_37_1 rfl hS rfl ?_
    refine r_cV c1 cd_37_4 rfl rfl rfl (rc0 hO rfl) rfl rfl rfl ?_
    refine r_aldR cd_37_7 rfl rfl ?_
    refine r_get cd_37_8 rfl ((sw_ne (by decide)).trans hS) rfl ?_
    refine r_get cd_37_11 rfl (sw_at _ _ _) rfl ?_
    refine r_con (v := 2) cd_37_14 rfl (by decide) ?_
    refine r_ic61 cd_37_15 rfl ⟨by omega, by omega⟩ ⟨by omega, by omega⟩ (fun n1 => ?_) (fun n1 => ?_)
    · exact absurd (hk3.mp n1) hk
    · refine r_aldR cd_37_18 rfl rfl ?_
      refine r_con (v := 1) cd_37_19 rfl (by decide) ?_
      refine r_cI (k_36 dp ex ek eo ((sw_ne (by decide)).trans hS) N _ _ _ _ (sw_at _ _ _) 1) cd_37_20 rfl rfl rfl (rc0 ((sw_ne (by decide)).trans hS) rfl) rfl rfl rfl ?_
      exact r_ret cd_37_23 (Or.inl rfl) (rfl)
  have hvv := hv hk
  have hvr : inR vl' := by rw [hvv]; exact tVal_in hb hk
  have nk : ¬ ¬ tKnd tx N i = 3 := fun e => e hk
  have es : (decide (1 ≤ vl' ∧ vl' ≤ 9)) = true ↔ 1 ≤ tVal tx N i ∧ tVal tx N i ≤ 9 := by rw [hvv]; simp
  by_cases hs : 1 ≤ tVal tx N i ∧ tVal tx N i ≤ 9
  · rw [show numA tx N i 1 9 = .inr ((tVal tx N i).toNat, tEnd tx N i) by unfold numA; rw [if_neg nk, if_pos hs]]
    have h0 : 0 ≤ tVal tx N i := by have := hs.1; omega
    refine ⟨(sw h 202 (TO N ((tOff tx N i : Nat) : Int) ((tEnd tx N i : Nat) : Int) (kM (tKnd tx N i)) vl')), Ct.of [aR 201, aI 119] rfl ?_, (sw_ne (by decide)).trans hS, ⟨_, _, (sw_at _ _ _).trans (by rw [hvv]; show TO _ _ _ _ _ = TO _ _ _ _ (((tVal tx N i).toNat : Nat) : Int); rw [Int.toNat_of_nonneg h0])⟩, NO.rf.t⟩
    refine r_aldR cd_37_0 rfl rfl ?_
    refine r_get cd_37_1 rfl hS rfl ?_
    refine r_cV c1 cd_37_4 rfl rfl rfl (rc0 hO rfl) rfl rfl rfl ?_
    refine r_aldR cd_37_7 rfl rfl ?_
    refine r_get cd_37_8 rfl ((sw_ne (by decide)).trans hS) rfl ?_
    refine r_get cd_37_11 rfl (sw_at _ _ _) rfl ?_
    refine r_con (v := 2) cd_37_14 rfl (by decide) ?_
    refine r_ic61 cd_37_15 rfl ⟨by omega, by omega⟩ ⟨by omega, by omega⟩ (fun n1 => ?_) (fun n1 => ?_)
    · refine r_aldR cd_37_24 rfl rfl ?_
      refine r_ild cd_37_25 rfl rfl ?_
      refine r_aldR cd_37_26 rfl rfl ?_
      refine r_get cd_37_27 rfl ((sw_ne (by decide)).trans hS) rfl ?_
      refine r_get cd_37_30 rfl (sw_at _ _ _) rfl ?_
      refine r_cI (k_38_w dp ex ek eo ((sw_ne (by decide)).trans hS) R1 hI ((sw_ne (by decide)).trans hV) vl' hvr) cd_37_33 rfl rfl rfl (rc0 ((sw_ne (by decide)).trans hS) rfl) rfl rfl rfl ?_
      refine r_if52b cd_37_36 rfl (fun n2 => ?_) (fun n2 => ?_)
      · exact Bool.noConfusion (n2.symm.trans (es.mpr hs))
      · refine r_con (v := 1) cd_37_47 rfl (by decide) ?_
        refine r_goto cd_37_48 ?_
        exact r_ret cd_37_52 (Or.inr rfl) (rfl)
    · exact absurd (hk3.mpr hk) n1
  · rw [show numA tx N i 1 9 = .inl (2, ((tOff tx N i : Nat) : Int)) by unfold numA; rw [if_neg nk, if_neg hs]]
    refine ⟨sw (sw h 202 (TO N ((tOff tx N i : Nat) : Int) ((tEnd tx N i : Nat) : Int) (kM (tKnd tx N i)) vl')) 201 (SO dp ex 2 ((tOff tx N i : Nat) : Int)), Ct.of [aR 201, aI 119] rfl ?_, sw_at _ _ _, ⟨_, _, _, _, (sw_ne (by decide)).trans (sw_at _ _ _)⟩, NO.rf.t.s⟩
    refine r_aldR cd_37_0 rfl rfl ?_
    refine r_get cd_37_1 rfl hS rfl ?_
    refine r_cV c1 cd_37_4 rfl rfl rfl (rc0 hO rfl) rfl rfl rfl ?_
    refine r_aldR cd_37_7 rfl rfl ?_
    refine r_get cd_37_8 rfl ((sw_ne (by decide)).trans hS) rfl ?_
    refine r_get cd_37_11 rfl (sw_at _ _ _) rfl ?_
    refine r_con (v := 2) cd_37_14 rfl (by decide) ?_
    refine r_ic61 cd_37_15 rfl ⟨by omega, by omega⟩ ⟨by omega, by omega⟩ (fun n1 => ?_) (fun n1 => ?_)
    · refine r_aldR cd_37_24 rfl rfl ?_
      refine r_ild cd_37_25 rfl rfl ?_
      refine r_aldR cd_37_26 rfl rfl ?_
      refine r_get cd_37_27 rfl ((sw_ne (by decide)).trans hS) rfl ?_
      refine r_get cd_37_30 rfl (sw_at _ _ _) rfl ?_
      refine r_cI (k_38_w dp ex ek eo ((sw_ne (by decide)).trans hS) R1 hI ((sw_ne (by decide)).trans hV) vl' hvr) cd_37_33 rfl rfl rfl (rc0 ((sw_ne (by decide)).trans hS) rfl) rfl rfl rfl ?_
      refine r_if52b cd_37_36 rfl (fun n2 => ?_) (fun n2 => ?_)
      · refine r_aldR cd_37_39 rfl rfl ?_
        refine r_con (v := 2) cd_37_40 rfl (by decide) ?_
        refine r_cI (k_36 dp ex ek eo ((sw_ne (by decide)).trans hS) N _ _ _ _ (sw_at _ _ _) 2) cd_37_41 rfl rfl rfl (rc0 ((sw_ne (by decide)).trans hS) rfl) rfl rfl rfl ?_
        refine r_if51 cd_37_44 rfl ⟨by omega, by omega⟩ (fun n3 => ?_) (fun n3 => ?_)
        · refine r_con (v := 0) cd_37_51 rfl (by decide) ?_
          exact r_ret cd_37_52 (Or.inl rfl) (rfl)
        · exact absurd n3 (by decide)
      · exact absurd (es.mp n2) hs
    · exact absurd (hk3.mpr hk) n1
theorem v_37_n {h : aH} {tx tb : Nat → Int} {N : Nat} (hN : N ≤ 600) (hT : ∀ k, k < N → BT (tx k) (tb k)) (dp ex ek eo : Int) (hS : h.2.2 201 = SO dp ex ek eo) {w : Nat → Int} (hR : Rp h 204 w) (hI : Inv0 w) {va : Nat → Int} (hV : h.2.2 222 = .inl (0, 4, .inl va)) (hb : TxB tx) (st kd vl : Int) (i : Nat) (hi : i ≤ N) (hO : h.2.2 202 = TO N st ((i : Nat) : Int) kd vl) (hB : h.2.2 203 = .inl (1, 600, .inl tb)) : NumP 4 37 [aR 201, aI 110] h N dp ex ek eo (numA tx N i 0 99) := by
  obtain ⟨c, ⟨o0, o1, o2, o3, o4, o5, o6, o7, o8, o9, o10, o11, o12, o13, o14, o15, o16, o17⟩, a0, a1, a2, a3, a4, a5, a6, a7, a8, a9, a10, a11, a12, a13, a14⟩ := id hR
  obtain ⟨vl', c1, hv⟩ := v_64 hN hT st kd vl i hi hO hB
  have hkb := kM_b (k := tKnd tx N i)
  have hk3 := kM_3 (tx := tx) (N := N) (i := i)
  have R1 : Rp (sw h 202 (TO N ((tOff tx N i : Nat) : Int) ((tEnd tx N i : Nat) : Int) (kM (tKnd tx N i)) vl')) 204 w := (NO.rf.t).rp hR
  by_cases hk : tKnd tx N i = 3
  rotate_left
  · rw [show numA tx N i 0 99 = .inl (1, ((tOff tx N i : Nat) : Int)) by unfold numA; rw [if_pos hk]]
    refine ⟨sw (sw h 202 (TO N ((tOff tx N i : Nat) : Int) ((tEnd tx N i : Nat) : Int) (kM (tKnd tx N i)) vl')) 201 (SO dp ex 1 ((tOff tx N i : Nat) : Int)), Ct.of [aR 201, aI 110] rfl ?_, sw_at _ _ _, ⟨_, _, _, _, (sw_ne (by decide)).trans (sw_at _ _ _)⟩, NO.rf.t.s⟩
    refine r_aldR cd_37_0 rfl rfl ?_
    refine r_get cd_37_1 rfl hS rfl ?_
    refine r_cV c1 cd_37_4 rfl rfl rfl (rc0 hO rfl) rfl rfl rfl ?_
    refine r_aldR cd_37_7 rfl rfl ?_
    refine r_get cd_37_8 rfl ((sw_ne (by decide)).trans hS) rfl ?_
    refine r_get cd_37_11 rfl (sw_at _ _ _) rfl ?_
    refine r_con (v := 2) cd_37_14 rfl (by decide) ?_
    refine r_ic61 cd_37_15 rfl ⟨by omega, by omega⟩ ⟨by omega, by omega⟩ (fun n1 => ?_) (fun n1 => ?_)
    · exact absurd (hk3.mp n1) hk
    · refine r_aldR cd_37_18 rfl rfl ?_
      refine r_con (v := 1) cd_37_19 rfl (by decide) ?_
      refine r_cI (k_36 dp ex ek eo ((sw_ne (by decide)).trans hS) N _ _ _ _ (sw_at _ _ _) 1) cd_37_20 rfl rfl rfl (rc0 ((sw_ne (by decide)).trans hS) rfl) rfl rfl rfl ?_
      exact r_ret cd_37_23 (Or.inl rfl) (rfl)
  have hvv := hv hk
  have hvr : inR vl' := by rw [hvv]; exact tVal_in hb hk
  have nk : ¬ ¬ tKnd tx N i = 3 := fun e => e hk
  have es : (decide (0 ≤ vl' ∧ vl' ≤ 99)) = true ↔ 0 ≤ tVal tx N i ∧ tVal tx N i ≤ 99 := by rw [hvv]; simp
  by_cases hs : 0 ≤ tVal tx N i ∧ tVal tx N i ≤ 99
  · rw [show numA tx N i 0 99 = .inr ((tVal tx N i).toNat, tEnd tx N i) by unfold numA; rw [if_neg nk, if_pos hs]]
    have h0 : 0 ≤ tVal tx N i := by have := hs.1; omega
    refine ⟨(sw h 202 (TO N ((tOff tx N i : Nat) : Int) ((tEnd tx N i : Nat) : Int) (kM (tKnd tx N i)) vl')), Ct.of [aR 201, aI 110] rfl ?_, (sw_ne (by decide)).trans hS, ⟨_, _, (sw_at _ _ _).trans (by rw [hvv]; show TO _ _ _ _ _ = TO _ _ _ _ (((tVal tx N i).toNat : Nat) : Int); rw [Int.toNat_of_nonneg h0])⟩, NO.rf.t⟩
    refine r_aldR cd_37_0 rfl rfl ?_
    refine r_get cd_37_1 rfl hS rfl ?_
    refine r_cV c1 cd_37_4 rfl rfl rfl (rc0 hO rfl) rfl rfl rfl ?_
    refine r_aldR cd_37_7 rfl rfl ?_
    refine r_get cd_37_8 rfl ((sw_ne (by decide)).trans hS) rfl ?_
    refine r_get cd_37_11 rfl (sw_at _ _ _) rfl ?_
    refine r_con (v := 2) cd_37_14 rfl (by decide) ?_
    refine r_ic61 cd_37_15 rfl ⟨by omega, by omega⟩ ⟨by omega, by omega⟩ (fun n1 => ?_) (fun n1 => ?_)
    · refine r_aldR cd_37_24 rfl rfl ?_
      refine r_ild cd_37_25 rfl rfl ?_
      refine r_aldR cd_37_26 rfl rfl ?_
      refine r_get cd_37_27 rfl ((sw_ne (by decide)).trans hS) rfl ?_
      refine r_get cd_37_30 rfl (sw_at _ _ _) rfl ?_
      refine r_cI (k_38_n dp ex ek eo ((sw_ne (by decide)).trans hS) R1 hI ((sw_ne (by decide)).trans hV) vl' hvr) cd_37_33 rfl rfl rfl (rc0 ((sw_ne (by decide)).trans hS) rfl) rfl rfl rfl ?_
      refine r_if52b cd_37_36 rfl (fun n2 => ?_) (fun n2 => ?_)
      · exact Bool.noConfusion (n2.symm.trans (es.mpr hs))
      · refine r_con (v := 1) cd_37_47 rfl (by decide) ?_
        refine r_goto cd_37_48 ?_
        exact r_ret cd_37_52 (Or.inr rfl) (rfl)
    · exact absurd (hk3.mpr hk) n1
  · rw [show numA tx N i 0 99 = .inl (2, ((tOff tx N i : Nat) : Int)) by unfold numA; rw [if_neg nk, if_neg hs]]
    refine ⟨sw (sw h 202 (TO N ((tOff tx N i : Nat) : Int) ((tEnd tx N i : Nat) : Int) (kM (tKnd tx N i)) vl')) 201 (SO dp ex 2 ((tOff tx N i : Nat) : Int)), Ct.of [aR 201, aI 110] rfl ?_, sw_at _ _ _, ⟨_, _, _, _, (sw_ne (by decide)).trans (sw_at _ _ _)⟩, NO.rf.t.s⟩
    refine r_aldR cd_37_0 rfl rfl ?_
    refine r_get cd_37_1 rfl hS rfl ?_
    refine r_cV c1 cd_37_4 rfl rfl rfl (rc0 hO rfl) rfl rfl rfl ?_
    refine r_aldR cd_37_7 rfl rfl ?_
    refine r_get cd_37_8 rfl ((sw_ne (by decide)).trans hS) rfl ?_
    refine r_get cd_37_11 rfl (sw_at _ _ _) rfl ?_
    refine r_con (v := 2) cd_37_14 rfl (by decide) ?_
    refine r_ic61 cd_37_15 rfl ⟨by omega, by omega⟩ ⟨by omega, by omega⟩ (fun n1 => ?_) (fun n1 => ?_)
    · refine r_aldR cd_37_24 rfl rfl ?_
      refine r_ild cd_37_25 rfl rfl ?_
      refine r_aldR cd_37_26 rfl rfl ?_
      refine r_get cd_37_27 rfl ((sw_ne (by decide)).trans hS) rfl ?_
      refine r_get cd_37_30 rfl (sw_at _ _ _) rfl ?_
      refine r_cI (k_38_n dp ex ek eo ((sw_ne (by decide)).trans hS) R1 hI ((sw_ne (by decide)).trans hV) vl' hvr) cd_37_33 rfl rfl rfl (rc0 ((sw_ne (by decide)).trans hS) rfl) rfl rfl rfl ?_
      refine r_if52b cd_37_36 rfl (fun n2 => ?_) (fun n2 => ?_)
      · refine r_aldR cd_37_39 rfl rfl ?_
        refine r_con (v := 2) cd_37_40 rfl (by decide) ?_
        refine r_cI (k_36 dp ex ek eo ((sw_ne (by decide)).trans hS) N _ _ _ _ (sw_at _ _ _) 2) cd_37_41 rfl rfl rfl (rc0 ((sw_ne (by decide)).trans hS) rfl) rfl rfl rfl ?_
        refine r_if51 cd_37_44 rfl ⟨by omega, by omega⟩ (fun n3 => ?_) (fun n3 => ?_)
        · refine r_con (v := 0) cd_37_51 rfl (by decide) ?_
          exact r_ret cd_37_52 (Or.inl rfl) (rfl)
        · exact absurd n3 (by decide)
      · exact absurd (es.mp n2) hs
    · exact absurd (hk3.mpr hk) n1
theorem v_37_c {h : aH} {tx tb : Nat → Int} {N : Nat} (hN : N ≤ 600) (hT : ∀ k, k < N → BT (tx k) (tb k)) (dp ex ek eo : Int) (hS : h.2.2 201 = SO dp ex ek eo) {w : Nat → Int} (hR : Rp h 204 w) (hI : Inv0 w) {va : Nat → Int} (hV : h.2.2 222 = .inl (0, 4, .inl va)) (hb : TxB tx) (st kd vl : Int) (i : Nat) (hi : i ≤ N) (hO : h.2.2 202 = TO N st ((i : Nat) : Int) kd vl) (hB : h.2.2 203 = .inl (1, 600, .inl tb)) : NumP 4 37 [aR 201, aI 99] h N dp ex ek eo (numA tx N i 0 (w 6 - 1)) := by
  obtain ⟨c, ⟨o0, o1, o2, o3, o4, o5, o6, o7, o8, o9, o10, o11, o12, o13, o14, o15, o16, o17⟩, a0, a1, a2, a3, a4, a5, a6, a7, a8, a9, a10, a11, a12, a13, a14⟩ := id hR
  obtain ⟨vl', c1, hv⟩ := v_64 hN hT st kd vl i hi hO hB
  have hkb := kM_b (k := tKnd tx N i)
  have hk3 := kM_3 (tx := tx) (N := N) (i := i)
  have R1 : Rp (sw h 202 (TO N ((tOff tx N i : Nat) : Int) ((tEnd tx N i : Nat) : Int) (kM (tKnd tx N i)) vl')) 204 w := (NO.rf.t).rp hR
  by_cases hk : tKnd tx N i = 3
  rotate_left
  · rw [show numA tx N i 0 (w 6 - 1) = .inl (1, ((tOff tx N i : Nat) : Int)) by unfold numA; rw [if_pos hk]]
    refine ⟨sw (sw h 202 (TO N ((tOff tx N i : Nat) : Int) ((tEnd tx N i : Nat) : Int) (kM (tKnd tx N i)) vl')) 201 (SO dp ex 1 ((tOff tx N i : Nat) : Int)), Ct.of [aR 201, aI 99] rfl ?_, sw_at _ _ _, ⟨_, _, _, _, (sw_ne (by decide)).trans (sw_at _ _ _)⟩, NO.rf.t.s⟩
    refine r_aldR cd_37_0 rfl rfl ?_
    refine r_get cd_37_1 rfl hS rfl ?_
    refine r_cV c1 cd_37_4 rfl rfl rfl (rc0 hO rfl) rfl rfl rfl ?_
    refine r_aldR cd_37_7 rfl rfl ?_
    refine r_get cd_37_8 rfl ((sw_ne (by decide)).trans hS) rfl ?_
    refine r_get cd_37_11 rfl (sw_at _ _ _) rfl ?_
    refine r_con (v := 2) cd_37_14 rfl (by decide) ?_
    refine r_ic61 cd_37_15 rfl ⟨by omega, by omega⟩ ⟨by omega, by omega⟩ (fun n1 => ?_) (fun n1 => ?_)
    · exact absurd (hk3.mp n1) hk
    · refine r_aldR cd_37_18 rfl rfl ?_
      refine r_con (v := 1) cd_37_19 rfl (by decide) ?_
      refine r_cI (k_36 dp ex ek eo ((sw_ne (by decide)).trans hS) N _ _ _ _ (sw_at _ _ _) 1) cd_37_20 rfl rfl rfl (rc0 ((sw_ne (by decide)).trans hS) rfl) rfl rfl rfl ?_
      exact r_ret cd_37_23 (Or.inl rfl) (rfl)
  have hvv := hv hk
  have hvr : inR vl' := by rw [hvv]; exact tVal_in hb hk
  have nk : ¬ ¬ tKnd tx N i = 3 := fun e => e hk
  have es : (decide (0 ≤ vl' ∧ vl' ≤ w 6 - 1)) = true ↔ 0 ≤ tVal tx N i ∧ tVal tx N i ≤ w 6 - 1 := by rw [hvv]; simp
  by_cases hs : 0 ≤ tVal tx N i ∧ tVal tx N i ≤ w 6 - 1
  · rw [show numA tx N i 0 (w 6 - 1) = .inr ((tVal tx N i).toNat, tEnd tx N i) by unfold numA; rw [if_neg nk, if_pos hs]]
    have h0 : 0 ≤ tVal tx N i := by have := hs.1; omega
    refine ⟨(sw h 202 (TO N ((tOff tx N i : Nat) : Int) ((tEnd tx N i : Nat) : Int) (kM (tKnd tx N i)) vl')), Ct.of [aR 201, aI 99] rfl ?_, (sw_ne (by decide)).trans hS, ⟨_, _, (sw_at _ _ _).trans (by rw [hvv]; show TO _ _ _ _ _ = TO _ _ _ _ (((tVal tx N i).toNat : Nat) : Int); rw [Int.toNat_of_nonneg h0])⟩, NO.rf.t⟩
    refine r_aldR cd_37_0 rfl rfl ?_
    refine r_get cd_37_1 rfl hS rfl ?_
    refine r_cV c1 cd_37_4 rfl rfl rfl (rc0 hO rfl) rfl rfl rfl ?_
    refine r_aldR cd_37_7 rfl rfl ?_
    refine r_get cd_37_8 rfl ((sw_ne (by decide)).trans hS) rfl ?_
    refine r_get cd_37_11 rfl (sw_at _ _ _) rfl ?_
    refine r_con (v := 2) cd_37_14 rfl (by decide) ?_
    refine r_ic61 cd_37_15 rfl ⟨by omega, by omega⟩ ⟨by omega, by omega⟩ (fun n1 => ?_) (fun n1 => ?_)
    · refine r_aldR cd_37_24 rfl rfl ?_
      refine r_ild cd_37_25 rfl rfl ?_
      refine r_aldR cd_37_26 rfl rfl ?_
      refine r_get cd_37_27 rfl ((sw_ne (by decide)).trans hS) rfl ?_
      refine r_get cd_37_30 rfl (sw_at _ _ _) rfl ?_
      refine r_cI (k_38_c dp ex ek eo ((sw_ne (by decide)).trans hS) R1 hI ((sw_ne (by decide)).trans hV) vl' hvr) cd_37_33 rfl rfl rfl (rc0 ((sw_ne (by decide)).trans hS) rfl) rfl rfl rfl ?_
      refine r_if52b cd_37_36 rfl (fun n2 => ?_) (fun n2 => ?_)
      · exact Bool.noConfusion (n2.symm.trans (es.mpr hs))
      · refine r_con (v := 1) cd_37_47 rfl (by decide) ?_
        refine r_goto cd_37_48 ?_
        exact r_ret cd_37_52 (Or.inr rfl) (rfl)
    · exact absurd (hk3.mpr hk) n1
  · rw [show numA tx N i 0 (w 6 - 1) = .inl (2, ((tOff tx N i : Nat) : Int)) by unfold numA; rw [if_neg nk, if_neg hs]]
    refine ⟨sw (sw h 202 (TO N ((tOff tx N i : Nat) : Int) ((tEnd tx N i : Nat) : Int) (kM (tKnd tx N i)) vl')) 201 (SO dp ex 2 ((tOff tx N i : Nat) : Int)), Ct.of [aR 201, aI 99] rfl ?_, sw_at _ _ _, ⟨_, _, _, _, (sw_ne (by decide)).trans (sw_at _ _ _)⟩, NO.rf.t.s⟩
    refine r_aldR cd_37_0 rfl rfl ?_
    refine r_get cd_37_1 rfl hS rfl ?_
    refine r_cV c1 cd_37_4 rfl rfl rfl (rc0 hO rfl) rfl rfl rfl ?_
    refine r_aldR cd_37_7 rfl rfl ?_
    refine r_get cd_37_8 rfl ((sw_ne (by decide)).trans hS) rfl ?_
    refine r_get cd_37_11 rfl (sw_at _ _ _) rfl ?_
    refine r_con (v := 2) cd_37_14 rfl (by decide) ?_
    refine r_ic61 cd_37_15 rfl ⟨by omega, by omega⟩ ⟨by omega, by omega⟩ (fun n1 => ?_) (fun n1 => ?_)
    · refine r_aldR cd_37_24 rfl rfl ?_
      refine r_ild cd_37_25 rfl rfl ?_
      refine r_aldR cd_37_26 rfl rfl ?_
      refine r_get cd_37_27 rfl ((sw_ne (by decide)).trans hS) rfl ?_
      refine r_get cd_37_30 rfl (sw_at _ _ _) rfl ?_
      refine r_cI (k_38_c dp ex ek eo ((sw_ne (by decide)).trans hS) R1 hI ((sw_ne (by decide)).trans hV) vl' hvr) cd_37_33 rfl rfl rfl (rc0 ((sw_ne (by decide)).trans hS) rfl) rfl rfl rfl ?_
      refine r_if52b cd_37_36 rfl (fun n2 => ?_) (fun n2 => ?_)
      · refine r_aldR cd_37_39 rfl rfl ?_
        refine r_con (v := 2) cd_37_40 rfl (by decide) ?_
        refine r_cI (k_36 dp ex ek eo ((sw_ne (by decide)).trans hS) N _ _ _ _ (sw_at _ _ _) 2) cd_37_41 rfl rfl rfl (rc0 ((sw_ne (by decide)).trans hS) rfl) rfl rfl rfl ?_
        refine r_if51 cd_37_44 rfl ⟨by omega, by omega⟩ (fun n3 => ?_) (fun n3 => ?_)
        · refine r_con (v := 0) cd_37_51 rfl (by decide) ?_
          exact r_ret cd_37_52 (Or.inl rfl) (rfl)
        · exact absurd n3 (by decide)
      · exact absurd (es.mp n2) hs
    · exact absurd (hk3.mpr hk) n1
theorem v_37_b {h : aH} {tx tb : Nat → Int} {N : Nat} (hN : N ≤ 600) (hT : ∀ k, k < N → BT (tx k) (tb k)) (dp ex ek eo : Int) (hS : h.2.2 201 = SO dp ex ek eo) {w : Nat → Int} (hR : Rp h 204 w) (hI : Inv0 w) {va : Nat → Int} (hV : h.2.2 222 = .inl (0, 4, .inl va)) (hb : TxB tx) (st kd vl : Int) (i : Nat) (hi : i ≤ N) (hO : h.2.2 202 = TO N st ((i : Nat) : Int) kd vl) (hB : h.2.2 203 = .inl (1, 600, .inl tb)) : NumP 4 37 [aR 201, aI 98] h N dp ex ek eo (numA tx N i 0 (w 5 - 1)) := by
  obtain ⟨c, ⟨o0, o1, o2, o3, o4, o5, o6, o7, o8, o9, o10, o11, o12, o13, o14, o15, o16, o17⟩, a0, a1, a2, a3, a4, a5, a6, a7, a8, a9, a10, a11, a12, a13, a14⟩ := id hR
  obtain ⟨vl', c1, hv⟩ := v_64 hN hT st kd vl i hi hO hB
  have hkb := kM_b (k := tKnd tx N i)
  have hk3 := kM_3 (tx := tx) (N := N) (i := i)
  have R1 : Rp (sw h 202 (TO N ((tOff tx N i : Nat) : Int) ((tEnd tx N i : Nat) : Int) (kM (tKnd tx N i)) vl')) 204 w := (NO.rf.t).rp hR
  by_cases hk : tKnd tx N i = 3
  rotate_left
  · rw [show numA tx N i 0 (w 5 - 1) = .inl (1, ((tOff tx N i : Nat) : Int)) by unfold numA; rw [if_pos hk]]
    refine ⟨sw (sw h 202 (TO N ((tOff tx N i : Nat) : Int) ((tEnd tx N i : Nat) : Int) (kM (tKnd tx N i)) vl')) 201 (SO dp ex 1 ((tOff tx N i : Nat) : Int)), Ct.of [aR 201, aI 98] rfl ?_, sw_at _ _ _, ⟨_, _, _, _, (sw_ne (by decide)).trans (sw_at _ _ _)⟩, NO.rf.t.s⟩
    refine r_aldR cd_37_0 rfl rfl ?_
    refine r_get cd_37_1 rfl hS rfl ?_
    refine r_cV c1 cd_37_4 rfl rfl rfl (rc0 hO rfl) rfl rfl rfl ?_
    refine r_aldR cd_37_7 rfl rfl ?_
    refine r_get cd_37_8 rfl ((sw_ne (by decide)).trans hS) rfl ?_
    refine r_get cd_37_11 rfl (sw_at _ _ _) rfl ?_
    refine r_con (v := 2) cd_37_14 rfl (by decide) ?_
    refine r_ic61 cd_37_15 rfl ⟨by omega, by omega⟩ ⟨by omega, by omega⟩ (fun n1 => ?_) (fun n1 => ?_)
    · exact absurd (hk3.mp n1) hk
    · refine r_aldR cd_37_18 rfl rfl ?_
      refine r_con (v := 1) cd_37_19 rfl (by decide) ?_
      refine r_cI (k_36 dp ex ek eo ((sw_ne (by decide)).trans hS) N _ _ _ _ (sw_at _ _ _) 1) cd_37_20 rfl rfl rfl (rc0 ((sw_ne (by decide)).trans hS) rfl) rfl rfl rfl ?_
      exact r_ret cd_37_23 (Or.inl rfl) (rfl)
  have hvv := hv hk
  have hvr : inR vl' := by rw [hvv]; exact tVal_in hb hk
  have nk : ¬ ¬ tKnd tx N i = 3 := fun e => e hk
  have es : (decide (0 ≤ vl' ∧ vl' ≤ w 5 - 1)) = true ↔ 0 ≤ tVal tx N i ∧ tVal tx N i ≤ w 5 - 1 := by rw [hvv]; simp
  by_cases hs : 0 ≤ tVal tx N i ∧ tVal tx N i ≤ w 5 - 1
  · rw [show numA tx N i 0 (w 5 - 1) = .inr ((tVal tx N i).toNat, tEnd tx N i) by unfold numA; rw [if_neg nk, if_pos hs]]
    have h0 : 0 ≤ tVal tx N i := by have := hs.1; omega
    refine ⟨(sw h 202 (TO N ((tOff tx N i : Nat) : Int) ((tEnd tx N i : Nat) : Int) (kM (tKnd tx N i)) vl')), Ct.of [aR 201, aI 98] rfl ?_, (sw_ne (by decide)).trans hS, ⟨_, _, (sw_at _ _ _).trans (by rw [hvv]; show TO _ _ _ _ _ = TO _ _ _ _ (((tVal tx N i).toNat : Nat) : Int); rw [Int.toNat_of_nonneg h0])⟩, NO.rf.t⟩
    refine r_aldR cd_37_0 rfl rfl ?_
    refine r_get cd_37_1 rfl hS rfl ?_
    refine r_cV c1 cd_37_4 rfl rfl rfl (rc0 hO rfl) rfl rfl rfl ?_
    refine r_aldR cd_37_7 rfl rfl ?_
    refine r_get cd_37_8 rfl ((sw_ne (by decide)).trans hS) rfl ?_
    refine r_get cd_37_11 rfl (sw_at _ _ _) rfl ?_
    refine r_con (v := 2) cd_37_14 rfl (by decide) ?_
    refine r_ic61 cd_37_15 rfl ⟨by omega, by omega⟩ ⟨by omega, by omega⟩ (fun n1 => ?_) (fun n1 => ?_)
    · refine r_aldR cd_37_24 rfl rfl ?_
      refine r_ild cd_37_25 rfl rfl ?_
      refine r_aldR cd_37_26 rfl rfl ?_
      refine r_get cd_37_27 rfl ((sw_ne (by decide)).trans hS) rfl ?_
      refine r_get cd_37_30 rfl (sw_at _ _ _) rfl ?_
      refine r_cI (k_38_b dp ex ek eo ((sw_ne (by decide)).trans hS) R1 hI ((sw_ne (by decide)).trans hV) vl' hvr) cd_37_33 rfl rfl rfl (rc0 ((sw_ne (by decide)).trans hS) rfl) rfl rfl rfl ?_
      refine r_if52b cd_37_36 rfl (fun n2 => ?_) (fun n2 => ?_)
      · exact Bool.noConfusion (n2.symm.trans (es.mpr hs))
      · refine r_con (v := 1) cd_37_47 rfl (by decide) ?_
        refine r_goto cd_37_48 ?_
        exact r_ret cd_37_52 (Or.inr rfl) (rfl)
    · exact absurd (hk3.mpr hk) n1
  · rw [show numA tx N i 0 (w 5 - 1) = .inl (2, ((tOff tx N i : Nat) : Int)) by unfold numA; rw [if_neg nk, if_neg hs]]
    refine ⟨sw (sw h 202 (TO N ((tOff tx N i : Nat) : Int) ((tEnd tx N i : Nat) : Int) (kM (tKnd tx N i)) vl')) 201 (SO dp ex 2 ((tOff tx N i : Nat) : Int)), Ct.of [aR 201, aI 98] rfl ?_, sw_at _ _ _, ⟨_, _, _, _, (sw_ne (by decide)).trans (sw_at _ _ _)⟩, NO.rf.t.s⟩
    refine r_aldR cd_37_0 rfl rfl ?_
    refine r_get cd_37_1 rfl hS rfl ?_
    refine r_cV c1 cd_37_4 rfl rfl rfl (rc0 hO rfl) rfl rfl rfl ?_
    refine r_aldR cd_37_7 rfl rfl ?_
    refine r_get cd_37_8 rfl ((sw_ne (by decide)).trans hS) rfl ?_
    refine r_get cd_37_11 rfl (sw_at _ _ _) rfl ?_
    refine r_con (v := 2) cd_37_14 rfl (by decide) ?_
    refine r_ic61 cd_37_15 rfl ⟨by omega, by omega⟩ ⟨by omega, by omega⟩ (fun n1 => ?_) (fun n1 => ?_)
    · refine r_aldR cd_37_24 rfl rfl ?_
      refine r_ild cd_37_25 rfl rfl ?_
      refine r_aldR cd_37_26 rfl rfl ?_
      refine r_get cd_37_27 rfl ((sw_ne (by decide)).trans hS) rfl ?_
      refine r_get cd_37_30 rfl (sw_at _ _ _) rfl ?_
      refine r_cI (k_38_b dp ex ek eo ((sw_ne (by decide)).trans hS) R1 hI ((sw_ne (by decide)).trans hV) vl' hvr) cd_37_33 rfl rfl rfl (rc0 ((sw_ne (by decide)).trans hS) rfl) rfl rfl rfl ?_
      refine r_if52b cd_37_36 rfl (fun n2 => ?_) (fun n2 => ?_)
      · refine r_aldR cd_37_39 rfl rfl ?_
        refine r_con (v := 2) cd_37_40 rfl (by decide) ?_
        refine r_cI (k_36 dp ex ek eo ((sw_ne (by decide)).trans hS) N _ _ _ _ (sw_at _ _ _) 2) cd_37_41 rfl rfl rfl (rc0 ((sw_ne (by decide)).trans hS) rfl) rfl rfl rfl ?_
        refine r_if51 cd_37_44 rfl ⟨by omega, by omega⟩ (fun n3 => ?_) (fun n3 => ?_)
        · refine r_con (v := 0) cd_37_51 rfl (by decide) ?_
          exact r_ret cd_37_52 (Or.inl rfl) (rfl)
        · exact absurd n3 (by decide)
      · exact absurd (es.mp n2) hs
    · exact absurd (hk3.mpr hk) n1
theorem v_37_f {h : aH} {tx tb : Nat → Int} {N : Nat} (hN : N ≤ 600) (hT : ∀ k, k < N → BT (tx k) (tb k)) (dp ex ek eo : Int) (hS : h.2.2 201 = SO dp ex ek eo) {w : Nat → Int} (hR : Rp h 204 w) (hI : Inv0 w) {va : Nat → Int} (hV : h.2.2 222 = .inl (0, 4, .inl va)) (hb : TxB tx) (st kd vl : Int) (i : Nat) (hi : i ≤ N) (hO : h.2.2 202 = TO N st ((i : Nat) : Int) kd vl) (hB : h.2.2 203 = .inl (1, 600, .inl tb)) : NumP 4 37 [aR 201, aI 102] h N dp ex ek eo (numA tx N i 1 29) := by
  obtain ⟨c, ⟨o0, o1, o2, o3, o4, o5, o6, o7, o8, o9, o10, o11, o12, o13, o14, o15, o16, o17⟩, a0, a1, a2, a3, a4, a5, a6, a7, a8, a9, a10, a11, a12, a13, a14⟩ := id hR
  obtain ⟨vl', c1, hv⟩ := v_64 hN hT st kd vl i hi hO hB
  have hkb := kM_b (k := tKnd tx N i)
  have hk3 := kM_3 (tx := tx) (N := N) (i := i)
  have R1 : Rp (sw h 202 (TO N ((tOff tx N i : Nat) : Int) ((tEnd tx N i : Nat) : Int) (kM (tKnd tx N i)) vl')) 204 w := (NO.rf.t).rp hR
  by_cases hk : tKnd tx N i = 3
  rotate_left
  · rw [show numA tx N i 1 29 = .inl (1, ((tOff tx N i : Nat) : Int)) by unfold numA; rw [if_pos hk]]
    refine ⟨sw (sw h 202 (TO N ((tOff tx N i : Nat) : Int) ((tEnd tx N i : Nat) : Int) (kM (tKnd tx N i)) vl')) 201 (SO dp ex 1 ((tOff tx N i : Nat) : Int)), Ct.of [aR 201, aI 102] rfl ?_, sw_at _ _ _, ⟨_, _, _, _, (sw_ne (by decide)).trans (sw_at _ _ _)⟩, NO.rf.t.s⟩
    refine r_aldR cd_37_0 rfl rfl ?_
    refine r_get cd_37_1 rfl hS rfl ?_
    refine r_cV c1 cd_37_4 rfl rfl rfl (rc0 hO rfl) rfl rfl rfl ?_
    refine r_aldR cd_37_7 rfl rfl ?_
    refine r_get cd_37_8 rfl ((sw_ne (by decide)).trans hS) rfl ?_
    refine r_get cd_37_11 rfl (sw_at _ _ _) rfl ?_
    refine r_con (v := 2) cd_37_14 rfl (by decide) ?_
    refine r_ic61 cd_37_15 rfl ⟨by omega, by omega⟩ ⟨by omega, by omega⟩ (fun n1 => ?_) (fun n1 => ?_)
    · exact absurd (hk3.mp n1) hk
    · refine r_aldR cd_37_18 rfl rfl ?_
      refine r_con (v := 1) cd_37_19 rfl (by decide) ?_
      refine r_cI (k_36 dp ex ek eo ((sw_ne (by decide)).trans hS) N _ _ _ _ (sw_at _ _ _) 1) cd_37_20 rfl rfl rfl (rc0 ((sw_ne (by decide)).trans hS) rfl) rfl rfl rfl ?_
      exact r_ret cd_37_23 (Or.inl rfl) (rfl)
  have hvv := hv hk
  have hvr : inR vl' := by rw [hvv]; exact tVal_in hb hk
  have nk : ¬ ¬ tKnd tx N i = 3 := fun e => e hk
  have es : (decide (1 ≤ vl' ∧ vl' ≤ 29)) = true ↔ 1 ≤ tVal tx N i ∧ tVal tx N i ≤ 29 := by rw [hvv]; simp
  by_cases hs : 1 ≤ tVal tx N i ∧ tVal tx N i ≤ 29
  · rw [show numA tx N i 1 29 = .inr ((tVal tx N i).toNat, tEnd tx N i) by unfold numA; rw [if_neg nk, if_pos hs]]
    have h0 : 0 ≤ tVal tx N i := by have := hs.1; omega
    refine ⟨(sw h 202 (TO N ((tOff tx N i : Nat) : Int) ((tEnd tx N i : Nat) : Int) (kM (tKnd tx N i)) vl')), Ct.of [aR 201, aI 102] rfl ?_, (sw_ne (by decide)).trans hS, ⟨_, _, (sw_at _ _ _).trans (by rw [hvv]; show TO _ _ _ _ _ = TO _ _ _ _ (((tVal tx N i).toNat : Nat) : Int); rw [Int.toNat_of_nonneg h0])⟩, NO.rf.t⟩
    refine r_aldR cd_37_0 rfl rfl ?_
    refine r_get cd_37_1 rfl hS rfl ?_
    refine r_cV c1 cd_37_4 rfl rfl rfl (rc0 hO rfl) rfl rfl rfl ?_
    refine r_aldR cd_37_7 rfl rfl ?_
    refine r_get cd_37_8 rfl ((sw_ne (by decide)).trans hS) rfl ?_
    refine r_get cd_37_11 rfl (sw_at _ _ _) rfl ?_
    refine r_con (v := 2) cd_37_14 rfl (by decide) ?_
    refine r_ic61 cd_37_15 rfl ⟨by omega, by omega⟩ ⟨by omega, by omega⟩ (fun n1 => ?_) (fun n1 => ?_)
    · refine r_aldR cd_37_24 rfl rfl ?_
      refine r_ild cd_37_25 rfl rfl ?_
      refine r_aldR cd_37_26 rfl rfl ?_
      refine r_get cd_37_27 rfl ((sw_ne (by decide)).trans hS) rfl ?_
      refine r_get cd_37_30 rfl (sw_at _ _ _) rfl ?_
      refine r_cI (k_38_f dp ex ek eo ((sw_ne (by decide)).trans hS) R1 hI ((sw_ne (by decide)).trans hV) vl' hvr) cd_37_33 rfl rfl rfl (rc0 ((sw_ne (by decide)).trans hS) rfl) rfl rfl rfl ?_
      refine r_if52b cd_37_36 rfl (fun n2 => ?_) (fun n2 => ?_)
      · exact Bool.noConfusion (n2.symm.trans (es.mpr hs))
      · refine r_con (v := 1) cd_37_47 rfl (by decide) ?_
        refine r_goto cd_37_48 ?_
        exact r_ret cd_37_52 (Or.inr rfl) (rfl)
    · exact absurd (hk3.mpr hk) n1
  · rw [show numA tx N i 1 29 = .inl (2, ((tOff tx N i : Nat) : Int)) by unfold numA; rw [if_neg nk, if_neg hs]]
    refine ⟨sw (sw h 202 (TO N ((tOff tx N i : Nat) : Int) ((tEnd tx N i : Nat) : Int) (kM (tKnd tx N i)) vl')) 201 (SO dp ex 2 ((tOff tx N i : Nat) : Int)), Ct.of [aR 201, aI 102] rfl ?_, sw_at _ _ _, ⟨_, _, _, _, (sw_ne (by decide)).trans (sw_at _ _ _)⟩, NO.rf.t.s⟩
    refine r_aldR cd_37_0 rfl rfl ?_
    refine r_get cd_37_1 rfl hS rfl ?_
    refine r_cV c1 cd_37_4 rfl rfl rfl (rc0 hO rfl) rfl rfl rfl ?_
    refine r_aldR cd_37_7 rfl rfl ?_
    refine r_get cd_37_8 rfl ((sw_ne (by decide)).trans hS) rfl ?_
    refine r_get cd_37_11 rfl (sw_at _ _ _) rfl ?_
    refine r_con (v := 2) cd_37_14 rfl (by decide) ?_
    refine r_ic61 cd_37_15 rfl ⟨by omega, by omega⟩ ⟨by omega, by omega⟩ (fun n1 => ?_) (fun n1 => ?_)
    · refine r_aldR cd_37_24 rfl rfl ?_
      refine r_ild cd_37_25 rfl rfl ?_
      refine r_aldR cd_37_26 rfl rfl ?_
      refine r_get cd_37_27 rfl ((sw_ne (by decide)).trans hS) rfl ?_
      refine r_get cd_37_30 rfl (sw_at _ _ _) rfl ?_
      refine r_cI (k_38_f dp ex ek eo ((sw_ne (by decide)).trans hS) R1 hI ((sw_ne (by decide)).trans hV) vl' hvr) cd_37_33 rfl rfl rfl (rc0 ((sw_ne (by decide)).trans hS) rfl) rfl rfl rfl ?_
      refine r_if52b cd_37_36 rfl (fun n2 => ?_) (fun n2 => ?_)
      · refine r_aldR cd_37_39 rfl rfl ?_
        refine r_con (v := 2) cd_37_40 rfl (by decide) ?_
        refine r_cI (k_36 dp ex ek eo ((sw_ne (by decide)).trans hS) N _ _ _ _ (sw_at _ _ _) 2) cd_37_41 rfl rfl rfl (rc0 ((sw_ne (by decide)).trans hS) rfl) rfl rfl rfl ?_
        refine r_if51 cd_37_44 rfl ⟨by omega, by omega⟩ (fun n3 => ?_) (fun n3 => ?_)
        · refine r_con (v := 0) cd_37_51 rfl (by decide) ?_
          exact r_ret cd_37_52 (Or.inl rfl) (rfl)
        · exact absurd n3 (by decide)
      · exact absurd (es.mp n2) hs
    · exact absurd (hk3.mpr hk) n1
theorem v_37_a {h : aH} {tx tb : Nat → Int} {N : Nat} (hN : N ≤ 600) (hT : ∀ k, k < N → BT (tx k) (tb k)) (dp ex ek eo : Int) (hS : h.2.2 201 = SO dp ex ek eo) {w : Nat → Int} (hR : Rp h 204 w) (hI : Inv0 w) {va : Nat → Int} (hV : h.2.2 222 = .inl (0, 4, .inl va)) (hb : TxB tx) (st kd vl : Int) (i : Nat) (hi : i ≤ N) (hO : h.2.2 202 = TO N st ((i : Nat) : Int) kd vl) (hB : h.2.2 203 = .inl (1, 600, .inl tb)) : NumP 4 37 [aR 201, aI 97] h N dp ex ek eo (numA tx N i 1 200) := by
  obtain ⟨c, ⟨o0, o1, o2, o3, o4, o5, o6, o7, o8, o9, o10, o11, o12, o13, o14, o15, o16, o17⟩, a0, a1, a2, a3, a4, a5, a6, a7, a8, a9, a10, a11, a12, a13, a14⟩ := id hR
  obtain ⟨vl', c1, hv⟩ := v_64 hN hT st kd vl i hi hO hB
  have hkb := kM_b (k := tKnd tx N i)
  have hk3 := kM_3 (tx := tx) (N := N) (i := i)
  have R1 : Rp (sw h 202 (TO N ((tOff tx N i : Nat) : Int) ((tEnd tx N i : Nat) : Int) (kM (tKnd tx N i)) vl')) 204 w := (NO.rf.t).rp hR
  by_cases hk : tKnd tx N i = 3
  rotate_left
  · rw [show numA tx N i 1 200 = .inl (1, ((tOff tx N i : Nat) : Int)) by unfold numA; rw [if_pos hk]]
    refine ⟨sw (sw h 202 (TO N ((tOff tx N i : Nat) : Int) ((tEnd tx N i : Nat) : Int) (kM (tKnd tx N i)) vl')) 201 (SO dp ex 1 ((tOff tx N i : Nat) : Int)), Ct.of [aR 201, aI 97] rfl ?_, sw_at _ _ _, ⟨_, _, _, _, (sw_ne (by decide)).trans (sw_at _ _ _)⟩, NO.rf.t.s⟩
    refine r_aldR cd_37_0 rfl rfl ?_
    refine r_get cd_37_1 rfl hS rfl ?_
    refine r_cV c1 cd_37_4 rfl rfl rfl (rc0 hO rfl) rfl rfl rfl ?_
    refine r_aldR cd_37_7 rfl rfl ?_
    refine r_get cd_37_8 rfl ((sw_ne (by decide)).trans hS) rfl ?_
    refine r_get cd_37_11 rfl (sw_at _ _ _) rfl ?_
    refine r_con (v := 2) cd_37_14 rfl (by decide) ?_
    refine r_ic61 cd_37_15 rfl ⟨by omega, by omega⟩ ⟨by omega, by omega⟩ (fun n1 => ?_) (fun n1 => ?_)
    · exact absurd (hk3.mp n1) hk
    · refine r_aldR cd_37_18 rfl rfl ?_
      refine r_con (v := 1) cd_37_19 rfl (by decide) ?_
      refine r_cI (k_36 dp ex ek eo ((sw_ne (by decide)).trans hS) N _ _ _ _ (sw_at _ _ _) 1) cd_37_20 rfl rfl rfl (rc0 ((sw_ne (by decide)).trans hS) rfl) rfl rfl rfl ?_
      exact r_ret cd_37_23 (Or.inl rfl) (rfl)
  have hvv := hv hk
  have hvr : inR vl' := by rw [hvv]; exact tVal_in hb hk
  have nk : ¬ ¬ tKnd tx N i = 3 := fun e => e hk
  have es : (decide (1 ≤ vl' ∧ vl' ≤ 200)) = true ↔ 1 ≤ tVal tx N i ∧ tVal tx N i ≤ 200 := by rw [hvv]; simp
  by_cases hs : 1 ≤ tVal tx N i ∧ tVal tx N i ≤ 200
  · rw [show numA tx N i 1 200 = .inr ((tVal tx N i).toNat, tEnd tx N i) by unfold numA; rw [if_neg nk, if_pos hs]]
    have h0 : 0 ≤ tVal tx N i := by have := hs.1; omega
    refine ⟨(sw h 202 (TO N ((tOff tx N i : Nat) : Int) ((tEnd tx N i : Nat) : Int) (kM (tKnd tx N i)) vl')), Ct.of [aR 201, aI 97] rfl ?_, (sw_ne (by decide)).trans hS, ⟨_, _, (sw_at _ _ _).trans (by rw [hvv]; show TO _ _ _ _ _ = TO _ _ _ _ (((tVal tx N i).toNat : Nat) : Int); rw [Int.toNat_of_nonneg h0])⟩, NO.rf.t⟩
    refine r_aldR cd_37_0 rfl rfl ?_
    refine r_get cd_37_1 rfl hS rfl ?_
    refine r_cV c1 cd_37_4 rfl rfl rfl (rc0 hO rfl) rfl rfl rfl ?_
    refine r_aldR cd_37_7 rfl rfl ?_
    refine r_get cd_37_8 rfl ((sw_ne (by decide)).trans hS) rfl ?_
    refine r_get cd_37_11 rfl (sw_at _ _ _) rfl ?_
    refine r_con (v := 2) cd_37_14 rfl (by decide) ?_
    refine r_ic61 cd_37_15 rfl ⟨by omega, by omega⟩ ⟨by omega, by omega⟩ (fun n1 => ?_) (fun n1 => ?_)
    · refine r_aldR cd_37_24 rfl rfl ?_
      refine r_ild cd_37_25 rfl rfl ?_
      refine r_aldR cd_37_26 rfl rfl ?_
      refine r_get cd_37_27 rfl ((sw_ne (by decide)).trans hS) rfl ?_
      refine r_get cd_37_30 rfl (sw_at _ _ _) rfl ?_
      refine r_cI (k_38_a dp ex ek eo ((sw_ne (by decide)).trans hS) R1 hI ((sw_ne (by decide)).trans hV) vl' hvr) cd_37_33 rfl rfl rfl (rc0 ((sw_ne (by decide)).trans hS) rfl) rfl rfl rfl ?_
      refine r_if52b cd_37_36 rfl (fun n2 => ?_) (fun n2 => ?_)
      · exact Bool.noConfusion (n2.symm.trans (es.mpr hs))
      · refine r_con (v := 1) cd_37_47 rfl (by decide) ?_
        refine r_goto cd_37_48 ?_
        exact r_ret cd_37_52 (Or.inr rfl) (rfl)
    · exact absurd (hk3.mpr hk) n1
  · rw [show numA tx N i 1 200 = .inl (2, ((tOff tx N i : Nat) : Int)) by unfold numA; rw [if_neg nk, if_neg hs]]
    refine ⟨sw (sw h 202 (TO N ((tOff tx N i : Nat) : Int) ((tEnd tx N i : Nat) : Int) (kM (tKnd tx N i)) vl')) 201 (SO dp ex 2 ((tOff tx N i : Nat) : Int)), Ct.of [aR 201, aI 97] rfl ?_, sw_at _ _ _, ⟨_, _, _, _, (sw_ne (by decide)).trans (sw_at _ _ _)⟩, NO.rf.t.s⟩
    refine r_aldR cd_37_0 rfl rfl ?_
    refine r_get cd_37_1 rfl hS rfl ?_
    refine r_cV c1 cd_37_4 rfl rfl rfl (rc0 hO rfl) rfl rfl rfl ?_
    refine r_aldR cd_37_7 rfl rfl ?_
    refine r_get cd_37_8 rfl ((sw_ne (by decide)).trans hS) rfl ?_
    refine r_get cd_37_11 rfl (sw_at _ _ _) rfl ?_
    refine r_con (v := 2) cd_37_14 rfl (by decide) ?_
    refine r_ic61 cd_37_15 rfl ⟨by omega, by omega⟩ ⟨by omega, by omega⟩ (fun n1 => ?_) (fun n1 => ?_)
    · refine r_aldR cd_37_24 rfl rfl ?_
      refine r_ild cd_37_25 rfl rfl ?_
      refine r_aldR cd_37_26 rfl rfl ?_
      refine r_get cd_37_27 rfl ((sw_ne (by decide)).trans hS) rfl ?_
      refine r_get cd_37_30 rfl (sw_at _ _ _) rfl ?_
      refine r_cI (k_38_a dp ex ek eo ((sw_ne (by decide)).trans hS) R1 hI ((sw_ne (by decide)).trans hV) vl' hvr) cd_37_33 rfl rfl rfl (rc0 ((sw_ne (by decide)).trans hS) rfl) rfl rfl rfl ?_
      refine r_if52b cd_37_36 rfl (fun n2 => ?_) (fun n2 => ?_)
      · refine r_aldR cd_37_39 rfl rfl ?_
        refine r_con (v := 2) cd_37_40 rfl (by decide) ?_
        refine r_cI (k_36 dp ex ek eo ((sw_ne (by decide)).trans hS) N _ _ _ _ (sw_at _ _ _) 2) cd_37_41 rfl rfl rfl (rc0 ((sw_ne (by decide)).trans hS) rfl) rfl rfl rfl ?_
        refine r_if51 cd_37_44 rfl ⟨by omega, by omega⟩ (fun n3 => ?_) (fun n3 => ?_)
        · refine r_con (v := 0) cd_37_51 rfl (by decide) ?_
          exact r_ret cd_37_52 (Or.inl rfl) (rfl)
        · exact absurd n3 (by decide)
      · exact absurd (es.mp n2) hs
    · exact absurd (hk3.mpr hk) n1
theorem v_37_k {h : aH} {tx tb : Nat → Int} {N : Nat} (hN : N ≤ 600) (hT : ∀ k, k < N → BT (tx k) (tb k)) (dp ex ek eo : Int) (hS : h.2.2 201 = SO dp ex ek eo) {w : Nat → Int} (hR : Rp h 204 w) (hI : Inv0 w) {va : Nat → Int} (hV : h.2.2 222 = .inl (0, 4, .inl va)) (hb : TxB tx) (st kd vl : Int) (i : Nat) (hi : i ≤ N) (hO : h.2.2 202 = TO N st ((i : Nat) : Int) kd vl) (hB : h.2.2 203 = .inl (1, 600, .inl tb)) (x : Nat) (hx : x < 30) (hv0 : va 0 = ((x : Nat) : Int)) : NumP 4 37 [aR 201, aI 107] h N dp ex ek eo (clmA tx N i x w) := by
  obtain ⟨c, ⟨o0, o1, o2, o3, o4, o5, o6, o7, o8, o9, o10, o11, o12, o13, o14, o15, o16, o17⟩, a0, a1, a2, a3, a4, a5, a6, a7, a8, a9, a10, a11, a12, a13, a14⟩ := id hR
  obtain ⟨vl', c1, hv⟩ := v_64 hN hT st kd vl i hi hO hB
  have hkb := kM_b (k := tKnd tx N i)
  have hk3 := kM_3 (tx := tx) (N := N) (i := i)
  have R1 : Rp (sw h 202 (TO N ((tOff tx N i : Nat) : Int) ((tEnd tx N i : Nat) : Int) (kM (tKnd tx N i)) vl')) 204 w := (NO.rf.t).rp hR
  by_cases hk : tKnd tx N i = 3
  rotate_left
  · rw [show clmA tx N i x w = .inl (1, ((tOff tx N i : Nat) : Int)) by unfold clmA numA; rw [if_neg (fun e => hk e.1), if_pos hk]]
    refine ⟨sw (sw h 202 (TO N ((tOff tx N i : Nat) : Int) ((tEnd tx N i : Nat) : Int) (kM (tKnd tx N i)) vl')) 201 (SO dp ex 1 ((tOff tx N i : Nat) : Int)), Ct.of [aR 201, aI 107] rfl ?_, sw_at _ _ _, ⟨_, _, _, _, (sw_ne (by decide)).trans (sw_at _ _ _)⟩, NO.rf.t.s⟩
    refine r_aldR cd_37_0 rfl rfl ?_
    refine r_get cd_37_1 rfl hS rfl ?_
    refine r_cV c1 cd_37_4 rfl rfl rfl (rc0 hO rfl) rfl rfl rfl ?_
    refine r_aldR cd_37_7 rfl rfl ?_
    refine r_get cd_37_8 rfl ((sw_ne (by decide)).trans hS) rfl ?_
    refine r_get cd_37_11 rfl (sw_at _ _ _) rfl ?_
    refine r_con (v := 2) cd_37_14 rfl (by decide) ?_
    refine r_ic61 cd_37_15 rfl ⟨by omega, by omega⟩ ⟨by omega, by omega⟩ (fun n1 => ?_) (fun n1 => ?_)
    · exact absurd (hk3.mp n1) hk
    · refine r_aldR cd_37_18 rfl rfl ?_
      refine r_con (v := 1) cd_37_19 rfl (by decide) ?_
      refine r_cI (k_36 dp ex ek eo ((sw_ne (by decide)).trans hS) N _ _ _ _ (sw_at _ _ _) 1) cd_37_20 rfl rfl rfl (rc0 ((sw_ne (by decide)).trans hS) rfl) rfl rfl rfl ?_
      exact r_ret cd_37_23 (Or.inl rfl) (rfl)
  have hvv := hv hk
  have hvr : inR vl' := by rw [hvv]; exact tVal_in hb hk
  have nk : ¬ ¬ tKnd tx N i = 3 := fun e => e hk
  have es : (!decide (foundP w (va 0) vl' = -1) && decide (0 ≤ vl' ∧ vl' ≤ 99)) = true ↔ ¬ foundP w ((x : Nat) : Int) (tVal tx N i) = -1 ∧ (0 ≤ tVal tx N i ∧ tVal tx N i ≤ 99) := by rw [hvv, hv0]; simp
  by_cases hs : ¬ foundP w ((x : Nat) : Int) (tVal tx N i) = -1 ∧ (0 ≤ tVal tx N i ∧ tVal tx N i ≤ 99)
  · rw [show clmA tx N i x w = .inr ((tVal tx N i).toNat, tEnd tx N i) by unfold clmA numA; rw [if_neg (fun e => hs.1 e.2), if_neg nk, if_pos hs.2]]
    have h0 : 0 ≤ tVal tx N i := by have := hs.2.1; omega
    refine ⟨(sw h 202 (TO N ((tOff tx N i : Nat) : Int) ((tEnd tx N i : Nat) : Int) (kM (tKnd tx N i)) vl')), Ct.of [aR 201, aI 107] rfl ?_, (sw_ne (by decide)).trans hS, ⟨_, _, (sw_at _ _ _).trans (by rw [hvv]; show TO _ _ _ _ _ = TO _ _ _ _ (((tVal tx N i).toNat : Nat) : Int); rw [Int.toNat_of_nonneg h0])⟩, NO.rf.t⟩
    refine r_aldR cd_37_0 rfl rfl ?_
    refine r_get cd_37_1 rfl hS rfl ?_
    refine r_cV c1 cd_37_4 rfl rfl rfl (rc0 hO rfl) rfl rfl rfl ?_
    refine r_aldR cd_37_7 rfl rfl ?_
    refine r_get cd_37_8 rfl ((sw_ne (by decide)).trans hS) rfl ?_
    refine r_get cd_37_11 rfl (sw_at _ _ _) rfl ?_
    refine r_con (v := 2) cd_37_14 rfl (by decide) ?_
    refine r_ic61 cd_37_15 rfl ⟨by omega, by omega⟩ ⟨by omega, by omega⟩ (fun n1 => ?_) (fun n1 => ?_)
    · refine r_aldR cd_37_24 rfl rfl ?_
      refine r_ild cd_37_25 rfl rfl ?_
      refine r_aldR cd_37_26 rfl rfl ?_
      refine r_get cd_37_27 rfl ((sw_ne (by decide)).trans hS) rfl ?_
      refine r_get cd_37_30 rfl (sw_at _ _ _) rfl ?_
      refine r_cI (k_38_k dp ex ek eo ((sw_ne (by decide)).trans hS) R1 hI ((sw_ne (by decide)).trans hV) (by rw [hv0]; exact ⟨by omega, by omega⟩) vl' hvr) cd_37_33 rfl rfl rfl (rc0 ((sw_ne (by decide)).trans hS) rfl) rfl rfl rfl ?_
      refine r_if52b cd_37_36 rfl (fun n2 => ?_) (fun n2 => ?_)
      · exact Bool.noConfusion (n2.symm.trans (es.mpr hs))
      · refine r_con (v := 1) cd_37_47 rfl (by decide) ?_
        refine r_goto cd_37_48 ?_
        exact r_ret cd_37_52 (Or.inr rfl) (rfl)
    · exact absurd (hk3.mpr hk) n1
  · rw [show clmA tx N i x w = .inl (2, ((tOff tx N i : Nat) : Int)) by unfold clmA numA; by_cases e9 : foundP w ((x : Nat) : Int) (tVal tx N i) = -1; rw [if_pos ⟨hk, e9⟩]; rw [if_neg (fun e => e9 e.2), if_neg nk, if_neg (fun e => hs ⟨e9, e⟩)]]
    refine ⟨sw (sw h 202 (TO N ((tOff tx N i : Nat) : Int) ((tEnd tx N i : Nat) : Int) (kM (tKnd tx N i)) vl')) 201 (SO dp ex 2 ((tOff tx N i : Nat) : Int)), Ct.of [aR 201, aI 107] rfl ?_, sw_at _ _ _, ⟨_, _, _, _, (sw_ne (by decide)).trans (sw_at _ _ _)⟩, NO.rf.t.s⟩
    refine r_aldR cd_37_0 rfl rfl ?_
    refine r_get cd_37_1 rfl hS rfl ?_
    refine r_cV c1 cd_37_4 rfl rfl rfl (rc0 hO rfl) rfl rfl rfl ?_
    refine r_aldR cd_37_7 rfl rfl ?_
    refine r_get cd_37_8 rfl ((sw_ne (by decide)).trans hS) rfl ?_
    refine r_get cd_37_11 rfl (sw_at _ _ _) rfl ?_
    refine r_con (v := 2) cd_37_14 rfl (by decide) ?_
    refine r_ic61 cd_37_15 rfl ⟨by omega, by omega⟩ ⟨by omega, by omega⟩ (fun n1 => ?_) (fun n1 => ?_)
    · refine r_aldR cd_37_24 rfl rfl ?_
      refine r_ild cd_37_25 rfl rfl ?_
      refine r_aldR cd_37_26 rfl rfl ?_
      refine r_get cd_37_27 rfl ((sw_ne (by decide)).trans hS) rfl ?_
      refine r_get cd_37_30 rfl (sw_at _ _ _) rfl ?_
      refine r_cI (k_38_k dp ex ek eo ((sw_ne (by decide)).trans hS) R1 hI ((sw_ne (by decide)).trans hV) (by rw [hv0]; exact ⟨by omega, by omega⟩) vl' hvr) cd_37_33 rfl rfl rfl (rc0 ((sw_ne (by decide)).trans hS) rfl) rfl rfl rfl ?_
      refine r_if52b cd_37_36 rfl (fun n2 => ?_) (fun n2 => ?_)
      · refine r_aldR cd_37_39 rfl rfl ?_
        refine r_con (v := 2) cd_37_40 rfl (by decide) ?_
        refine r_cI (k_36 dp ex ek eo ((sw_ne (by decide)).trans hS) N _ _ _ _ (sw_at _ _ _) 2) cd_37_41 rfl rfl rfl (rc0 ((sw_ne (by decide)).trans hS) rfl) rfl rfl rfl ?_
        refine r_if51 cd_37_44 rfl ⟨by omega, by omega⟩ (fun n3 => ?_) (fun n3 => ?_)
        · refine r_con (v := 0) cd_37_51 rfl (by decide) ?_
          exact r_ret cd_37_52 (Or.inl rfl) (rfl)
        · exact absurd n3 (by decide)
      · exact absurd (es.mp n2) hs
    · exact absurd (hk3.mpr hk) n1
theorem v_37_t {h : aH} {tx tb : Nat → Int} {N : Nat} (hN : N ≤ 600) (hT : ∀ k, k < N → BT (tx k) (tb k)) (dp ex ek eo : Int) (hS : h.2.2 201 = SO dp ex ek eo) {w : Nat → Int} (hR : Rp h 204 w) (hI : Inv0 w) {va : Nat → Int} (hV : h.2.2 222 = .inl (0, 4, .inl va)) (hb : TxB tx) (st kd vl : Int) (i : Nat) (hi : i ≤ N) (hO : h.2.2 202 = TO N st ((i : Nat) : Int) kd vl) (hB : h.2.2 203 = .inl (1, 600, .inl tb)) : NumP 4 37 [aR 201, aI 116] h N dp ex ek eo (numA tx N i 1 24) := by
  obtain ⟨c, ⟨o0, o1, o2, o3, o4, o5, o6, o7, o8, o9, o10, o11, o12, o13, o14, o15, o16, o17⟩, a0, a1, a2, a3, a4, a5, a6, a7, a8, a9, a10, a11, a12, a13, a14⟩ := id hR
  obtain ⟨vl', c1, hv⟩ := v_64 hN hT st kd vl i hi hO hB
  have hkb := kM_b (k := tKnd tx N i)
  have hk3 := kM_3 (tx := tx) (N := N) (i := i)
  have R1 : Rp (sw h 202 (TO N ((tOff tx N i : Nat) : Int) ((tEnd tx N i : Nat) : Int) (kM (tKnd tx N i)) vl')) 204 w := (NO.rf.t).rp hR
  by_cases hk : tKnd tx N i = 3
  rotate_left
  · rw [show numA tx N i 1 24 = .inl (1, ((tOff tx N i : Nat) : Int)) by unfold numA; rw [if_pos hk]]
    refine ⟨sw (sw h 202 (TO N ((tOff tx N i : Nat) : Int) ((tEnd tx N i : Nat) : Int) (kM (tKnd tx N i)) vl')) 201 (SO dp ex 1 ((tOff tx N i : Nat) : Int)), Ct.of [aR 201, aI 116] rfl ?_, sw_at _ _ _, ⟨_, _, _, _, (sw_ne (by decide)).trans (sw_at _ _ _)⟩, NO.rf.t.s⟩
    refine r_aldR cd_37_0 rfl rfl ?_
    refine r_get cd_37_1 rfl hS rfl ?_
    refine r_cV c1 cd_37_4 rfl rfl rfl (rc0 hO rfl) rfl rfl rfl ?_
    refine r_aldR cd_37_7 rfl rfl ?_
    refine r_get cd_37_8 rfl ((sw_ne (by decide)).trans hS) rfl ?_
    refine r_get cd_37_11 rfl (sw_at _ _ _) rfl ?_
    refine r_con (v := 2) cd_37_14 rfl (by decide) ?_
    refine r_ic61 cd_37_15 rfl ⟨by omega, by omega⟩ ⟨by omega, by omega⟩ (fun n1 => ?_) (fun n1 => ?_)
    · exact absurd (hk3.mp n1) hk
    · refine r_aldR cd_37_18 rfl rfl ?_
      refine r_con (v := 1) cd_37_19 rfl (by decide) ?_
      refine r_cI (k_36 dp ex ek eo ((sw_ne (by decide)).trans hS) N _ _ _ _ (sw_at _ _ _) 1) cd_37_20 rfl rfl rfl (rc0 ((sw_ne (by decide)).trans hS) rfl) rfl rfl rfl ?_
      exact r_ret cd_37_23 (Or.inl rfl) (rfl)
  have hvv := hv hk
  have hvr : inR vl' := by rw [hvv]; exact tVal_in hb hk
  have nk : ¬ ¬ tKnd tx N i = 3 := fun e => e hk
  have es : (decide (1 ≤ vl' ∧ vl' ≤ 24)) = true ↔ 1 ≤ tVal tx N i ∧ tVal tx N i ≤ 24 := by rw [hvv]; simp
  by_cases hs : 1 ≤ tVal tx N i ∧ tVal tx N i ≤ 24
  · rw [show numA tx N i 1 24 = .inr ((tVal tx N i).toNat, tEnd tx N i) by unfold numA; rw [if_neg nk, if_pos hs]]
    have h0 : 0 ≤ tVal tx N i := by have := hs.1; omega
    refine ⟨(sw h 202 (TO N ((tOff tx N i : Nat) : Int) ((tEnd tx N i : Nat) : Int) (kM (tKnd tx N i)) vl')), Ct.of [aR 201, aI 116] rfl ?_, (sw_ne (by decide)).trans hS, ⟨_, _, (sw_at _ _ _).trans (by rw [hvv]; show TO _ _ _ _ _ = TO _ _ _ _ (((tVal tx N i).toNat : Nat) : Int); rw [Int.toNat_of_nonneg h0])⟩, NO.rf.t⟩
    refine r_aldR cd_37_0 rfl rfl ?_
    refine r_get cd_37_1 rfl hS rfl ?_
    refine r_cV c1 cd_37_4 rfl rfl rfl (rc0 hO rfl) rfl rfl rfl ?_
    refine r_aldR cd_37_7 rfl rfl ?_
    refine r_get cd_37_8 rfl ((sw_ne (by decide)).trans hS) rfl ?_
    refine r_get cd_37_11 rfl (sw_at _ _ _) rfl ?_
    refine r_con (v := 2) cd_37_14 rfl (by decide) ?_
    refine r_ic61 cd_37_15 rfl ⟨by omega, by omega⟩ ⟨by omega, by omega⟩ (fun n1 => ?_) (fun n1 => ?_)
    · refine r_aldR cd_37_24 rfl rfl ?_
      refine r_ild cd_37_25 rfl rfl ?_
      refine r_aldR cd_37_26 rfl rfl ?_
      refine r_get cd_37_27 rfl ((sw_ne (by decide)).trans hS) rfl ?_
      refine r_get cd_37_30 rfl (sw_at _ _ _) rfl ?_
      refine r_cI (k_38_t dp ex ek eo ((sw_ne (by decide)).trans hS) R1 hI ((sw_ne (by decide)).trans hV) vl' hvr) cd_37_33 rfl rfl rfl (rc0 ((sw_ne (by decide)).trans hS) rfl) rfl rfl rfl ?_
      refine r_if52b cd_37_36 rfl (fun n2 => ?_) (fun n2 => ?_)
      · exact Bool.noConfusion (n2.symm.trans (es.mpr hs))
      · refine r_con (v := 1) cd_37_47 rfl (by decide) ?_
        refine r_goto cd_37_48 ?_
        exact r_ret cd_37_52 (Or.inr rfl) (rfl)
    · exact absurd (hk3.mpr hk) n1
  · rw [show numA tx N i 1 24 = .inl (2, ((tOff tx N i : Nat) : Int)) by unfold numA; rw [if_neg nk, if_neg hs]]
    refine ⟨sw (sw h 202 (TO N ((tOff tx N i : Nat) : Int) ((tEnd tx N i : Nat) : Int) (kM (tKnd tx N i)) vl')) 201 (SO dp ex 2 ((tOff tx N i : Nat) : Int)), Ct.of [aR 201, aI 116] rfl ?_, sw_at _ _ _, ⟨_, _, _, _, (sw_ne (by decide)).trans (sw_at _ _ _)⟩, NO.rf.t.s⟩
    refine r_aldR cd_37_0 rfl rfl ?_
    refine r_get cd_37_1 rfl hS rfl ?_
    refine r_cV c1 cd_37_4 rfl rfl rfl (rc0 hO rfl) rfl rfl rfl ?_
    refine r_aldR cd_37_7 rfl rfl ?_
    refine r_get cd_37_8 rfl ((sw_ne (by decide)).trans hS) rfl ?_
    refine r_get cd_37_11 rfl (sw_at _ _ _) rfl ?_
    refine r_con (v := 2) cd_37_14 rfl (by decide) ?_
    refine r_ic61 cd_37_15 rfl ⟨by omega, by omega⟩ ⟨by omega, by omega⟩ (fun n1 => ?_) (fun n1 => ?_)
    · refine r_aldR cd_37_24 rfl rfl ?_
      refine r_ild cd_37_25 rfl rfl ?_
      refine r_aldR cd_37_26 rfl rfl ?_
      refine r_get cd_37_27 rfl ((sw_ne (by decide)).trans hS) rfl ?_
      refine r_get cd_37_30 rfl (sw_at _ _ _) rfl ?_
      refine r_cI (k_38_t dp ex ek eo ((sw_ne (by decide)).trans hS) R1 hI ((sw_ne (by decide)).trans hV) vl' hvr) cd_37_33 rfl rfl rfl (rc0 ((sw_ne (by decide)).trans hS) rfl) rfl rfl rfl ?_
      refine r_if52b cd_37_36 rfl (fun n2 => ?_) (fun n2 => ?_)
      · refine r_aldR cd_37_39 rfl rfl ?_
        refine r_con (v := 2) cd_37_40 rfl (by decide) ?_
        refine r_cI (k_36 dp ex ek eo ((sw_ne (by decide)).trans hS) N _ _ _ _ (sw_at _ _ _) 2) cd_37_41 rfl rfl rfl (rc0 ((sw_ne (by decide)).trans hS) rfl) rfl rfl rfl ?_
        refine r_if51 cd_37_44 rfl ⟨by omega, by omega⟩ (fun n3 => ?_) (fun n3 => ?_)
        · refine r_con (v := 0) cd_37_51 rfl (by decide) ?_
          exact r_ret cd_37_52 (Or.inl rfl) (rfl)
        · exact absurd n3 (by decide)
      · exact absurd (es.mp n2) hs
    · exact absurd (hk3.mpr hk) n1
theorem v_37_r {h : aH} {tx tb : Nat → Int} {N : Nat} (hN : N ≤ 600) (hT : ∀ k, k < N → BT (tx k) (tb k)) (dp ex ek eo : Int) (hS : h.2.2 201 = SO dp ex ek eo) {w : Nat → Int} (hR : Rp h 204 w) (hI : Inv0 w) {va : Nat → Int} (hV : h.2.2 222 = .inl (0, 4, .inl va)) (hb : TxB tx) (st kd vl : Int) (i : Nat) (hi : i ≤ N) (hO : h.2.2 202 = TO N st ((i : Nat) : Int) kd vl) (hB : h.2.2 203 = .inl (1, 600, .inl tb)) : NumP 4 37 [aR 201, aI 114] h N dp ex ek eo (numA tx N i 1 20) := by
  obtain ⟨c, ⟨o0, o1, o2, o3, o4, o5, o6, o7, o8, o9, o10, o11, o12, o13, o14, o15, o16, o17⟩, a0, a1, a2, a3, a4, a5, a6, a7, a8, a9, a10, a11, a12, a13, a14⟩ := id hR
  obtain ⟨vl', c1, hv⟩ := v_64 hN hT st kd vl i hi hO hB
  have hkb := kM_b (k := tKnd tx N i)
  have hk3 := kM_3 (tx := tx) (N := N) (i := i)
  have R1 : Rp (sw h 202 (TO N ((tOff tx N i : Nat) : Int) ((tEnd tx N i : Nat) : Int) (kM (tKnd tx N i)) vl')) 204 w := (NO.rf.t).rp hR
  by_cases hk : tKnd tx N i = 3
  rotate_left
  · rw [show numA tx N i 1 20 = .inl (1, ((tOff tx N i : Nat) : Int)) by unfold numA; rw [if_pos hk]]
    refine ⟨sw (sw h 202 (TO N ((tOff tx N i : Nat) : Int) ((tEnd tx N i : Nat) : Int) (kM (tKnd tx N i)) vl')) 201 (SO dp ex 1 ((tOff tx N i : Nat) : Int)), Ct.of [aR 201, aI 114] rfl ?_, sw_at _ _ _, ⟨_, _, _, _, (sw_ne (by decide)).trans (sw_at _ _ _)⟩, NO.rf.t.s⟩
    refine r_aldR cd_37_0 rfl rfl ?_
    refine r_get cd_37_1 rfl hS rfl ?_
    refine r_cV c1 cd_37_4 rfl rfl rfl (rc0 hO rfl) rfl rfl rfl ?_
    refine r_aldR cd_37_7 rfl rfl ?_
    refine r_get cd_37_8 rfl ((sw_ne (by decide)).trans hS) rfl ?_
    refine r_get cd_37_11 rfl (sw_at _ _ _) rfl ?_
    refine r_con (v := 2) cd_37_14 rfl (by decide) ?_
    refine r_ic61 cd_37_15 rfl ⟨by omega, by omega⟩ ⟨by omega, by omega⟩ (fun n1 => ?_) (fun n1 => ?_)
    · exact absurd (hk3.mp n1) hk
    · refine r_aldR cd_37_18 rfl rfl ?_
      refine r_con (v := 1) cd_37_19 rfl (by decide) ?_
      refine r_cI (k_36 dp ex ek eo ((sw_ne (by decide)).trans hS) N _ _ _ _ (sw_at _ _ _) 1) cd_37_20 rfl rfl rfl (rc0 ((sw_ne (by decide)).trans hS) rfl) rfl rfl rfl ?_
      exact r_ret cd_37_23 (Or.inl rfl) (rfl)
  have hvv := hv hk
  have hvr : inR vl' := by rw [hvv]; exact tVal_in hb hk
  have nk : ¬ ¬ tKnd tx N i = 3 := fun e => e hk
  have es : (decide (1 ≤ vl' ∧ vl' ≤ 20)) = true ↔ 1 ≤ tVal tx N i ∧ tVal tx N i ≤ 20 := by rw [hvv]; simp
  by_cases hs : 1 ≤ tVal tx N i ∧ tVal tx N i ≤ 20
  · rw [show numA tx N i 1 20 = .inr ((tVal tx N i).toNat, tEnd tx N i) by unfold numA; rw [if_neg nk, if_pos hs]]
    have h0 : 0 ≤ tVal tx N i := by have := hs.1; omega
    refine ⟨(sw h 202 (TO N ((tOff tx N i : Nat) : Int) ((tEnd tx N i : Nat) : Int) (kM (tKnd tx N i)) vl')), Ct.of [aR 201, aI 114] rfl ?_, (sw_ne (by decide)).trans hS, ⟨_, _, (sw_at _ _ _).trans (by rw [hvv]; show TO _ _ _ _ _ = TO _ _ _ _ (((tVal tx N i).toNat : Nat) : Int); rw [Int.toNat_of_nonneg h0])⟩, NO.rf.t⟩
    refine r_aldR cd_37_0 rfl rfl ?_
    refine r_get cd_37_1 rfl hS rfl ?_
    refine r_cV c1 cd_37_4 rfl rfl rfl (rc0 hO rfl) rfl rfl rfl ?_
    refine r_aldR cd_37_7 rfl rfl ?_
    refine r_get cd_37_8 rfl ((sw_ne (by decide)).trans hS) rfl ?_
    refine r_get cd_37_11 rfl (sw_at _ _ _) rfl ?_
    refine r_con (v := 2) cd_37_14 rfl (by decide) ?_
    refine r_ic61 cd_37_15 rfl ⟨by omega, by omega⟩ ⟨by omega, by omega⟩ (fun n1 => ?_) (fun n1 => ?_)
    · refine r_aldR cd_37_24 rfl rfl ?_
      refine r_ild cd_37_25 rfl rfl ?_
      refine r_aldR cd_37_26 rfl rfl ?_
      refine r_get cd_37_27 rfl ((sw_ne (by decide)).trans hS) rfl ?_
      refine r_get cd_37_30 rfl (sw_at _ _ _) rfl ?_
      refine r_cI (k_38_r dp ex ek eo ((sw_ne (by decide)).trans hS) R1 hI ((sw_ne (by decide)).trans hV) vl' hvr) cd_37_33 rfl rfl rfl (rc0 ((sw_ne (by decide)).trans hS) rfl) rfl rfl rfl ?_
      refine r_if52b cd_37_36 rfl (fun n2 => ?_) (fun n2 => ?_)
      · exact Bool.noConfusion (n2.symm.trans (es.mpr hs))
      · refine r_con (v := 1) cd_37_47 rfl (by decide) ?_
        refine r_goto cd_37_48 ?_
        exact r_ret cd_37_52 (Or.inr rfl) (rfl)
    · exact absurd (hk3.mpr hk) n1
  · rw [show numA tx N i 1 20 = .inl (2, ((tOff tx N i : Nat) : Int)) by unfold numA; rw [if_neg nk, if_neg hs]]
    refine ⟨sw (sw h 202 (TO N ((tOff tx N i : Nat) : Int) ((tEnd tx N i : Nat) : Int) (kM (tKnd tx N i)) vl')) 201 (SO dp ex 2 ((tOff tx N i : Nat) : Int)), Ct.of [aR 201, aI 114] rfl ?_, sw_at _ _ _, ⟨_, _, _, _, (sw_ne (by decide)).trans (sw_at _ _ _)⟩, NO.rf.t.s⟩
    refine r_aldR cd_37_0 rfl rfl ?_
    refine r_get cd_37_1 rfl hS rfl ?_
    refine r_cV c1 cd_37_4 rfl rfl rfl (rc0 hO rfl) rfl rfl rfl ?_
    refine r_aldR cd_37_7 rfl rfl ?_
    refine r_get cd_37_8 rfl ((sw_ne (by decide)).trans hS) rfl ?_
    refine r_get cd_37_11 rfl (sw_at _ _ _) rfl ?_
    refine r_con (v := 2) cd_37_14 rfl (by decide) ?_
    refine r_ic61 cd_37_15 rfl ⟨by omega, by omega⟩ ⟨by omega, by omega⟩ (fun n1 => ?_) (fun n1 => ?_)
    · refine r_aldR cd_37_24 rfl rfl ?_
      refine r_ild cd_37_25 rfl rfl ?_
      refine r_aldR cd_37_26 rfl rfl ?_
      refine r_get cd_37_27 rfl ((sw_ne (by decide)).trans hS) rfl ?_
      refine r_get cd_37_30 rfl (sw_at _ _ _) rfl ?_
      refine r_cI (k_38_r dp ex ek eo ((sw_ne (by decide)).trans hS) R1 hI ((sw_ne (by decide)).trans hV) vl' hvr) cd_37_33 rfl rfl rfl (rc0 ((sw_ne (by decide)).trans hS) rfl) rfl rfl rfl ?_
      refine r_if52b cd_37_36 rfl (fun n2 => ?_) (fun n2 => ?_)
      · refine r_aldR cd_37_39 rfl rfl ?_
        refine r_con (v := 2) cd_37_40 rfl (by decide) ?_
        refine r_cI (k_36 dp ex ek eo ((sw_ne (by decide)).trans hS) N _ _ _ _ (sw_at _ _ _) 2) cd_37_41 rfl rfl rfl (rc0 ((sw_ne (by decide)).trans hS) rfl) rfl rfl rfl ?_
        refine r_if51 cd_37_44 rfl ⟨by omega, by omega⟩ (fun n3 => ?_) (fun n3 => ?_)
        · refine r_con (v := 0) cd_37_51 rfl (by decide) ?_
          exact r_ret cd_37_52 (Or.inl rfl) (rfl)
        · exact absurd n3 (by decide)
      · exact absurd (es.mp n2) hs
    · exact absurd (hk3.mpr hk) n1
theorem kM_i {tx : Nat → Int} {N i : Nat} {r : Int} (h1 : 0 ≤ r) (h2 : r ≤ 6) : kM (tKnd tx N i) = kM r ↔ tKnd tx N i = r := by
  have h := tKnd_b (tx := tx) (N := N) (i := i)
  unfold kM
  repeat' split
  all_goals omega
theorem v_41_5a {h : aH} {tx tb : Nat → Int} {N : Nat} (hN : N ≤ 600) (hT : ∀ k, k < N → BT (tx k) (tb k)) (dp ex ek eo : Int) (hS : h.2.2 201 = SO dp ex ek eo) (st kd vl : Int) (i : Nat) (hi : i ≤ N) (hO : h.2.2 202 = TO N st ((i : Nat) : Int) kd vl) (hB : h.2.2 203 = .inl (1, 600, .inl tb)) (hk : tKnd tx N i = 1) : ∃ h', Ct 4 41 [aR 201, aI 5] h (.inl (some (aI 1)), h') ∧ h'.2.2 201 = SO dp ex ek eo ∧ (∃ kd vl, h'.2.2 202 = TO N ((tOff tx N i : Nat) : Int) ((tEnd tx N i : Nat) : Int) kd vl) ∧ NO h h' := by
  obtain ⟨vl', c1, hv⟩ := v_64 hN hT st kd vl i hi hO hB
  have hkb := kM_b (k := tKnd tx N i)
  have hki : kM (tKnd tx N i) = 5 ↔ tKnd tx N i = 1 := kM_i (r := 1) (by decide) (by decide)
  refine ⟨(sw h 202 (TO N ((tOff tx N i : Nat) : Int) ((tEnd tx N i : Nat) : Int) (kM (tKnd tx N i)) vl')), Ct.of [aR 201, aI 5] rfl ?_, (sw_ne (by decide)).trans hS, ⟨_, _, sw_at _ _ _⟩, NO.rf.t⟩
  refine r_aldR cd_41_0 rfl rfl ?_
  refine r_get cd_41_1 rfl hS rfl ?_
  refine r_cV c1 cd_41_4 rfl rfl rfl (rc0 hO rfl) rfl rfl rfl ?_
  refine r_aldR cd_41_7 rfl rfl ?_
  refine r_get cd_41_8 rfl ((sw_ne (by decide)).trans hS) rfl ?_
  refine r_get cd_41_11 rfl (sw_at _ _ _) rfl ?_
  refine r_ild cd_41_14 rfl rfl ?_
  refine r_ic61 cd_41_15 rfl ⟨by omega, by omega⟩ ⟨by omega, by omega⟩ (fun n1 => ?_) (fun n1 => ?_)
  · refine r_con (v := 1) cd_41_26 rfl (by decide) ?_
    refine r_goto cd_41_27 ?_
    exact r_ret cd_41_31 (Or.inr rfl) (rfl)
  · exact absurd (hki.mpr hk) n1
theorem v_41_5b {h : aH} {tx tb : Nat → Int} {N : Nat} (hN : N ≤ 600) (hT : ∀ k, k < N → BT (tx k) (tb k)) (dp ex ek eo : Int) (hS : h.2.2 201 = SO dp ex ek eo) (st kd vl : Int) (i : Nat) (hi : i ≤ N) (hO : h.2.2 202 = TO N st ((i : Nat) : Int) kd vl) (hB : h.2.2 203 = .inl (1, 600, .inl tb)) (hk : ¬ tKnd tx N i = 1) : ∃ h', Ct 4 41 [aR 201, aI 5] h (.inl (some (aI 0)), h') ∧ h'.2.2 201 = SO dp ex 1 ((tOff tx N i : Nat) : Int) ∧ (∃ st nx kd vl, h'.2.2 202 = TO N st nx kd vl) ∧ NO h h' := by
  obtain ⟨vl', c1, hv⟩ := v_64 hN hT st kd vl i hi hO hB
  have hkb := kM_b (k := tKnd tx N i)
  have hki : kM (tKnd tx N i) = 5 ↔ tKnd tx N i = 1 := kM_i (r := 1) (by decide) (by decide)
  refine ⟨sw (sw h 202 (TO N ((tOff tx N i : Nat) : Int) ((tEnd tx N i : Nat) : Int) (kM (tKnd tx N i)) vl')) 201 (SO dp ex 1 ((tOff tx N i : Nat) : Int)), Ct.of [aR 201, aI 5] rfl ?_, sw_at _ _ _, ⟨_, _, _, _, (sw_ne (by decide)).trans (sw_at _ _ _)⟩, NO.rf.t.s⟩
  refine r_aldR cd_41_0 rfl rfl ?_
  refine r_get cd_41_1 rfl hS rfl ?_
  refine r_cV c1 cd_41_4 rfl rfl rfl (rc0 hO rfl) rfl rfl rfl ?_
  refine r_aldR cd_41_7 rfl rfl ?_
  refine r_get cd_41_8 rfl ((sw_ne (by decide)).trans hS) rfl ?_
  refine r_get cd_41_11 rfl (sw_at _ _ _) rfl ?_
  refine r_ild cd_41_14 rfl rfl ?_
  refine r_ic61 cd_41_15 rfl ⟨by omega, by omega⟩ ⟨by omega, by omega⟩ (fun n1 => ?_) (fun n1 => ?_)
  · exact absurd (hki.mp n1) hk
  · refine r_aldR cd_41_18 rfl rfl ?_
    refine r_con (v := 1) cd_41_19 rfl (by decide) ?_
    refine r_cI (k_36 dp ex ek eo ((sw_ne (by decide)).trans hS) N _ _ _ _ (sw_at _ _ _) 1) cd_41_20 rfl rfl rfl (rc0 ((sw_ne (by decide)).trans hS) rfl) rfl rfl rfl ?_
    refine r_if51 cd_41_23 rfl ⟨by omega, by omega⟩ (fun n2 => ?_) (fun n2 => ?_)
    · refine r_con (v := 0) cd_41_30 rfl (by decide) ?_
      exact r_ret cd_41_31 (Or.inl rfl) (rfl)
    · exact absurd n2 (by decide)
theorem v_41_3a {h : aH} {tx tb : Nat → Int} {N : Nat} (hN : N ≤ 600) (hT : ∀ k, k < N → BT (tx k) (tb k)) (dp ex ek eo : Int) (hS : h.2.2 201 = SO dp ex ek eo) (st kd vl : Int) (i : Nat) (hi : i ≤ N) (hO : h.2.2 202 = TO N st ((i : Nat) : Int) kd vl) (hB : h.2.2 203 = .inl (1, 600, .inl tb)) (hk : tKnd tx N i = 4) : ∃ h', Ct 4 41 [aR 201, aI 3] h (.inl (some (aI 1)), h') ∧ h'.2.2 201 = SO dp ex ek eo ∧ (∃ kd vl, h'.2.2 202 = TO N ((tOff tx N i : Nat) : Int) ((tEnd tx N i : Nat) : Int) kd vl) ∧ NO h h' := by
  obtain ⟨vl', c1, hv⟩ := v_64 hN hT st kd vl i hi hO hB
  have hkb := kM_b (k := tKnd tx N i)
  have hki : kM (tKnd tx N i) = 3 ↔ tKnd tx N i = 4 := kM_i (r := 4) (by decide) (by decide)
  refine ⟨(sw h 202 (TO N ((tOff tx N i : Nat) : Int) ((tEnd tx N i : Nat) : Int) (kM (tKnd tx N i)) vl')), Ct.of [aR 201, aI 3] rfl ?_, (sw_ne (by decide)).trans hS, ⟨_, _, sw_at _ _ _⟩, NO.rf.t⟩
  refine r_aldR cd_41_0 rfl rfl ?_
  refine r_get cd_41_1 rfl hS rfl ?_
  refine r_cV c1 cd_41_4 rfl rfl rfl (rc0 hO rfl) rfl rfl rfl ?_
  refine r_aldR cd_41_7 rfl rfl ?_
  refine r_get cd_41_8 rfl ((sw_ne (by decide)).trans hS) rfl ?_
  refine r_get cd_41_11 rfl (sw_at _ _ _) rfl ?_
  refine r_ild cd_41_14 rfl rfl ?_
  refine r_ic61 cd_41_15 rfl ⟨by omega, by omega⟩ ⟨by omega, by omega⟩ (fun n1 => ?_) (fun n1 => ?_)
  · refine r_con (v := 1) cd_41_26 rfl (by decide) ?_
    refine r_goto cd_41_27 ?_
    exact r_ret cd_41_31 (Or.inr rfl) (rfl)
  · exact absurd (hki.mpr hk) n1
theorem v_41_3b {h : aH} {tx tb : Nat → Int} {N : Nat} (hN : N ≤ 600) (hT : ∀ k, k < N → BT (tx k) (tb k)) (dp ex ek eo : Int) (hS : h.2.2 201 = SO dp ex ek eo) (st kd vl : Int) (i : Nat) (hi : i ≤ N) (hO : h.2.2 202 = TO N st ((i : Nat) : Int) kd vl) (hB : h.2.2 203 = .inl (1, 600, .inl tb)) (hk : ¬ tKnd tx N i = 4) : ∃ h', Ct 4 41 [aR 201, aI 3] h (.inl (some (aI 0)), h') ∧ h'.2.2 201 = SO dp ex 1 ((tOff tx N i : Nat) : Int) ∧ (∃ st nx kd vl, h'.2.2 202 = TO N st nx kd vl) ∧ NO h h' := by
  obtain ⟨vl', c1, hv⟩ := v_64 hN hT st kd vl i hi hO hB
  have hkb := kM_b (k := tKnd tx N i)
  have hki : kM (tKnd tx N i) = 3 ↔ tKnd tx N i = 4 := kM_i (r := 4) (by decide) (by decide)
  refine ⟨sw (sw h 202 (TO N ((tOff tx N i : Nat) : Int) ((tEnd tx N i : Nat) : Int) (kM (tKnd tx N i)) vl')) 201 (SO dp ex 1 ((tOff tx N i : Nat) : Int)), Ct.of [aR 201, aI 3] rfl ?_, sw_at _ _ _, ⟨_, _, _, _, (sw_ne (by decide)).trans (sw_at _ _ _)⟩, NO.rf.t.s⟩
  refine r_aldR cd_41_0 rfl rfl ?_
  refine r_get cd_41_1 rfl hS rfl ?_
  refine r_cV c1 cd_41_4 rfl rfl rfl (rc0 hO rfl) rfl rfl rfl ?_
  refine r_aldR cd_41_7 rfl rfl ?_
  refine r_get cd_41_8 rfl ((sw_ne (by decide)).trans hS) rfl ?_
  refine r_get cd_41_11 rfl (sw_at _ _ _) rfl ?_
  refine r_ild cd_41_14 rfl rfl ?_
  refine r_ic61 cd_41_15 rfl ⟨by omega, by omega⟩ ⟨by omega, by omega⟩ (fun n1 => ?_) (fun n1 => ?_)
  · exact absurd (hki.mp n1) hk
  · refine r_aldR cd_41_18 rfl rfl ?_
    refine r_con (v := 1) cd_41_19 rfl (by decide) ?_
    refine r_cI (k_36 dp ex ek eo ((sw_ne (by decide)).trans hS) N _ _ _ _ (sw_at _ _ _) 1) cd_41_20 rfl rfl rfl (rc0 ((sw_ne (by decide)).trans hS) rfl) rfl rfl rfl ?_
    refine r_if51 cd_41_23 rfl ⟨by omega, by omega⟩ (fun n2 => ?_) (fun n2 => ?_)
    · refine r_con (v := 0) cd_41_30 rfl (by decide) ?_
      exact r_ret cd_41_31 (Or.inl rfl) (rfl)
    · exact absurd n2 (by decide)
