/-! THE LAW: results named late; cell, sum (written by wip/p66/gen84.py) -/
def RX (K y : Nat) (P : aRes → Prop) (s : aSt) : Prop := ∃ res, P res ∧ RU K y res s
theorem RX.st {K y : Nat} {P : aRes → Prop} {s s' : aSt} (f : ∀ res, RU K y res s' → RU K y res s) (k : RX K y P s') : RX K y P s := by
  obtain ⟨res, h1, h2⟩ := k
  exact ⟨res, h1, f res h2⟩
theorem RX.br {K y : Nat} {P : aRes → Prop} {s s1 s2 : aSt} {c : Prop} (f : ∀ res, (c → RU K y res s1) → (¬ c → RU K y res s2) → RU K y res s) (k1 : c → RX K y P s1) (k2 : ¬ c → RX K y P s2) : RX K y P s := by
  by_cases e : c
  · obtain ⟨res, h1, h2⟩ := k1 e
    exact ⟨res, h1, f res (fun _ => h2) (fun n => absurd e n)⟩
  · obtain ⟨res, h1, h2⟩ := k2 e
    exact ⟨res, h1, f res (fun n => absurd n e) (fun _ => h2)⟩
theorem Ct.ofx {K y : Nat} {args : List aV} {h : aH} {P : aRes → Prop} (L : List aV) (hL : entL y args = L) (k : RX (K + 1) y P (0, L, [], 0, 0, h)) : ∃ res, P res ∧ Ct (K + 1) y args h res := by
  obtain ⟨res, h1, h2⟩ := k
  exact ⟨res, h1, Ct.of L hL h2⟩
def cel (h : aH) (k : Nat) : Int := if k < h.1.1 then h.1.2 k else 0
theorem y_331 {h : aH} (hn : h.1.1 ≤ 260) (k : Nat) (hk : k < 100) : Ct 1 331 [aC 0, aI ((k : Nat) : Int)] h (.inl (some (aI (cel h k))), h) := by
  refine Ct.of [aC 0, aI ((k : Nat) : Int)] rfl ?_
  refine r_ild cd_331_0 rfl rfl ?_
  refine r_aldC cd_331_1 rfl rfl ?_
  refine r_lenS cd_331_2 rfl ?_
  refine r_ic64 cd_331_3 rfl ⟨by omega, by omega⟩ ⟨by omega, by omega⟩ (fun n1 => ?_) (fun n1 => ?_)
  · refine r_aldC cd_331_6 rfl rfl ?_
    refine r_ild cd_331_7 rfl rfl ?_
    refine r_arrS (i := k) cd_331_8 rfl rfl rfl (by omega) (by omega) ?_
    refine r_goto cd_331_9 ?_
    exact r_ret cd_331_13 True.intro (rI (by unfold cel; rw [if_pos (by omega)]))
  · refine r_con (v := 0) cd_331_12 rfl (by decide) ?_
    exact r_ret cd_331_13 True.intro (rI (by unfold cel; rw [if_neg (by omega)]))
def lg (x : Int) : Int64 := (i32 x).toInt64
def sm0 (w : Nat → Int) : Int64 := lg (w 1) + Int64.ofNat 1000 * lg (w 2) + Int64.ofNat 7 * lg (w 7) + Int64.ofNat 11 * lg (w 8)
def smB (w : Nat → Int) (b : Nat) (a : Int64) : Int64 := Int64.ofNat 31 * a + lg (bo w b 0) + Int64.ofNat 50 * lg (bo w b 1) + Int64.ofNat 2000 * lg (bo w b 3) + Int64.ofNat 3 * lg (bo w b 2)
def smP (w : Nat → Int) (p : Nat) (a : Int64) : Int64 := Int64.ofNat 31 * a + lg (plOf w p) + Int64.ofNat 50 * lg (pa w p 4) + Int64.ofNat 200 * lg (pa w p 0) + Int64.ofNat 3000 * lg (carr w p)
def smQ (w : Nat → Int) (x : Nat) (a : Int64) : Int64 := Int64.ofNat 31 * a + lg (w (23 + x)) + Int64.ofNat 10 * lg (w (53 + x))
def smF (w : Nat → Int) : Int64 := itF (smQ w) 0 (w 0).toNat (itF (smP w) 0 (nP w) (itF (smB w) 0 (nB w) (sm0 w)))
theorem plOf_R {w : Nat → Int} (hI : Inv0 w) {p : Nat} (hp : p < nP w) : inR (plOf w p) := by
  have h1 := (hI.ps p hp).2.2.2.2
  have h2 := hI.len
  unfold plOf
  split
  · exact ⟨by omega, by omega⟩
  · split
    · exact hI.boR (b := (pa w p 5).toNat) (k := 0) (by have := hI.bNe; omega) (by decide)
    · exact ⟨by decide, by decide⟩
section SUM
variable {h : aH} {w : Nat → Int} {ps : List (Nat → Int)} {kp : Option (Nat → Int)} {T : Nat} {bu : Nat → Int} {ek eo : Int} {rl : Nat} {rp : Nat → Int}
theorem lq_335 (C : CR h w ps kp T bu ek eo rl rp) (hI : Inv0 w) : ∀ (m i : Nat) (acc : Int64), i + m = (w 0).toNat → RU 4 335 (.inl (some (aW (.long (itF (smQ w) i m acc)))), h) (162, [aR 0, aW (.long acc), aU, aI ((i : Nat) : Int)], [], 0, 0, h) := by
  have hbn := hI.bNe
  have hpn := hI.pNe
  have x0 := hI.len
  have x1 := hI.hour
  have x2 := hI.gas
  have x5 := hI.bn
  have x6 := hI.pn
  obtain ⟨h0, -⟩ := id C
  intro m
  induction m with
  | zero =>
    intro i acc hm
    refine r_ild cd_335_162 rfl rfl ?_
    refine r_aldR cd_335_163 rfl rfl ?_
    refine r_cI (x_114 C hI) cd_335_164 rfl rfl rfl (rc0 h0 rfl) rfl rfl rfl ?_
    refine r_ic64 cd_335_167 rfl ⟨by omega, by omega⟩ (inR_of hI.len (by decide) (by decide)) (fun n1 => ?_) (fun n1 => ?_)
    · exact absurd n1 (by omega)
    · refine r_llo cd_335_200 rfl rfl ?_
      exact r_ret cd_335_201 True.intro (rfl)
  | succ m ih =>
    intro i acc hm
    refine r_ild cd_335_162 rfl rfl ?_
    refine r_aldR cd_335_163 rfl rfl ?_
    refine r_cI (x_114 C hI) cd_335_164 rfl rfl rfl (rc0 h0 rfl) rfl rfl rfl ?_
    refine r_ic64 cd_335_167 rfl ⟨by omega, by omega⟩ (inR_of hI.len (by decide) (by decide)) (fun n1 => ?_) (fun n1 => ?_)
    · refine r_ldc2 cd_335_170 rfl rfl ?_
      refine r_llo cd_335_173 rfl rfl ?_
      refine r_lmul cd_335_174 rfl rfl ?_
      refine r_aldR cd_335_175 rfl rfl ?_
      refine r_ild cd_335_176 rfl rfl ?_
      refine r_cI (x_150 C hI i (isPl_iff.mpr ⟨by omega, by omega⟩)) cd_335_177 rfl rfl rfl (rc0 h0 rfl) rfl rfl rfl ?_
      refine r_i2l cd_335_180 rfl ?_
      refine r_ladd cd_335_181 rfl rfl ?_
      refine r_ldc2 cd_335_182 rfl rfl ?_
      refine r_aldR cd_335_185 rfl rfl ?_
      refine r_ild cd_335_186 rfl rfl ?_
      refine r_cI (x_151 C hI i (isPl_iff.mpr ⟨by omega, by omega⟩)) cd_335_187 rfl rfl rfl (rc0 h0 rfl) rfl rfl rfl ?_
      refine r_i2l cd_335_190 rfl ?_
      refine r_lmul cd_335_191 rfl rfl ?_
      refine r_ladd cd_335_192 rfl rfl ?_
      refine r_lsto cd_335_193 rfl rfl (L' := [aR 0, aW (.long ((((Int64.ofNat 31) * acc) + ((i32 (w (23 + i))).toInt64)) + ((Int64.ofNat 10) * ((i32 (w (53 + i))).toInt64)))), aU, aI ((i : Nat) : Int)]) rfl ?_
      refine r_inc (v := ((i + 1 : Nat) : Int)) cd_335_194 rfl rfl rfl (by omega) (L' := [aR 0, aW (.long ((((Int64.ofNat 31) * acc) + ((i32 (w (23 + i))).toInt64)) + ((Int64.ofNat 10) * ((i32 (w (53 + i))).toInt64)))), aU, aI ((i + 1 : Nat) : Int)]) rfl ?_
      refine r_goto cd_335_197 ?_
      exact ih (i + 1) _ (by omega)
    · exact absurd n1 (by omega)
theorem lp_335 (C : CR h w ps kp T bu ek eo rl rp) (hI : Inv0 w) : ∀ (m i : Nat) (acc : Int64), i + m = nP w → RU 4 335 (.inl (some (aW (.long (itF (smQ w) 0 (w 0).toNat (itF (smP w) i m acc))))), h) (100, [aR 0, aW (.long acc), aU, aI ((i : Nat) : Int)], [], 0, 0, h) := by
  have hbn := hI.bNe
  have hpn := hI.pNe
  have x0 := hI.len
  have x1 := hI.hour
  have x2 := hI.gas
  have x5 := hI.bn
  have x6 := hI.pn
  obtain ⟨h0, -⟩ := id C
  intro m
  induction m with
  | zero =>
    intro i acc hm
    refine r_ild cd_335_100 rfl rfl ?_
    refine r_aldR cd_335_101 rfl rfl ?_
    refine r_cI (x_118 C hI) cd_335_102 rfl rfl rfl (rc0 h0 rfl) rfl rfl rfl ?_
    refine r_ic64 cd_335_105 rfl ⟨by omega, by omega⟩ (inR_of hI.pn (by decide) (by decide)) (fun n1 => ?_) (fun n1 => ?_)
    · exact absurd n1 (by omega)
    · refine r_con (v := 0) cd_335_160 rfl (by decide) ?_
      refine r_ist cd_335_161 rfl rfl (L' := [aR 0, aW (.long acc), aU, aI 0]) rfl ?_
      exact lq_335 C hI (w 0).toNat 0 acc (by omega)
  | succ m ih =>
    intro i acc hm
    refine r_ild cd_335_100 rfl rfl ?_
    refine r_aldR cd_335_101 rfl rfl ?_
    refine r_cI (x_118 C hI) cd_335_102 rfl rfl rfl (rc0 h0 rfl) rfl rfl rfl ?_
    refine r_ic64 cd_335_105 rfl ⟨by omega, by omega⟩ (inR_of hI.pn (by decide) (by decide)) (fun n1 => ?_) (fun n1 => ?_)
    · refine r_ldc2 cd_335_108 rfl rfl ?_
      refine r_llo cd_335_111 rfl rfl ?_
      refine r_lmul cd_335_112 rfl rfl ?_
      refine r_aldR cd_335_113 rfl rfl ?_
      refine r_ild cd_335_114 rfl rfl ?_
      refine r_cI (x_165 C hI i (isPa_iff.mpr ⟨by omega, by omega⟩)) cd_335_115 rfl rfl rfl (rc0 h0 rfl) rfl rfl rfl ?_
      refine r_i2l cd_335_118 rfl ?_
      refine r_ladd cd_335_119 rfl rfl ?_
      refine r_ldc2 cd_335_120 rfl rfl ?_
      refine r_aldR cd_335_123 rfl rfl ?_
      refine r_ild cd_335_124 rfl rfl ?_
      refine r_cI (x_163 C hI i (isPa_iff.mpr ⟨by omega, by omega⟩)) cd_335_125 rfl rfl rfl (rc0 h0 rfl) rfl rfl rfl ?_
      refine r_i2l cd_335_128 rfl ?_
      refine r_lmul cd_335_129 rfl rfl ?_
      refine r_ladd cd_335_130 rfl rfl ?_
      refine r_ldc2 cd_335_131 rfl rfl ?_
      refine r_aldR cd_335_134 rfl rfl ?_
      refine r_ild cd_335_135 rfl rfl ?_
      refine r_cI (x_161 C hI i (isPa_iff.mpr ⟨by omega, by omega⟩)) cd_335_136 rfl rfl rfl (rc0 h0 rfl) rfl rfl rfl ?_
      refine r_i2l cd_335_139 rfl ?_
      refine r_lmul cd_335_140 rfl rfl ?_
      refine r_ladd cd_335_141 rfl rfl ?_
      refine r_ldc2 cd_335_142 rfl rfl ?_
      refine r_aldR cd_335_145 rfl rfl ?_
      refine r_ild cd_335_146 rfl rfl ?_
      refine r_cI (x_164 C hI i (isPa_iff.mpr ⟨by omega, by omega⟩)) cd_335_147 rfl rfl rfl (rc0 h0 rfl) rfl rfl rfl ?_
      refine r_i2l cd_335_150 rfl ?_
      refine r_lmul cd_335_151 rfl rfl ?_
      refine r_ladd cd_335_152 rfl rfl ?_
      refine r_lsto cd_335_153 rfl rfl (L' := [aR 0, aW (.long ((((((Int64.ofNat 31) * acc) + ((i32 (plOf w i)).toInt64)) + ((Int64.ofNat 50) * ((i32 (pa w i 4)).toInt64))) + ((Int64.ofNat 200) * ((i32 (pa w i 0)).toInt64))) + ((Int64.ofNat 3000) * ((i32 (carr w i)).toInt64)))), aU, aI ((i : Nat) : Int)]) rfl ?_
      refine r_inc (v := ((i + 1 : Nat) : Int)) cd_335_154 rfl rfl rfl (by omega) (L' := [aR 0, aW (.long ((((((Int64.ofNat 31) * acc) + ((i32 (plOf w i)).toInt64)) + ((Int64.ofNat 50) * ((i32 (pa w i 4)).toInt64))) + ((Int64.ofNat 200) * ((i32 (pa w i 0)).toInt64))) + ((Int64.ofNat 3000) * ((i32 (carr w i)).toInt64)))), aU, aI ((i + 1 : Nat) : Int)]) rfl ?_
      refine r_goto cd_335_157 ?_
      exact ih (i + 1) _ (by omega)
    · exact absurd n1 (by omega)
theorem lb_335 (C : CR h w ps kp T bu ek eo rl rp) (hI : Inv0 w) : ∀ (m i : Nat) (acc : Int64), i + m = nB w → RU 4 335 (.inl (some (aW (.long (itF (smQ w) 0 (w 0).toNat (itF (smP w) 0 (nP w) (itF (smB w) i m acc)))))), h) (38, [aR 0, aW (.long acc), aU, aI ((i : Nat) : Int)], [], 0, 0, h) := by
  have hbn := hI.bNe
  have hpn := hI.pNe
  have x0 := hI.len
  have x1 := hI.hour
  have x2 := hI.gas
  have x5 := hI.bn
  have x6 := hI.pn
  obtain ⟨h0, -⟩ := id C
  intro m
  induction m with
  | zero =>
    intro i acc hm
    refine r_ild cd_335_38 rfl rfl ?_
    refine r_aldR cd_335_39 rfl rfl ?_
    refine r_cI (x_117 C hI) cd_335_40 rfl rfl rfl (rc0 h0 rfl) rfl rfl rfl ?_
    refine r_ic64 cd_335_43 rfl ⟨by omega, by omega⟩ (inR_of hI.bn (by decide) (by decide)) (fun n1 => ?_) (fun n1 => ?_)
    · exact absurd n1 (by omega)
    · refine r_con (v := 0) cd_335_98 rfl (by decide) ?_
      refine r_ist cd_335_99 rfl rfl (L' := [aR 0, aW (.long acc), aU, aI 0]) rfl ?_
      exact lp_335 C hI (nP w) 0 acc (by omega)
  | succ m ih =>
    intro i acc hm
    refine r_ild cd_335_38 rfl rfl ?_
    refine r_aldR cd_335_39 rfl rfl ?_
    refine r_cI (x_117 C hI) cd_335_40 rfl rfl rfl (rc0 h0 rfl) rfl rfl rfl ?_
    refine r_ic64 cd_335_43 rfl ⟨by omega, by omega⟩ (inR_of hI.bn (by decide) (by decide)) (fun n1 => ?_) (fun n1 => ?_)
    · refine r_ldc2 cd_335_46 rfl rfl ?_
      refine r_llo cd_335_49 rfl rfl ?_
      refine r_lmul cd_335_50 rfl rfl ?_
      refine r_aldR cd_335_51 rfl rfl ?_
      refine r_ild cd_335_52 rfl rfl ?_
      refine r_cI (x_154 C hI i (isBa_iff.mpr ⟨by omega, by omega⟩)) cd_335_53 rfl rfl rfl (rc0 h0 rfl) rfl rfl rfl ?_
      refine r_i2l cd_335_56 rfl ?_
      refine r_ladd cd_335_57 rfl rfl ?_
      refine r_ldc2 cd_335_58 rfl rfl ?_
      refine r_aldR cd_335_61 rfl rfl ?_
      refine r_ild cd_335_62 rfl rfl ?_
      refine r_cI (x_155 C hI i (isBa_iff.mpr ⟨by omega, by omega⟩)) cd_335_63 rfl rfl rfl (rc0 h0 rfl) rfl rfl rfl ?_
      refine r_i2l cd_335_66 rfl ?_
      refine r_lmul cd_335_67 rfl rfl ?_
      refine r_ladd cd_335_68 rfl rfl ?_
      refine r_ldc2 cd_335_69 rfl rfl ?_
      refine r_aldR cd_335_72 rfl rfl ?_
      refine r_ild cd_335_73 rfl rfl ?_
      refine r_cI (x_159 C hI i (isBa_iff.mpr ⟨by omega, by omega⟩)) cd_335_74 rfl rfl rfl (rc0 h0 rfl) rfl rfl rfl ?_
      refine r_i2l cd_335_77 rfl ?_
      refine r_lmul cd_335_78 rfl rfl ?_
      refine r_ladd cd_335_79 rfl rfl ?_
      refine r_ldc2 cd_335_80 rfl rfl ?_
      refine r_aldR cd_335_83 rfl rfl ?_
      refine r_ild cd_335_84 rfl rfl ?_
      refine r_cI (x_156 C hI i (isBa_iff.mpr ⟨by omega, by omega⟩)) cd_335_85 rfl rfl rfl (rc0 h0 rfl) rfl rfl rfl ?_
      refine r_i2l cd_335_88 rfl ?_
      refine r_lmul cd_335_89 rfl rfl ?_
      refine r_ladd cd_335_90 rfl rfl ?_
      refine r_lsto cd_335_91 rfl rfl (L' := [aR 0, aW (.long ((((((Int64.ofNat 31) * acc) + ((i32 (bo w i 0)).toInt64)) + ((Int64.ofNat 50) * ((i32 (bo w i 1)).toInt64))) + ((Int64.ofNat 2000) * ((i32 (bo w i 3)).toInt64))) + ((Int64.ofNat 3) * ((i32 (bo w i 2)).toInt64)))), aU, aI ((i : Nat) : Int)]) rfl ?_
      refine r_inc (v := ((i + 1 : Nat) : Int)) cd_335_92 rfl rfl rfl (by omega) (L' := [aR 0, aW (.long ((((((Int64.ofNat 31) * acc) + ((i32 (bo w i 0)).toInt64)) + ((Int64.ofNat 50) * ((i32 (bo w i 1)).toInt64))) + ((Int64.ofNat 2000) * ((i32 (bo w i 3)).toInt64))) + ((Int64.ofNat 3) * ((i32 (bo w i 2)).toInt64)))), aU, aI ((i + 1 : Nat) : Int)]) rfl ?_
      refine r_goto cd_335_95 ?_
      exact ih (i + 1) _ (by omega)
    · exact absurd n1 (by omega)
theorem y_335 (C : CR h w ps kp T bu ek eo rl rp) (hI : Inv0 w) : Ct 4 335 [aR 0] h (.inl (some (aW (.long (smF w)))), h) := by
  have hbn := hI.bNe
  have hpn := hI.pNe
  have x0 := hI.len
  have x1 := hI.hour
  have x2 := hI.gas
  have x5 := hI.bn
  have x6 := hI.pn
  obtain ⟨h0, -⟩ := id C
  refine Ct.of [aR 0, aU, aU, aU] rfl ?_
  refine r_aldR cd_335_0 rfl rfl ?_
  refine r_cI (x_115 C hI) cd_335_1 rfl rfl rfl (rc0 h0 rfl) rfl rfl rfl ?_
  refine r_i2l cd_335_4 rfl ?_
  refine r_ldc2 cd_335_5 rfl rfl ?_
  refine r_aldR cd_335_8 rfl rfl ?_
  refine r_cI (x_116 C hI) cd_335_9 rfl rfl rfl (rc0 h0 rfl) rfl rfl rfl ?_
  refine r_i2l cd_335_12 rfl ?_
  refine r_lmul cd_335_13 rfl rfl ?_
  refine r_ladd cd_335_14 rfl rfl ?_
  refine r_ldc2 cd_335_15 rfl rfl ?_
  refine r_aldR cd_335_18 rfl rfl ?_
  refine r_cI (x_121 C hI) cd_335_19 rfl rfl rfl (rc0 h0 rfl) rfl rfl rfl ?_
  refine r_i2l cd_335_22 rfl ?_
  refine r_lmul cd_335_23 rfl rfl ?_
  refine r_ladd cd_335_24 rfl rfl ?_
  refine r_ldc2 cd_335_25 rfl rfl ?_
  refine r_aldR cd_335_28 rfl rfl ?_
  refine r_cI (x_122 C hI) cd_335_29 rfl rfl rfl (rc0 h0 rfl) rfl rfl rfl ?_
  refine r_i2l cd_335_32 rfl ?_
  refine r_lmul cd_335_33 rfl rfl ?_
  refine r_ladd cd_335_34 rfl rfl ?_
  refine r_lsto cd_335_35 rfl rfl (L' := [aR 0, aW (.long (((((i32 (w 1)).toInt64) + ((Int64.ofNat 1000) * ((i32 (w 2)).toInt64))) + ((Int64.ofNat 7) * ((i32 (w 7)).toInt64))) + ((Int64.ofNat 11) * ((i32 (w 8)).toInt64)))), aU, aU]) rfl ?_
  refine r_con (v := 0) cd_335_36 rfl (by decide) ?_
  refine r_ist cd_335_37 rfl rfl (L' := [aR 0, aW (.long (((((i32 (w 1)).toInt64) + ((Int64.ofNat 1000) * ((i32 (w 2)).toInt64))) + ((Int64.ofNat 7) * ((i32 (w 7)).toInt64))) + ((Int64.ofNat 11) * ((i32 (w 8)).toInt64)))), aU, aI 0]) rfl ?_
  exact lb_335 C hI (nB w) 0 (sm0 w) (by omega)
end SUM
