/-! THE CLASS: changes (written by wip/whole/gen74.py) -/
/-- the remembered Worlds with one more, eight at most -/
def pus (w : Nat → Int) (ps : List (Nat → Int)) : List (Nat → Int) := (w :: ps).take 8
theorem pus_len {w : Nat → Int} {ps : List (Nat → Int)} (h : ps.length ≤ 8) : (pus w ps).length = if ps.length = 8 then 8 else ps.length + 1 := by
  unfold pus
  rw [List.length_take, List.length_cons]
  split <;> omega
theorem pus_at {w v : Nat → Int} {ps : List (Nat → Int)} {q : Nat} (h : (pus w ps)[q]? = some v) : (q = 0 ∧ v = w) ∨ ∃ i, q = i + 1 ∧ i < 7 ∧ ps[i]? = some v := by
  unfold pus at h
  rw [List.getElem?_take] at h
  split at h
  · rename_i h1
    cases q with
    | zero => left; rw [List.getElem?_cons_zero] at h; exact ⟨rfl, (Option.some.inj h).symm⟩
    | succ i => right; rw [List.getElem?_cons_succ] at h; exact ⟨i, rfl, by omega, h⟩
  · cases h
theorem CH.rem {h : aH} {ps : List (Nat → Int)} {w : Nat → Int} (H : CH h ps) (hl8 : ps.length ≤ 8) (hR : Rp h 1 w) (hI : Inv0 w) : ∃ h', Ct 3 12 [aR 55, aR 1] h (.inl none, h') ∧ CH h' (pus w ps) ∧ (∀ a, a < 55 ∨ 201 ≤ a → h'.2.2 a = h.2.2 a) ∧ h'.1 = h.1 ∧ h'.2.1 = h.2.1 := by
  obtain ⟨lt, hl, hO, ⟨f, hF, hf⟩, hX, hV⟩ := H
  obtain ⟨h', c1, o1, R1, F1, e1, e2⟩ := v_12 lt ps.length hl hl8 hO hF hf hR hI hX ((lt + 1) % 8) rfl
  refine ⟨h', c1, ⟨(lt + 1) % 8, by omega, ?_, ⟨f, (F1 56 (by omega) (by omega)).trans hF, hf⟩, fun i hi => ?_, fun q v hq => ?_⟩, fun a ha => F1 a (by omega) (by omega), e1, e2⟩
  · rw [pus_len hl8]
    exact o1
  · by_cases e : i = (lt + 1) % 8
    · rw [e]; exact R1.ex
    · exact (hX i hi).mv fun a g1 g2 => F1 a (by omega) (by omega)
  · rcases pus_at hq with ⟨rfl, rfl⟩ | ⟨i, rfl, hi, hp⟩
    · rw [show ((lt + 1) % 8 + 8 - 0) % 8 = (lt + 1) % 8 by omega]
      exact R1
    · rw [show ((lt + 1) % 8 + 8 - (i + 1)) % 8 = (lt + 8 - i) % 8 by omega]
      exact (hV i v hp).mv fun a g1 g2 => F1 a (by omega) (by omega)
section CHG
variable {h : aH} {w : Nat → Int} {ps : List (Nat → Int)} {kp : Option (Nat → Int)} {T : Nat} {bu : Nat → Int} {ek eo : Int} {rl : Nat} {rp : Nat → Int}
theorem x_132 (C : CR h w ps kp T bu ek eo rl rp) (hI : Inv0 w) (hl8 : ps.length ≤ 8) {w2 : Nat → Int} {v : Int} (j : Nat) (a b c d : Int) (hf : Ct 4 76 [aR 1, aC j, aI a, aI b, aI d] h (.inl (some (aI (bz false))), h)) (hk : ∀ h1, Rp h1 1 w → ∃ h2, Ct 5 84 [aR 1, aC j, aI a, aI b, aI c, aI d] h1 (.inl (some (aI v)), h2) ∧ Rp h2 1 w2 ∧ Fr 1 h1 h2) : ∃ h', Ct 6 132 [aR 0, aC j, aI a, aI b, aI c, aI d] h (.inl (some (aI v)), h') ∧ CR h' w2 (pus w ps) kp T bu ek eo rl rp ∧ Fc h h' := by
  obtain ⟨h0, hR, hK, hT, hH, hS, ⟨rb, hB, hb⟩⟩ := id C
  obtain ⟨fs1, q1⟩ := hR.o
  obtain ⟨h1, c1, H1, F1, e1, e2⟩ := hH.rem hl8 hR hI
  obtain ⟨lt, hlt, h55, -⟩ := id hH
  have R1 : Rp h1 1 w := hR.mv fun a g1 g2 => F1 a (by omega)
  obtain ⟨fs2, q2⟩ := R1.o
  obtain ⟨h2, c2, R2, F2⟩ := hk h1 R1
  have k0 := (F1 0 (by omega)).trans h0
  refine ⟨h2, Ct.of [aR 0, aC j, aI a, aI b, aI c, aI d] rfl ?_, ⟨(F2.1 0 (by omega)).trans k0, R2, (hK.mv fun a g1 g2 => F1 a (by omega)).mv fun a g1 g2 => F2.1 a (by omega), (hT.mv fun a g1 g2 => F1 a (by omega)).mv fun a g1 g2 => F2.1 a (by omega), H1.mv fun a g1 g2 => F2.1 a (by omega), (hS.mv fun a g1 g2 => F1 a (by omega)).mv fun a g1 g2 => F2.1 a (by omega), ⟨rb, (F2.1 225 (by omega)).trans ((F1 225 (by omega)).trans hB), hb⟩⟩, ⟨fun a ha => (F2.1 a (by omega)).trans (F1 a (by omega)), F2.2.1.trans e1, F2.2.2.trans e2⟩⟩
  refine r_aldR cd_132_0 rfl rfl ?_
  refine r_get cd_132_1 rfl h0 rfl ?_
  refine r_aldC cd_132_4 rfl rfl ?_
  refine r_ild cd_132_5 rfl rfl ?_
  refine r_ild cd_132_6 rfl rfl ?_
  refine r_ild cd_132_7 rfl rfl ?_
  refine r_cI hf cd_132_9 rfl rfl rfl (rc0 q1 rfl) rfl rfl rfl ?_
  refine r_if51b cd_132_12 rfl (fun n1 => ?_) (fun n1 => ?_)
  · refine r_aldR cd_132_26 rfl rfl ?_
    refine r_get cd_132_27 rfl h0 rfl ?_
    refine r_aldR cd_132_30 rfl rfl ?_
    refine r_get cd_132_31 rfl h0 rfl ?_
    refine r_cV c1 cd_132_34 rfl rfl rfl (rc0 h55 rfl) rfl rfl rfl ?_
    refine r_aldR cd_132_37 rfl rfl ?_
    refine r_get cd_132_38 rfl k0 rfl ?_
    refine r_aldC cd_132_41 rfl rfl ?_
    refine r_ild cd_132_42 rfl rfl ?_
    refine r_ild cd_132_43 rfl rfl ?_
    refine r_ild cd_132_44 rfl rfl ?_
    refine r_ild cd_132_46 rfl rfl ?_
    refine r_cI c2 cd_132_48 rfl rfl rfl (rc0 q2 rfl) rfl rfl rfl ?_
    exact r_ret cd_132_51 True.intro (rfl)
  · exact absurd n1 (by decide)
theorem x_130 (C : CR h w ps kp T bu ek eo rl rp) (hI : Inv0 w) (hl8 : ps.length ≤ 8) (y0 : Int) (hy0 : inR y0) (y1 : Int) (hy1 : inR y1) (g0 : isPl w y0 = true) (g1 : inB y1 0 9 = true) {w2 : Nat → Int} {v : Int} (hf : Ct 4 76 [aR 1, aC 4, aI y0, aI y1, aI 0] h (.inl (some (aI (bz false))), h)) (hk : ∀ h1, Rp h1 1 w → ∃ h2, Ct 5 84 [aR 1, aC 4, aI y0, aI y1, aI 0, aI 0] h1 (.inl (some (aI v)), h2) ∧ Rp h2 1 w2 ∧ Fr 1 h1 h2) : ∃ h', Ct 7 130 [aR 0, aI y0, aI y1] h (.inl (some (aI v)), h') ∧ CR h' w2 (pus w ps) kp T bu ek eo rl rp ∧ Fc h h' := by
  obtain ⟨h0, hR, hK, hT, hH, hS, hB⟩ := id C
  obtain ⟨c, ⟨o0, o1, o2, o3, o4, o5, o6, o7, o8, o9, o10, o11, o12, o13, o14, o15, o16, o17⟩, a0, a1, a2, a3, a4, a5, a6, a7, a8, a9, a10, a11, a12, a13, a14⟩ := id hR
  have hbn := hI.bNe
  have hpn := hI.pNe
  have x0 := hI.len
  have x1 := hI.hour
  have x2 := hI.gas
  have x3 := hI.leak
  have x4 := hI.gn
  have x5 := hI.bn
  have x6 := hI.pn
  obtain ⟨h9, d9, C9, F9⟩ := x_132 C hI hl8 4 y0 y1 0 0 hf hk
  refine ⟨h9, Ct.of [aR 0, aI y0, aI y1] rfl ?_, C9, F9⟩
  refine r_aldR cd_130_0 rfl rfl ?_
  refine r_ild cd_130_1 rfl rfl ?_
  refine r_dV (k1 := 0) (k2 := 0) (kc' := 0) (ks' := 0) (x_131 C hI y0 hy0 g0) cd_130_2 rfl rfl rfl (rc0 h0 rfl) rfl rfl rfl rfl (Nat.le_of_ble_eq_true rfl) (Nat.le_of_ble_eq_true rfl) rfl ?_
  refine r_ild cd_130_5 rfl rfl ?_
  refine r_con (v := 0) cd_130_6 rfl (by decide) ?_
  refine r_con (v := 9) cd_130_7 rfl (by decide) ?_
  refine r_dV (k1 := 0) (k2 := 0) (kc' := 0) (ks' := 0) (x_129 y1 hy1 0 ⟨by decide, by decide⟩ 9 ⟨by decide, by decide⟩ g1) cd_130_9 rfl rfl rfl True.intro rfl rfl rfl rfl (Nat.le_of_ble_eq_true rfl) (Nat.le_of_ble_eq_true rfl) rfl ?_
  refine r_aldR cd_130_12 rfl rfl ?_
  refine r_cst cd_130_13 rfl ?_
  refine r_ild cd_130_16 rfl rfl ?_
  refine r_ild cd_130_17 rfl rfl ?_
  refine r_con (v := 0) cd_130_18 rfl (by decide) ?_
  refine r_con (v := 0) cd_130_19 rfl (by decide) ?_
  refine r_dI (k1 := 0) (k2 := 0) (kc' := 0) (ks' := 0) d9 cd_130_20 rfl rfl rfl (rc0 h0 rfl) rfl rfl rfl rfl (Nat.le_of_ble_eq_true rfl) (Nat.le_of_ble_eq_true rfl) rfl ?_
  exact r_ret cd_130_23 True.intro (rfl)
theorem x_133 (C : CR h w ps kp T bu ek eo rl rp) (hI : Inv0 w) (hl8 : ps.length ≤ 8) (y0 : Int) (hy0 : inR y0) (y1 : Int) (hy1 : inR y1) (g0 : isPl w y0 = true) (g1 : inB y1 0 9 = true) {w2 : Nat → Int} {v : Int} (hf : Ct 4 76 [aR 1, aC 5, aI y0, aI y1, aI 0] h (.inl (some (aI (bz false))), h)) (hk : ∀ h1, Rp h1 1 w → ∃ h2, Ct 5 84 [aR 1, aC 5, aI y0, aI y1, aI 0, aI 0] h1 (.inl (some (aI v)), h2) ∧ Rp h2 1 w2 ∧ Fr 1 h1 h2) : ∃ h', Ct 7 133 [aR 0, aI y0, aI y1] h (.inl (some (aI v)), h') ∧ CR h' w2 (pus w ps) kp T bu ek eo rl rp ∧ Fc h h' := by
  obtain ⟨h0, hR, hK, hT, hH, hS, hB⟩ := id C
  obtain ⟨c, ⟨o0, o1, o2, o3, o4, o5, o6, o7, o8, o9, o10, o11, o12, o13, o14, o15, o16, o17⟩, a0, a1, a2, a3, a4, a5, a6, a7, a8, a9, a10, a11, a12, a13, a14⟩ := id hR
  have hbn := hI.bNe
  have hpn := hI.pNe
  have x0 := hI.len
  have x1 := hI.hour
  have x2 := hI.gas
  have x3 := hI.leak
  have x4 := hI.gn
  have x5 := hI.bn
  have x6 := hI.pn
  obtain ⟨h9, d9, C9, F9⟩ := x_132 C hI hl8 5 y0 y1 0 0 hf hk
  refine ⟨h9, Ct.of [aR 0, aI y0, aI y1] rfl ?_, C9, F9⟩
  refine r_aldR cd_133_0 rfl rfl ?_
  refine r_ild cd_133_1 rfl rfl ?_
  refine r_dV (k1 := 0) (k2 := 0) (kc' := 0) (ks' := 0) (x_131 C hI y0 hy0 g0) cd_133_2 rfl rfl rfl (rc0 h0 rfl) rfl rfl rfl rfl (Nat.le_of_ble_eq_true rfl) (Nat.le_of_ble_eq_true rfl) rfl ?_
  refine r_ild cd_133_5 rfl rfl ?_
  refine r_con (v := 0) cd_133_6 rfl (by decide) ?_
  refine r_con (v := 9) cd_133_7 rfl (by decide) ?_
  refine r_dV (k1 := 0) (k2 := 0) (kc' := 0) (ks' := 0) (x_129 y1 hy1 0 ⟨by decide, by decide⟩ 9 ⟨by decide, by decide⟩ g1) cd_133_9 rfl rfl rfl True.intro rfl rfl rfl rfl (Nat.le_of_ble_eq_true rfl) (Nat.le_of_ble_eq_true rfl) rfl ?_
  refine r_aldR cd_133_12 rfl rfl ?_
  refine r_cst cd_133_13 rfl ?_
  refine r_ild cd_133_16 rfl rfl ?_
  refine r_ild cd_133_17 rfl rfl ?_
  refine r_con (v := 0) cd_133_18 rfl (by decide) ?_
  refine r_con (v := 0) cd_133_19 rfl (by decide) ?_
  refine r_dI (k1 := 0) (k2 := 0) (kc' := 0) (ks' := 0) d9 cd_133_20 rfl rfl rfl (rc0 h0 rfl) rfl rfl rfl rfl (Nat.le_of_ble_eq_true rfl) (Nat.le_of_ble_eq_true rfl) rfl ?_
  exact r_ret cd_133_23 True.intro (rfl)
theorem x_134 (C : CR h w ps kp T bu ek eo rl rp) (hI : Inv0 w) (hl8 : ps.length ≤ 8) (y0 : Int) (hy0 : inR y0) (g0 : inB y0 (-3) 3 = true) {w2 : Nat → Int} {v : Int} (hf : Ct 4 76 [aR 1, aC 6, aI y0, aI 0, aI 0] h (.inl (some (aI (bz false))), h)) (hk : ∀ h1, Rp h1 1 w → ∃ h2, Ct 5 84 [aR 1, aC 6, aI y0, aI 0, aI 0, aI 0] h1 (.inl (some (aI v)), h2) ∧ Rp h2 1 w2 ∧ Fr 1 h1 h2) : ∃ h', Ct 7 134 [aR 0, aI y0] h (.inl (some (aI v)), h') ∧ CR h' w2 (pus w ps) kp T bu ek eo rl rp ∧ Fc h h' := by
  obtain ⟨h0, hR, hK, hT, hH, hS, hB⟩ := id C
  obtain ⟨c, ⟨o0, o1, o2, o3, o4, o5, o6, o7, o8, o9, o10, o11, o12, o13, o14, o15, o16, o17⟩, a0, a1, a2, a3, a4, a5, a6, a7, a8, a9, a10, a11, a12, a13, a14⟩ := id hR
  have hbn := hI.bNe
  have hpn := hI.pNe
  have x0 := hI.len
  have x1 := hI.hour
  have x2 := hI.gas
  have x3 := hI.leak
  have x4 := hI.gn
  have x5 := hI.bn
  have x6 := hI.pn
  obtain ⟨h9, d9, C9, F9⟩ := x_132 C hI hl8 6 y0 0 0 0 hf hk
  refine ⟨h9, Ct.of [aR 0, aI y0] rfl ?_, C9, F9⟩
  refine r_ild cd_134_0 rfl rfl ?_
  refine r_con (v := (-3)) cd_134_1 rfl (by decide) ?_
  refine r_con (v := 3) cd_134_3 rfl (by decide) ?_
  refine r_dV (k1 := 0) (k2 := 0) (kc' := 0) (ks' := 0) (x_129 y0 hy0 (-3) ⟨by decide, by decide⟩ 3 ⟨by decide, by decide⟩ g0) cd_134_4 rfl rfl rfl True.intro rfl rfl rfl rfl (Nat.le_of_ble_eq_true rfl) (Nat.le_of_ble_eq_true rfl) rfl ?_
  refine r_aldR cd_134_7 rfl rfl ?_
  refine r_cst cd_134_8 rfl ?_
  refine r_ild cd_134_11 rfl rfl ?_
  refine r_con (v := 0) cd_134_12 rfl (by decide) ?_
  refine r_con (v := 0) cd_134_13 rfl (by decide) ?_
  refine r_con (v := 0) cd_134_14 rfl (by decide) ?_
  refine r_dI (k1 := 0) (k2 := 0) (kc' := 0) (ks' := 0) d9 cd_134_15 rfl rfl rfl (rc0 h0 rfl) rfl rfl rfl rfl (Nat.le_of_ble_eq_true rfl) (Nat.le_of_ble_eq_true rfl) rfl ?_
  exact r_ret cd_134_18 True.intro (rfl)
theorem x_135 (C : CR h w ps kp T bu ek eo rl rp) (hI : Inv0 w) (hl8 : ps.length ≤ 8) (y0 : Int) (hy0 : inR y0) (g0 : inB y0 1 9 = true) {w2 : Nat → Int} {v : Int} (hf : Ct 4 76 [aR 1, aC 7, aI y0, aI 0, aI 0] h (.inl (some (aI (bz false))), h)) (hk : ∀ h1, Rp h1 1 w → ∃ h2, Ct 5 84 [aR 1, aC 7, aI y0, aI 0, aI 0, aI 0] h1 (.inl (some (aI v)), h2) ∧ Rp h2 1 w2 ∧ Fr 1 h1 h2) : ∃ h', Ct 7 135 [aR 0, aI y0] h (.inl (some (aI v)), h') ∧ CR h' w2 (pus w ps) kp T bu ek eo rl rp ∧ Fc h h' := by
  obtain ⟨h0, hR, hK, hT, hH, hS, hB⟩ := id C
  obtain ⟨c, ⟨o0, o1, o2, o3, o4, o5, o6, o7, o8, o9, o10, o11, o12, o13, o14, o15, o16, o17⟩, a0, a1, a2, a3, a4, a5, a6, a7, a8, a9, a10, a11, a12, a13, a14⟩ := id hR
  have hbn := hI.bNe
  have hpn := hI.pNe
  have x0 := hI.len
  have x1 := hI.hour
  have x2 := hI.gas
  have x3 := hI.leak
  have x4 := hI.gn
  have x5 := hI.bn
  have x6 := hI.pn
  obtain ⟨h9, d9, C9, F9⟩ := x_132 C hI hl8 7 y0 0 0 0 hf hk
  refine ⟨h9, Ct.of [aR 0, aI y0] rfl ?_, C9, F9⟩
  refine r_ild cd_135_0 rfl rfl ?_
  refine r_con (v := 1) cd_135_1 rfl (by decide) ?_
  refine r_con (v := 9) cd_135_2 rfl (by decide) ?_
  refine r_dV (k1 := 0) (k2 := 0) (kc' := 0) (ks' := 0) (x_129 y0 hy0 1 ⟨by decide, by decide⟩ 9 ⟨by decide, by decide⟩ g0) cd_135_4 rfl rfl rfl True.intro rfl rfl rfl rfl (Nat.le_of_ble_eq_true rfl) (Nat.le_of_ble_eq_true rfl) rfl ?_
  refine r_aldR cd_135_7 rfl rfl ?_
  refine r_cst cd_135_8 rfl ?_
  refine r_ild cd_135_11 rfl rfl ?_
  refine r_con (v := 0) cd_135_12 rfl (by decide) ?_
  refine r_con (v := 0) cd_135_13 rfl (by decide) ?_
  refine r_con (v := 0) cd_135_14 rfl (by decide) ?_
  refine r_dI (k1 := 0) (k2 := 0) (kc' := 0) (ks' := 0) d9 cd_135_15 rfl rfl rfl (rc0 h0 rfl) rfl rfl rfl rfl (Nat.le_of_ble_eq_true rfl) (Nat.le_of_ble_eq_true rfl) rfl ?_
  exact r_ret cd_135_18 True.intro (rfl)
theorem x_136 (C : CR h w ps kp T bu ek eo rl rp) (hI : Inv0 w) (hl8 : ps.length ≤ 8) (y0 : Int) (hy0 : inR y0) (y1 : Int) (hy1 : inR y1) (y2 : Int) (hy2 : inR y2) (g0 : isPl w y0 = true) (g1 : inB y1 1 30 = true) (g2 : inB y2 1 9 = true) {w2 : Nat → Int} {v : Int} (hf : Ct 4 76 [aR 1, aC 8, aI y0, aI y1, aI 0] h (.inl (some (aI (bz false))), h)) (hk : ∀ h1, Rp h1 1 w → ∃ h2, Ct 5 84 [aR 1, aC 8, aI y0, aI y1, aI y2, aI 0] h1 (.inl (some (aI v)), h2) ∧ Rp h2 1 w2 ∧ Fr 1 h1 h2) : ∃ h', Ct 7 136 [aR 0, aI y0, aI y1, aI y2] h (.inl (some (aI v)), h') ∧ CR h' w2 (pus w ps) kp T bu ek eo rl rp ∧ Fc h h' := by
  obtain ⟨h0, hR, hK, hT, hH, hS, hB⟩ := id C
  obtain ⟨c, ⟨o0, o1, o2, o3, o4, o5, o6, o7, o8, o9, o10, o11, o12, o13, o14, o15, o16, o17⟩, a0, a1, a2, a3, a4, a5, a6, a7, a8, a9, a10, a11, a12, a13, a14⟩ := id hR
  have hbn := hI.bNe
  have hpn := hI.pNe
  have x0 := hI.len
  have x1 := hI.hour
  have x2 := hI.gas
  have x3 := hI.leak
  have x4 := hI.gn
  have x5 := hI.bn
  have x6 := hI.pn
  obtain ⟨h9, d9, C9, F9⟩ := x_132 C hI hl8 8 y0 y1 y2 0 hf hk
  refine ⟨h9, Ct.of [aR 0, aI y0, aI y1, aI y2] rfl ?_, C9, F9⟩
  refine r_aldR cd_136_0 rfl rfl ?_
  refine r_ild cd_136_1 rfl rfl ?_
  refine r_dV (k1 := 0) (k2 := 0) (kc' := 0) (ks' := 0) (x_131 C hI y0 hy0 g0) cd_136_2 rfl rfl rfl (rc0 h0 rfl) rfl rfl rfl rfl (Nat.le_of_ble_eq_true rfl) (Nat.le_of_ble_eq_true rfl) rfl ?_
  refine r_ild cd_136_5 rfl rfl ?_
  refine r_con (v := 1) cd_136_6 rfl (by decide) ?_
  refine r_con (v := 30) cd_136_7 rfl (by decide) ?_
  refine r_dV (k1 := 0) (k2 := 0) (kc' := 0) (ks' := 0) (x_129 y1 hy1 1 ⟨by decide, by decide⟩ 30 ⟨by decide, by decide⟩ g1) cd_136_9 rfl rfl rfl True.intro rfl rfl rfl rfl (Nat.le_of_ble_eq_true rfl) (Nat.le_of_ble_eq_true rfl) rfl ?_
  refine r_ild cd_136_12 rfl rfl ?_
  refine r_con (v := 1) cd_136_13 rfl (by decide) ?_
  refine r_con (v := 9) cd_136_14 rfl (by decide) ?_
  refine r_dV (k1 := 0) (k2 := 0) (kc' := 0) (ks' := 0) (x_129 y2 hy2 1 ⟨by decide, by decide⟩ 9 ⟨by decide, by decide⟩ g2) cd_136_16 rfl rfl rfl True.intro rfl rfl rfl rfl (Nat.le_of_ble_eq_true rfl) (Nat.le_of_ble_eq_true rfl) rfl ?_
  refine r_aldR cd_136_19 rfl rfl ?_
  refine r_cst cd_136_20 rfl ?_
  refine r_ild cd_136_23 rfl rfl ?_
  refine r_ild cd_136_24 rfl rfl ?_
  refine r_ild cd_136_25 rfl rfl ?_
  refine r_con (v := 0) cd_136_26 rfl (by decide) ?_
  refine r_dI (k1 := 0) (k2 := 0) (kc' := 0) (ks' := 0) d9 cd_136_27 rfl rfl rfl (rc0 h0 rfl) rfl rfl rfl rfl (Nat.le_of_ble_eq_true rfl) (Nat.le_of_ble_eq_true rfl) rfl ?_
  exact r_ret cd_136_30 True.intro (rfl)
theorem x_137 (C : CR h w ps kp T bu ek eo rl rp) (hI : Inv0 w) (hl8 : ps.length ≤ 8) (y0 : Int) (hy0 : inR y0) (y1 : Int) (hy1 : inR y1) (y2 : Int) (hy2 : inR y2) (y3 : Int) (hy3 : inR y3) (g0 : isPl w y1 = true) (g1 : isPl w y2 = true) (g2 : inB y0 1 9 = true) (g3 : inB y3 0 99 = true) (gs : ¬ y1 = y2) {w2 : Nat → Int} {v : Int} (hf : Ct 4 76 [aR 1, aC 9, aI y0, aI y1, aI y3] h (.inl (some (aI (bz false))), h)) (hk : ∀ h1, Rp h1 1 w → ∃ h2, Ct 5 84 [aR 1, aC 9, aI y0, aI y1, aI y2, aI y3] h1 (.inl (some (aI v)), h2) ∧ Rp h2 1 w2 ∧ Fr 1 h1 h2) : ∃ h', Ct 7 137 [aR 0, aI y0, aI y1, aI y2, aI y3] h (.inl (some (aI v)), h') ∧ CR h' w2 (pus w ps) kp T bu ek eo rl rp ∧ Fc h h' := by
  obtain ⟨h0, hR, hK, hT, hH, hS, hB⟩ := id C
  obtain ⟨c, ⟨o0, o1, o2, o3, o4, o5, o6, o7, o8, o9, o10, o11, o12, o13, o14, o15, o16, o17⟩, a0, a1, a2, a3, a4, a5, a6, a7, a8, a9, a10, a11, a12, a13, a14⟩ := id hR
  have hbn := hI.bNe
  have hpn := hI.pNe
  have x0 := hI.len
  have x1 := hI.hour
  have x2 := hI.gas
  have x3 := hI.leak
  have x4 := hI.gn
  have x5 := hI.bn
  have x6 := hI.pn
  obtain ⟨h9, d9, C9, F9⟩ := x_132 C hI hl8 9 y0 y1 y2 y3 hf hk
  refine ⟨h9, Ct.of [aR 0, aI y0, aI y1, aI y2, aI y3] rfl ?_, C9, F9⟩
  refine r_aldR cd_137_0 rfl rfl ?_
  refine r_ild cd_137_1 rfl rfl ?_
  refine r_dV (k1 := 0) (k2 := 0) (kc' := 0) (ks' := 0) (x_131 C hI y1 hy1 g0) cd_137_2 rfl rfl rfl (rc0 h0 rfl) rfl rfl rfl rfl (Nat.le_of_ble_eq_true rfl) (Nat.le_of_ble_eq_true rfl) rfl ?_
  refine r_aldR cd_137_5 rfl rfl ?_
  refine r_ild cd_137_6 rfl rfl ?_
  refine r_dV (k1 := 0) (k2 := 0) (kc' := 0) (ks' := 0) (x_131 C hI y2 hy2 g1) cd_137_7 rfl rfl rfl (rc0 h0 rfl) rfl rfl rfl rfl (Nat.le_of_ble_eq_true rfl) (Nat.le_of_ble_eq_true rfl) rfl ?_
  refine r_ild cd_137_10 rfl rfl ?_
  refine r_ild cd_137_11 rfl rfl ?_
  refine r_ic62 cd_137_12 rfl hy1 hy2 (fun n1 => ?_) (fun n1 => ?_)
  · exact absurd n1 gs
  · refine r_ild cd_137_25 rfl rfl ?_
    refine r_con (v := 1) cd_137_26 rfl (by decide) ?_
    refine r_con (v := 9) cd_137_27 rfl (by decide) ?_
    refine r_dV (k1 := 0) (k2 := 0) (kc' := 0) (ks' := 0) (x_129 y0 hy0 1 ⟨by decide, by decide⟩ 9 ⟨by decide, by decide⟩ g2) cd_137_29 rfl rfl rfl True.intro rfl rfl rfl rfl (Nat.le_of_ble_eq_true rfl) (Nat.le_of_ble_eq_true rfl) rfl ?_
    refine r_ild cd_137_32 rfl rfl ?_
    refine r_con (v := 0) cd_137_34 rfl (by decide) ?_
    refine r_con (v := 99) cd_137_35 rfl (by decide) ?_
    refine r_dV (k1 := 0) (k2 := 0) (kc' := 0) (ks' := 0) (x_129 y3 hy3 0 ⟨by decide, by decide⟩ 99 ⟨by decide, by decide⟩ g3) cd_137_37 rfl rfl rfl True.intro rfl rfl rfl rfl (Nat.le_of_ble_eq_true rfl) (Nat.le_of_ble_eq_true rfl) rfl ?_
    refine r_aldR cd_137_40 rfl rfl ?_
    refine r_cst cd_137_41 rfl ?_
    refine r_ild cd_137_44 rfl rfl ?_
    refine r_ild cd_137_45 rfl rfl ?_
    refine r_ild cd_137_46 rfl rfl ?_
    refine r_ild cd_137_47 rfl rfl ?_
    refine r_dI (k1 := 0) (k2 := 0) (kc' := 0) (ks' := 0) d9 cd_137_49 rfl rfl rfl (rc0 h0 rfl) rfl rfl rfl rfl (Nat.le_of_ble_eq_true rfl) (Nat.le_of_ble_eq_true rfl) rfl ?_
    exact r_ret cd_137_52 True.intro (rfl)
theorem x_138 (C : CR h w ps kp T bu ek eo rl rp) (hI : Inv0 w) (hl8 : ps.length ≤ 8) (y0 : Int) (hy0 : inR y0) (y1 : Int) (hy1 : inR y1) (g0 : isPa w y0 = true) (g1 : isBa w y1 = true) {w2 : Nat → Int} {v : Int} (hf : Ct 4 76 [aR 1, aC 10, aI y0, aI y1, aI 0] h (.inl (some (aI (bz false))), h)) (hk : ∀ h1, Rp h1 1 w → ∃ h2, Ct 5 84 [aR 1, aC 10, aI y0, aI y1, aI 0, aI 0] h1 (.inl (some (aI v)), h2) ∧ Rp h2 1 w2 ∧ Fr 1 h1 h2) : ∃ h', Ct 7 138 [aR 0, aI y0, aI y1] h (.inl (some (aI v)), h') ∧ CR h' w2 (pus w ps) kp T bu ek eo rl rp ∧ Fc h h' := by
  obtain ⟨h0, hR, hK, hT, hH, hS, hB⟩ := id C
  obtain ⟨c, ⟨o0, o1, o2, o3, o4, o5, o6, o7, o8, o9, o10, o11, o12, o13, o14, o15, o16, o17⟩, a0, a1, a2, a3, a4, a5, a6, a7, a8, a9, a10, a11, a12, a13, a14⟩ := id hR
  have hbn := hI.bNe
  have hpn := hI.pNe
  have x0 := hI.len
  have x1 := hI.hour
  have x2 := hI.gas
  have x3 := hI.leak
  have x4 := hI.gn
  have x5 := hI.bn
  have x6 := hI.pn
  obtain ⟨h9, d9, C9, F9⟩ := x_132 C hI hl8 10 y0 y1 0 0 hf hk
  refine ⟨h9, Ct.of [aR 0, aI y0, aI y1] rfl ?_, C9, F9⟩
  refine r_aldR cd_138_0 rfl rfl ?_
  refine r_ild cd_138_1 rfl rfl ?_
  refine r_dV (k1 := 0) (k2 := 0) (kc' := 0) (ks' := 0) (x_139 C hI y0 hy0 g0) cd_138_2 rfl rfl rfl (rc0 h0 rfl) rfl rfl rfl rfl (Nat.le_of_ble_eq_true rfl) (Nat.le_of_ble_eq_true rfl) rfl ?_
  refine r_aldR cd_138_5 rfl rfl ?_
  refine r_ild cd_138_6 rfl rfl ?_
  refine r_dV (k1 := 0) (k2 := 0) (kc' := 0) (ks' := 0) (x_140 C hI y1 hy1 g1) cd_138_7 rfl rfl rfl (rc0 h0 rfl) rfl rfl rfl rfl (Nat.le_of_ble_eq_true rfl) (Nat.le_of_ble_eq_true rfl) rfl ?_
  refine r_aldR cd_138_10 rfl rfl ?_
  refine r_cst cd_138_11 rfl ?_
  refine r_ild cd_138_14 rfl rfl ?_
  refine r_ild cd_138_15 rfl rfl ?_
  refine r_con (v := 0) cd_138_16 rfl (by decide) ?_
  refine r_con (v := 0) cd_138_17 rfl (by decide) ?_
  refine r_dI (k1 := 0) (k2 := 0) (kc' := 0) (ks' := 0) d9 cd_138_18 rfl rfl rfl (rc0 h0 rfl) rfl rfl rfl rfl (Nat.le_of_ble_eq_true rfl) (Nat.le_of_ble_eq_true rfl) rfl ?_
  exact r_ret cd_138_21 True.intro (rfl)
theorem x_141 (C : CR h w ps kp T bu ek eo rl rp) (hI : Inv0 w) (hl8 : ps.length ≤ 8) (y0 : Int) (hy0 : inR y0) (g0 : isPa w y0 = true) {w2 : Nat → Int} {v : Int} (hf : Ct 4 76 [aR 1, aC 11, aI y0, aI 0, aI 0] h (.inl (some (aI (bz false))), h)) (hk : ∀ h1, Rp h1 1 w → ∃ h2, Ct 5 84 [aR 1, aC 11, aI y0, aI 0, aI 0, aI 0] h1 (.inl (some (aI v)), h2) ∧ Rp h2 1 w2 ∧ Fr 1 h1 h2) : ∃ h', Ct 7 141 [aR 0, aI y0] h (.inl (some (aI v)), h') ∧ CR h' w2 (pus w ps) kp T bu ek eo rl rp ∧ Fc h h' := by
  obtain ⟨h0, hR, hK, hT, hH, hS, hB⟩ := id C
  obtain ⟨c, ⟨o0, o1, o2, o3, o4, o5, o6, o7, o8, o9, o10, o11, o12, o13, o14, o15, o16, o17⟩, a0, a1, a2, a3, a4, a5, a6, a7, a8, a9, a10, a11, a12, a13, a14⟩ := id hR
  have hbn := hI.bNe
  have hpn := hI.pNe
  have x0 := hI.len
  have x1 := hI.hour
  have x2 := hI.gas
  have x3 := hI.leak
  have x4 := hI.gn
  have x5 := hI.bn
  have x6 := hI.pn
  obtain ⟨h9, d9, C9, F9⟩ := x_132 C hI hl8 11 y0 0 0 0 hf hk
  refine ⟨h9, Ct.of [aR 0, aI y0] rfl ?_, C9, F9⟩
  refine r_aldR cd_141_0 rfl rfl ?_
  refine r_ild cd_141_1 rfl rfl ?_
  refine r_dV (k1 := 0) (k2 := 0) (kc' := 0) (ks' := 0) (x_139 C hI y0 hy0 g0) cd_141_2 rfl rfl rfl (rc0 h0 rfl) rfl rfl rfl rfl (Nat.le_of_ble_eq_true rfl) (Nat.le_of_ble_eq_true rfl) rfl ?_
  refine r_aldR cd_141_5 rfl rfl ?_
  refine r_cst cd_141_6 rfl ?_
  refine r_ild cd_141_9 rfl rfl ?_
  refine r_con (v := 0) cd_141_10 rfl (by decide) ?_
  refine r_con (v := 0) cd_141_11 rfl (by decide) ?_
  refine r_con (v := 0) cd_141_12 rfl (by decide) ?_
  refine r_dI (k1 := 0) (k2 := 0) (kc' := 0) (ks' := 0) d9 cd_141_13 rfl rfl rfl (rc0 h0 rfl) rfl rfl rfl rfl (Nat.le_of_ble_eq_true rfl) (Nat.le_of_ble_eq_true rfl) rfl ?_
  exact r_ret cd_141_16 True.intro (rfl)
theorem x_142 (C : CR h w ps kp T bu ek eo rl rp) (hI : Inv0 w) (hl8 : ps.length ≤ 8) (y0 : Int) (hy0 : inR y0) (g0 : isBa w y0 = true) {w2 : Nat → Int} {v : Int} (hf : Ct 4 76 [aR 1, aC 12, aI y0, aI 0, aI 0] h (.inl (some (aI (bz false))), h)) (hk : ∀ h1, Rp h1 1 w → ∃ h2, Ct 5 84 [aR 1, aC 12, aI y0, aI 0, aI 0, aI 0] h1 (.inl (some (aI v)), h2) ∧ Rp h2 1 w2 ∧ Fr 1 h1 h2) : ∃ h', Ct 7 142 [aR 0, aI y0] h (.inl (some (aI v)), h') ∧ CR h' w2 (pus w ps) kp T bu ek eo rl rp ∧ Fc h h' := by
  obtain ⟨h0, hR, hK, hT, hH, hS, hB⟩ := id C
  obtain ⟨c, ⟨o0, o1, o2, o3, o4, o5, o6, o7, o8, o9, o10, o11, o12, o13, o14, o15, o16, o17⟩, a0, a1, a2, a3, a4, a5, a6, a7, a8, a9, a10, a11, a12, a13, a14⟩ := id hR
  have hbn := hI.bNe
  have hpn := hI.pNe
  have x0 := hI.len
  have x1 := hI.hour
  have x2 := hI.gas
  have x3 := hI.leak
  have x4 := hI.gn
  have x5 := hI.bn
  have x6 := hI.pn
  obtain ⟨h9, d9, C9, F9⟩ := x_132 C hI hl8 12 y0 0 0 0 hf hk
  refine ⟨h9, Ct.of [aR 0, aI y0] rfl ?_, C9, F9⟩
  refine r_aldR cd_142_0 rfl rfl ?_
  refine r_ild cd_142_1 rfl rfl ?_
  refine r_dV (k1 := 0) (k2 := 0) (kc' := 0) (ks' := 0) (x_140 C hI y0 hy0 g0) cd_142_2 rfl rfl rfl (rc0 h0 rfl) rfl rfl rfl rfl (Nat.le_of_ble_eq_true rfl) (Nat.le_of_ble_eq_true rfl) rfl ?_
  refine r_aldR cd_142_5 rfl rfl ?_
  refine r_cst cd_142_6 rfl ?_
  refine r_ild cd_142_9 rfl rfl ?_
  refine r_con (v := 0) cd_142_10 rfl (by decide) ?_
  refine r_con (v := 0) cd_142_11 rfl (by decide) ?_
  refine r_con (v := 0) cd_142_12 rfl (by decide) ?_
  refine r_dI (k1 := 0) (k2 := 0) (kc' := 0) (ks' := 0) d9 cd_142_13 rfl rfl rfl (rc0 h0 rfl) rfl rfl rfl rfl (Nat.le_of_ble_eq_true rfl) (Nat.le_of_ble_eq_true rfl) rfl ?_
  exact r_ret cd_142_16 True.intro (rfl)
theorem x_143 (C : CR h w ps kp T bu ek eo rl rp) (hI : Inv0 w) (hl8 : ps.length ≤ 8) (y0 : Int) (hy0 : inR y0) (g0 : isBa w y0 = true) {w2 : Nat → Int} {v : Int} (hf : Ct 4 76 [aR 1, aC 13, aI y0, aI 0, aI 0] h (.inl (some (aI (bz false))), h)) (hk : ∀ h1, Rp h1 1 w → ∃ h2, Ct 5 84 [aR 1, aC 13, aI y0, aI 0, aI 0, aI 0] h1 (.inl (some (aI v)), h2) ∧ Rp h2 1 w2 ∧ Fr 1 h1 h2) : ∃ h', Ct 7 143 [aR 0, aI y0] h (.inl (some (aI v)), h') ∧ CR h' w2 (pus w ps) kp T bu ek eo rl rp ∧ Fc h h' := by
  obtain ⟨h0, hR, hK, hT, hH, hS, hB⟩ := id C
  obtain ⟨c, ⟨o0, o1, o2, o3, o4, o5, o6, o7, o8, o9, o10, o11, o12, o13, o14, o15, o16, o17⟩, a0, a1, a2, a3, a4, a5, a6, a7, a8, a9, a10, a11, a12, a13, a14⟩ := id hR
  have hbn := hI.bNe
  have hpn := hI.pNe
  have x0 := hI.len
  have x1 := hI.hour
  have x2 := hI.gas
  have x3 := hI.leak
  have x4 := hI.gn
  have x5 := hI.bn
  have x6 := hI.pn
  obtain ⟨h9, d9, C9, F9⟩ := x_132 C hI hl8 13 y0 0 0 0 hf hk
  refine ⟨h9, Ct.of [aR 0, aI y0] rfl ?_, C9, F9⟩
  refine r_aldR cd_143_0 rfl rfl ?_
  refine r_ild cd_143_1 rfl rfl ?_
  refine r_dV (k1 := 0) (k2 := 0) (kc' := 0) (ks' := 0) (x_140 C hI y0 hy0 g0) cd_143_2 rfl rfl rfl (rc0 h0 rfl) rfl rfl rfl rfl (Nat.le_of_ble_eq_true rfl) (Nat.le_of_ble_eq_true rfl) rfl ?_
  refine r_aldR cd_143_5 rfl rfl ?_
  refine r_cst cd_143_6 rfl ?_
  refine r_ild cd_143_9 rfl rfl ?_
  refine r_con (v := 0) cd_143_10 rfl (by decide) ?_
  refine r_con (v := 0) cd_143_11 rfl (by decide) ?_
  refine r_con (v := 0) cd_143_12 rfl (by decide) ?_
  refine r_dI (k1 := 0) (k2 := 0) (kc' := 0) (ks' := 0) d9 cd_143_13 rfl rfl rfl (rc0 h0 rfl) rfl rfl rfl rfl (Nat.le_of_ble_eq_true rfl) (Nat.le_of_ble_eq_true rfl) rfl ?_
  exact r_ret cd_143_16 True.intro (rfl)
theorem x_144 (C : CR h w ps kp T bu ek eo rl rp) (hI : Inv0 w) (hl8 : ps.length ≤ 8) (y0 : Int) (hy0 : inR y0) (g0 : isBa w y0 = true) {w2 : Nat → Int} {v : Int} (hf : Ct 4 76 [aR 1, aC 14, aI y0, aI 0, aI 0] h (.inl (some (aI (bz false))), h)) (hk : ∀ h1, Rp h1 1 w → ∃ h2, Ct 5 84 [aR 1, aC 14, aI y0, aI 0, aI 0, aI 0] h1 (.inl (some (aI v)), h2) ∧ Rp h2 1 w2 ∧ Fr 1 h1 h2) : ∃ h', Ct 7 144 [aR 0, aI y0] h (.inl (some (aI v)), h') ∧ CR h' w2 (pus w ps) kp T bu ek eo rl rp ∧ Fc h h' := by
  obtain ⟨h0, hR, hK, hT, hH, hS, hB⟩ := id C
  obtain ⟨c, ⟨o0, o1, o2, o3, o4, o5, o6, o7, o8, o9, o10, o11, o12, o13, o14, o15, o16, o17⟩, a0, a1, a2, a3, a4, a5, a6, a7, a8, a9, a10, a11, a12, a13, a14⟩ := id hR
  have hbn := hI.bNe
  have hpn := hI.pNe
  have x0 := hI.len
  have x1 := hI.hour
  have x2 := hI.gas
  have x3 := hI.leak
  have x4 := hI.gn
  have x5 := hI.bn
  have x6 := hI.pn
  obtain ⟨h9, d9, C9, F9⟩ := x_132 C hI hl8 14 y0 0 0 0 hf hk
  refine ⟨h9, Ct.of [aR 0, aI y0] rfl ?_, C9, F9⟩
  refine r_aldR cd_144_0 rfl rfl ?_
  refine r_ild cd_144_1 rfl rfl ?_
  refine r_dV (k1 := 0) (k2 := 0) (kc' := 0) (ks' := 0) (x_140 C hI y0 hy0 g0) cd_144_2 rfl rfl rfl (rc0 h0 rfl) rfl rfl rfl rfl (Nat.le_of_ble_eq_true rfl) (Nat.le_of_ble_eq_true rfl) rfl ?_
  refine r_aldR cd_144_5 rfl rfl ?_
  refine r_cst cd_144_6 rfl ?_
  refine r_ild cd_144_9 rfl rfl ?_
  refine r_con (v := 0) cd_144_10 rfl (by decide) ?_
  refine r_con (v := 0) cd_144_11 rfl (by decide) ?_
  refine r_con (v := 0) cd_144_12 rfl (by decide) ?_
  refine r_dI (k1 := 0) (k2 := 0) (kc' := 0) (ks' := 0) d9 cd_144_13 rfl rfl rfl (rc0 h0 rfl) rfl rfl rfl rfl (Nat.le_of_ble_eq_true rfl) (Nat.le_of_ble_eq_true rfl) rfl ?_
  exact r_ret cd_144_16 True.intro (rfl)
theorem x_145 (C : CR h w ps kp T bu ek eo rl rp) (hI : Inv0 w) (hl8 : ps.length ≤ 8) (y0 : Int) (hy0 : inR y0) (y1 : Int) (hy1 : inR y1) (g0 : isBa w y0 = true) (g1 : inB y1 1 29 = true) {w2 : Nat → Int} {v : Int} (hf : Ct 4 76 [aR 1, aC 15, aI y0, aI y1, aI 0] h (.inl (some (aI (bz false))), h)) (hk : ∀ h1, Rp h1 1 w → ∃ h2, Ct 5 84 [aR 1, aC 15, aI y0, aI y1, aI 0, aI 0] h1 (.inl (some (aI v)), h2) ∧ Rp h2 1 w2 ∧ Fr 1 h1 h2) : ∃ h', Ct 7 145 [aR 0, aI y0, aI y1] h (.inl (some (aI v)), h') ∧ CR h' w2 (pus w ps) kp T bu ek eo rl rp ∧ Fc h h' := by
  obtain ⟨h0, hR, hK, hT, hH, hS, hB⟩ := id C
  obtain ⟨c, ⟨o0, o1, o2, o3, o4, o5, o6, o7, o8, o9, o10, o11, o12, o13, o14, o15, o16, o17⟩, a0, a1, a2, a3, a4, a5, a6, a7, a8, a9, a10, a11, a12, a13, a14⟩ := id hR
  have hbn := hI.bNe
  have hpn := hI.pNe
  have x0 := hI.len
  have x1 := hI.hour
  have x2 := hI.gas
  have x3 := hI.leak
  have x4 := hI.gn
  have x5 := hI.bn
  have x6 := hI.pn
  obtain ⟨h9, d9, C9, F9⟩ := x_132 C hI hl8 15 y0 y1 0 0 hf hk
  refine ⟨h9, Ct.of [aR 0, aI y0, aI y1] rfl ?_, C9, F9⟩
  refine r_aldR cd_145_0 rfl rfl ?_
  refine r_ild cd_145_1 rfl rfl ?_
  refine r_dV (k1 := 0) (k2 := 0) (kc' := 0) (ks' := 0) (x_140 C hI y0 hy0 g0) cd_145_2 rfl rfl rfl (rc0 h0 rfl) rfl rfl rfl rfl (Nat.le_of_ble_eq_true rfl) (Nat.le_of_ble_eq_true rfl) rfl ?_
  refine r_ild cd_145_5 rfl rfl ?_
  refine r_con (v := 1) cd_145_6 rfl (by decide) ?_
  refine r_con (v := 29) cd_145_7 rfl (by decide) ?_
  refine r_dV (k1 := 0) (k2 := 0) (kc' := 0) (ks' := 0) (x_129 y1 hy1 1 ⟨by decide, by decide⟩ 29 ⟨by decide, by decide⟩ g1) cd_145_9 rfl rfl rfl True.intro rfl rfl rfl rfl (Nat.le_of_ble_eq_true rfl) (Nat.le_of_ble_eq_true rfl) rfl ?_
  refine r_aldR cd_145_12 rfl rfl ?_
  refine r_cst cd_145_13 rfl ?_
  refine r_ild cd_145_16 rfl rfl ?_
  refine r_ild cd_145_17 rfl rfl ?_
  refine r_con (v := 0) cd_145_18 rfl (by decide) ?_
  refine r_con (v := 0) cd_145_19 rfl (by decide) ?_
  refine r_dI (k1 := 0) (k2 := 0) (kc' := 0) (ks' := 0) d9 cd_145_20 rfl rfl rfl (rc0 h0 rfl) rfl rfl rfl rfl (Nat.le_of_ble_eq_true rfl) (Nat.le_of_ble_eq_true rfl) rfl ?_
  exact r_ret cd_145_23 True.intro (rfl)
theorem x_147 (C : CR h w ps kp T bu ek eo rl rp) (hI : Inv0 w) (hl8 : ps.length ≤ 8) (y0 : Int) (hy0 : inR y0) (y1 : Int) (hy1 : inR y1) (g0 : isPl w y0 = true) (gs : ¬ foundP w y0 y1 = -1) {w2 : Nat → Int} {v : Int} (hf : Ct 4 76 [aR 1, aC 17, aI y0, aI y1, aI 0] h (.inl (some (aI (bz false))), h)) (hk : ∀ h1, Rp h1 1 w → ∃ h2, Ct 5 84 [aR 1, aC 17, aI y0, aI y1, aI 0, aI 0] h1 (.inl (some (aI v)), h2) ∧ Rp h2 1 w2 ∧ Fr 1 h1 h2) : ∃ h', Ct 7 147 [aR 0, aI y0, aI y1] h (.inl (some (aI v)), h') ∧ CR h' w2 (pus w ps) kp T bu ek eo rl rp ∧ Fc h h' := by
  obtain ⟨h0, hR, hK, hT, hH, hS, hB⟩ := id C
  obtain ⟨c, ⟨o0, o1, o2, o3, o4, o5, o6, o7, o8, o9, o10, o11, o12, o13, o14, o15, o16, o17⟩, a0, a1, a2, a3, a4, a5, a6, a7, a8, a9, a10, a11, a12, a13, a14⟩ := id hR
  have hbn := hI.bNe
  have hpn := hI.pNe
  have x0 := hI.len
  have x1 := hI.hour
  have x2 := hI.gas
  have x3 := hI.leak
  have x4 := hI.gn
  have x5 := hI.bn
  have x6 := hI.pn
  obtain ⟨h9, d9, C9, F9⟩ := x_132 C hI hl8 17 y0 y1 0 0 hf hk
  refine ⟨h9, Ct.of [aR 0, aI y0, aI y1] rfl ?_, C9, F9⟩
  refine r_aldR cd_147_0 rfl rfl ?_
  refine r_ild cd_147_1 rfl rfl ?_
  refine r_dV (k1 := 0) (k2 := 0) (kc' := 0) (ks' := 0) (x_131 C hI y0 hy0 g0) cd_147_2 rfl rfl rfl (rc0 h0 rfl) rfl rfl rfl rfl (Nat.le_of_ble_eq_true rfl) (Nat.le_of_ble_eq_true rfl) rfl ?_
  refine r_aldR cd_147_5 rfl rfl ?_
  refine r_get cd_147_6 rfl h0 rfl ?_
  refine r_get cd_147_9 rfl o0 rfl ?_
  refine r_ild cd_147_12 rfl rfl ?_
  refine r_ild cd_147_13 rfl rfl ?_
  refine r_cI (k_16 hR hI y0 hy0 y1 hy1) cd_147_14 rfl rfl rfl (rc0 o10 rfl) rfl rfl rfl ?_
  refine r_con (v := (-1)) cd_147_17 rfl (by decide) ?_
  refine r_ic62 cd_147_18 rfl (inR_of (found_c hI) (by decide) (by decide)) ⟨by omega, by omega⟩ (fun n1 => ?_) (fun n1 => ?_)
  · exact absurd n1 gs
  · refine r_aldR cd_147_31 rfl rfl ?_
    refine r_cst cd_147_32 rfl ?_
    refine r_ild cd_147_35 rfl rfl ?_
    refine r_ild cd_147_36 rfl rfl ?_
    refine r_con (v := 0) cd_147_37 rfl (by decide) ?_
    refine r_con (v := 0) cd_147_38 rfl (by decide) ?_
    refine r_dI (k1 := 0) (k2 := 0) (kc' := 0) (ks' := 0) d9 cd_147_39 rfl rfl rfl (rc0 h0 rfl) rfl rfl rfl rfl (Nat.le_of_ble_eq_true rfl) (Nat.le_of_ble_eq_true rfl) rfl ?_
    exact r_ret cd_147_42 True.intro (rfl)
theorem x_148 (C : CR h w ps kp T bu ek eo rl rp) (hI : Inv0 w) (hl8 : ps.length ≤ 8) (y0 : Int) (hy0 : inR y0) (g0 : inB y0 1 24 = true) {w2 : Nat → Int} {v : Int} (hf : Ct 4 76 [aR 1, aC 18, aI y0, aI 0, aI 0] h (.inl (some (aI (bz false))), h)) (hk : ∀ h1, Rp h1 1 w → ∃ h2, Ct 5 84 [aR 1, aC 18, aI y0, aI 0, aI 0, aI 0] h1 (.inl (some (aI v)), h2) ∧ Rp h2 1 w2 ∧ Fr 1 h1 h2) : ∃ h', Ct 7 148 [aR 0, aI y0] h (.inl (some (aI v)), h') ∧ CR h' w2 (pus w ps) kp T bu ek eo rl rp ∧ Fc h h' := by
  obtain ⟨h0, hR, hK, hT, hH, hS, hB⟩ := id C
  obtain ⟨c, ⟨o0, o1, o2, o3, o4, o5, o6, o7, o8, o9, o10, o11, o12, o13, o14, o15, o16, o17⟩, a0, a1, a2, a3, a4, a5, a6, a7, a8, a9, a10, a11, a12, a13, a14⟩ := id hR
  have hbn := hI.bNe
  have hpn := hI.pNe
  have x0 := hI.len
  have x1 := hI.hour
  have x2 := hI.gas
  have x3 := hI.leak
  have x4 := hI.gn
  have x5 := hI.bn
  have x6 := hI.pn
  obtain ⟨h9, d9, C9, F9⟩ := x_132 C hI hl8 18 y0 0 0 0 hf hk
  refine ⟨h9, Ct.of [aR 0, aI y0] rfl ?_, C9, F9⟩
  refine r_ild cd_148_0 rfl rfl ?_
  refine r_con (v := 1) cd_148_1 rfl (by decide) ?_
  refine r_con (v := 24) cd_148_2 rfl (by decide) ?_
  refine r_dV (k1 := 0) (k2 := 0) (kc' := 0) (ks' := 0) (x_129 y0 hy0 1 ⟨by decide, by decide⟩ 24 ⟨by decide, by decide⟩ g0) cd_148_4 rfl rfl rfl True.intro rfl rfl rfl rfl (Nat.le_of_ble_eq_true rfl) (Nat.le_of_ble_eq_true rfl) rfl ?_
  refine r_aldR cd_148_7 rfl rfl ?_
  refine r_cst cd_148_8 rfl ?_
  refine r_ild cd_148_11 rfl rfl ?_
  refine r_con (v := 0) cd_148_12 rfl (by decide) ?_
  refine r_con (v := 0) cd_148_13 rfl (by decide) ?_
  refine r_con (v := 0) cd_148_14 rfl (by decide) ?_
  refine r_dI (k1 := 0) (k2 := 0) (kc' := 0) (ks' := 0) d9 cd_148_15 rfl rfl rfl (rc0 h0 rfl) rfl rfl rfl rfl (Nat.le_of_ble_eq_true rfl) (Nat.le_of_ble_eq_true rfl) rfl ?_
  exact r_ret cd_148_18 True.intro (rfl)
end CHG
