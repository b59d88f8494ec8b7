/-! THE CLASS: gusts, gas (written by wip/whole/gen48.py) -/
theorem blow_e {w : Nat → Int} (hI : Inv0 w) {g : Int} (h4 : w 4 < 12) : (∀ j, ¬ j = 4 → ¬ j = 11 + (w 4).toNat → blowW w g j = w j) ∧ blowW w g 4 = w 4 + 1 ∧ blowW w g (11 + (w 4).toNat) = g := by
  have hg := hI.gn
  refine ⟨fun j h1 h2 => ?_, ?_, ?_⟩
  · unfold blowW; rw [vu_ne h1, vu_ne h2]
  · unfold blowW; rw [vu_at, vu_ne (by omega)]
  · unfold blowW; rw [vu_ne (by omega), vu_at]
theorem Ab.blow {c : Nat → Nat → Int} {w : Nat → Int} (A : Ab c w) (hI : Inv0 w) {g : Int} {t : Nat} (ht : w 4 = ((t : Nat) : Int)) (h4 : w 4 < 12) : Ab (va_up c 2 (va_up (c 2) t g)) (blowW w g) := by
  obtain ⟨e, e4, eg⟩ := blow_e hI (g := g) h4
  have ht2 : (w 4).toNat = t := by omega
  rw [ht2] at e eg
  obtain ⟨a0, a1, a2, a3, a4, a5, a6, a7, a8, a9, a10, a11, a12, a13, a14⟩ := A
  have hb : nB (blowW w g) = nB w := by unfold nB; rw [e 5 (by omega) (by omega)]
  have hp : nP (blowW w g) = nP w := by unfold nP; rw [e 6 (by omega) (by omega)]
  have hbo : ∀ b j, bo (blowW w g) b j = bo w b j := fun b j => e _ (by omega) (by omega)
  have hpa : ∀ p j, pa (blowW w g) p j = pa w p j := fun p j => e _ (by omega) (by omega)
  unfold Ab carr plc
  simp only [hb, hp, hbo, hpa]
  rw [e4, e 9 (by omega) (by omega)]
  refine ⟨fun i hi => ?_, fun i hi => ?_, fun i hi => ?_, a3, a4, a5, a6, a7, a8, a9, a10, a11, a12, a13, a14⟩
  · rw [e _ (by omega) (by omega)]; exact a0 i hi
  · rw [e _ (by omega) (by omega)]; exact a1 i hi
  · show va_up (c 2) t g i = _
    by_cases ei : i = t
    · rw [ei, vu_at, eg]
    · rw [vu_ne ei, e _ (by omega) (by omega)]; exact a2 i (by omega)
theorem v_54 {h : aH} {B : Nat} {w : Nat → Int} (hR : Rp h B w) (hI : Inv0 w) (g : Int) (g0 : w 4 < 12) : ∃ h', Ct 1 54 [aR (B + 1), aI g] h (.inl (some (aI (w 4 + 1))), h') ∧ Rp h' B (blowW w g) ∧ Fr B h h' := by
  obtain ⟨c, W, A⟩ := hR
  obtain ⟨o0, o1, o2, o3, o4, o5, o6, o7, o8, o9, o10, o11, o12, o13, o14, o15, o16, o17⟩ := id W
  obtain ⟨a0, a1, a2, a3, a4, a5, a6, a7, a8, a9, a10, a11, a12, a13, a14⟩ := id A
  have hbn := hI.bNe
  have hpn := hI.pNe
  have x0 := hI.len
  have x1 := hI.hour
  have x2 := hI.gas
  have x3 := hI.leak
  have x4 := hI.gn
  have x5 := hI.bn
  have x6 := hI.pn
  obtain ⟨t, ht⟩ : ∃ t : Nat, w 4 = ((t : Nat) : Int) := ⟨(w 4).toNat, by omega⟩
  obtain ⟨e, e4, eg⟩ := blow_e hI (g := g) g0
  refine ⟨_, Ct.of [aR (B + 1), aI g] rfl ?_, ⟨_, ((W.s2 (f := va_up (c 2) t g)).wk (w' := va_up w (11 + (w 4).toNat) g) (fun j hj hn => vu_ne (by omega))).street (w' := blowW w g) ((e 0 (by omega) (by omega)).trans rfl) e4 (e 3 (by omega) (by omega)) (fun j hj h9 h0 h44 h3 => (e j h44 (by omega)).trans (vu_ne (by omega)).symm), A.blow hI ht g0⟩, ((Fr.rf).sw (by omega) (by omega)).sw (by omega) (by omega)⟩
  refine r_aldR cd_54_0 rfl rfl ?_
  refine r_get cd_54_1 rfl o1 rfl ?_
  refine r_aldR cd_54_4 rfl rfl ?_
  refine r_get cd_54_5 rfl o1 rfl ?_
  refine r_ild cd_54_8 rfl rfl ?_
  refine r_arsI (i := t) cd_54_9 rfl rfl o4 ht (by omega) rfl ?_
  refine r_aldR cd_54_10 rfl rfl ?_
  refine r_dup cd_54_11 rfl rfl ?_
  refine r_get cd_54_12 rfl ((sw_ne (by omega)).trans o1) rfl ?_
  refine r_con (v := 1) cd_54_15 rfl (by decide) ?_
  refine r_add (v := (w 4) + 1) cd_54_16 rfl (by rfl) ?_
  refine r_put (fs' := [aR (B + 2), aR (B + 3), aR (B + 4), aI (w 0), aI ((w 4) + 1), aI (w 3)]) cd_54_17 rfl ((sw_ne (by omega)).trans o1) rfl rfl ?_
  refine r_aldR cd_54_20 rfl rfl ?_
  refine r_get cd_54_21 rfl (sw_at _ _ _) rfl ?_
  exact r_ret cd_54_24 True.intro (rfl)
