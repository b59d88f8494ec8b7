/-! THE CLASS: gusts, gas (written by wip/whole/gen48.py) -/
theorem blow_e {w : Nat → Int} (hI : Inv0 w) {g : Int} (h4 : w 4 < 12) : (∀ j, ¬ j = 4 → ¬ j = 11 + (w 4).toNat → blowW w g j = w j) ∧ blowW w g 4 = w 4 + 1 ∧ blowW w g (11 + (w 4).toNat) = g := by
  have hg := hI.gn
  refine ⟨fun j h1 h2 => ?_, ?_, ?_⟩
  · unfold blowW; rw [vu_ne h1, vu_ne h2]
  · unfold blowW; rw [vu_at, vu_ne (by omega)]
  · unfold blowW; rw [vu_ne (by omega), vu_at]
theorem Ab.blow {c : Nat → Nat → Int} {w : Nat → Int} (A : Ab c w) (hI : Inv0 w) {g : Int} {t : Nat} (ht : w 4 = ((t : Nat) : Int)) (h4 : w 4 < 12) : Ab (va_up c 2 (va_up (c 2) t g)) (blowW w g) := by
  obtain ⟨e, e4, eg⟩ := blow_e hI (g := g) h4
  have ht2 : (w 4).toNat = t := by omega
  rw [ht2] at e eg
  obtain ⟨a0, a1, a2, a3, a4, a5, a6, a7, a8, a9, a10, a11, a12, a13, a14⟩ := A
  have hb : nB (blowW w g) = nB w := by unfold nB; rw [e 5 (by omega) (by omega)]
  have hp : nP (blowW w g) = nP w := by unfold nP; rw [e 6 (by omega) (by omega)]
  have hbo : ∀ b j, bo (blowW w g) b j = bo w b j := fun b j => e _ (by omega) (by omega)
  have hpa : ∀ p j, pa (blowW w g) p j = pa w p j := fun p j => e _ (by omega) (by omega)
  unfold Ab carr plc
  simp only [hb, hp, hbo, hpa]
  rw [e4, e 9 (by omega) (by omega)]
  refine ⟨fun i hi => ?_, fun i hi => ?_, fun i hi => ?_, a3, a4, a5, a6, a7, a8, a9, a10, a11, a12, a13, a14⟩
  · rw [e _ (by omega) (by omega)]; exact a0 i hi
  · rw [e _ (by omega) (by omega)]; exact a1 i hi
  · show va_up (c 2) t g i = _
    by_cases ei : i = t
    · rw [ei, vu_at, eg]
    · rw [vu_ne ei, e _ (by omega) (by omega)]; exact a2 i (by omega)
theorem v_54 {h : aH} {B : Nat} {w : Nat → Int} (hR : Rp h B w) (hI : Inv0 w) (g : Int) (g0 : w 4 < 12) : ∃ h', Ct 1 54 [aR (B + 1), aI g] h (.inl (some (aI (w 4 + 1))), h') ∧ Rp h' B (blowW w g) ∧ Fr B h h' := by
  obtain ⟨c, W, A⟩ := hR
  obtain ⟨o0, o1, o2, o3, o4, o5, o6, o7, o8, o9, o10, o11, o12, o13, o14, o15, o16, o17⟩ := id W
  obtain ⟨a0, a1, a2, a3, a4, a5, a6, a7, a8, a9, a10, a11, a12, a13, a14⟩ := id A
  have hbn := hI.bNe
  have hpn := hI.pNe
  have x0 := hI.len
  have x1 := hI.hour
  have x2 := hI.gas
  have x3 := hI.leak
  have x4 := hI.gn
  have x5 := hI.bn
  have x6 := hI.pn
  obtain ⟨t, ht⟩ : ∃ t : Nat, w 4 = ((t : Nat) : Int) := ⟨(w 4).toNat, by omega⟩
  obtain ⟨e, e4, eg⟩ := blow_e hI (g := g) g0
  refine ⟨_, Ct.of [aR (B + 1), aI g] rfl ?_, ⟨_, ((W.s2 (f := va_up (c 2) t g)).wk (w' := va_up w (11 + (w 4).toNat) g) (fun j hj hn => vu_ne (by omega))).street (w' := blowW w g) ((e 0 (by omega) (by omega)).trans rfl) e4 (e 3 (by omega) (by omega)) (fun j hj h9 h0 h44 h3 => (e j h44 (by omega)).trans (vu_ne (by omega)).symm), A.blow hI ht g0⟩, ((Fr.rf).sw (by omega) (by omega)).sw (by omega) (by omega)⟩
  refine r_aldR cd_54_0 rfl rfl ?_
  refine r_get cd_54_1 rfl o1 rfl ?_
  refine r_aldR cd_54_4 rfl rfl ?_
  refine r_get cd_54_5 rfl o1 rfl ?_
  refine r_ild cd_54_8 rfl rfl ?_
  refine r_arsI (i := t) cd_54_9 rfl rfl o4 ht (by omega) rfl ?_
  refine r_aldR cd_54_10 rfl rfl ?_
  refine r_dup cd_54_11 rfl rfl ?_
  refine r_get cd_54_12 rfl ((sw_ne (by omega)).trans o1) rfl ?_
  refine r_con (v := 1) cd_54_15 rfl (by decide) ?_
  refine r_add (v := (w 4) + 1) cd_54_16 rfl (by rfl) ?_
  refine r_put (fs' := [aR (B + 2), aR (B + 3), aR (B + 4), aI (w 0), aI ((w 4) + 1), aI (w 3)]) cd_54_17 rfl ((sw_ne (by omega)).trans o1) rfl rfl ?_
  refine r_aldR cd_54_20 rfl rfl ?_
  refine r_get cd_54_21 rfl (sw_at _ _ _) rfl ?_
  exact r_ret cd_54_24 True.intro (rfl)
theorem Ab.c14 {c : Nat → Nat → Int} {w u : Nat → Int} (A : Ab c w) {v : Int} (hu : u 0 + u 1 = v) : Ab (va_up c 14 u) (va_up w 9 v) := by
  have e : ∀ j, ¬ j = 9 → va_up w 9 v j = w j := fun j hj => vu_ne hj
  obtain ⟨a0, a1, a2, a3, a4, a5, a6, a7, a8, a9, a10, a11, a12, a13, a14⟩ := A
  have hb : nB (va_up w 9 v) = nB w := by unfold nB; rw [e 5 (by omega)]
  have hp : nP (va_up w 9 v) = nP w := by unfold nP; rw [e 6 (by omega)]
  have hbo : ∀ b j, bo (va_up w 9 v) b j = bo w b j := fun b j => e _ (by omega)
  have hpa : ∀ p j, pa (va_up w 9 v) p j = pa w p j := fun p j => e _ (by omega)
  unfold Ab carr plc
  simp only [hb, hp, hbo, hpa]
  rw [e 4 (by omega), show va_up w 9 v 9 = v from vu_at _ _ _]
  refine ⟨fun i hi => ?_, fun i hi => ?_, fun i hi => ?_, a3, a4, a5, a6, a7, a8, a9, a10, a11, a12, a13, hu⟩
  · rw [e _ (by omega)]; exact a0 i hi
  · rw [e _ (by omega)]; exact a1 i hi
  · rw [e _ (by omega)]; exact a2 i hi
theorem fil_e {w : Nat → Int} {b : Nat} {g : Int} : (∀ j, j < 83 → ¬ j = 2 → ¬ j = 9 → fillW w b g j = w j) ∧ fillW w b g 2 = w 2 - g ∧ fillW w b g 9 = w 9 + g := by
  refine ⟨fun j h h2 h9 => ?_, ?_, ?_⟩
  · unfold fillW fi2 fi1; rw [vu_ne h9, vu_ne h2, sbo_lo h]
  · unfold fillW fi2 fi1; rw [vu_ne (by decide), vu_at, sbo_lo (by decide)]
  · unfold fillW; rw [vu_at]; unfold fi2 fi1; rw [vu_ne (by decide), sbo_lo (by decide)]
theorem v_94 {h : aH} {B : Nat} {w : Nat → Int} (hR : Rp h B w) (hI : Inv0 w) (b : Nat) (g : Int) (g0 : b < nB w) : ∃ h', Ct 1 94 [aR B, aI ((b : Nat) : Int), aI g] h (.inl (some (aI (bo w b 1 + g))), h') ∧ Rp h' B (fillW w b g) ∧ Fr B h h' := by
  obtain ⟨c, W, A⟩ := hR
  obtain ⟨o0, o1, o2, o3, o4, o5, o6, o7, o8, o9, o10, o11, o12, o13, o14, o15, o16, o17⟩ := id W
  obtain ⟨a0, a1, a2, a3, a4, a5, a6, a7, a8, a9, a10, a11, a12, a13, a14⟩ := id A
  have hbn := hI.bNe
  have hpn := hI.pNe
  have x0 := hI.len
  have x1 := hI.hour
  have x2 := hI.gas
  have x3 := hI.leak
  have x4 := hI.gn
  have x5 := hI.bn
  have x6 := hI.pn
  have hb0 := hI.bs b (by omega)
  have fe := fil_e (w := w) (b := b) (g := g)
  refine ⟨_, Ct.of [aR B, aI ((b : Nat) : Int), aI g] rfl ?_, ⟨_, ((W.s4 (f := va_up (c 4) b (bo w b 1 + g))).wk (w' := sbo w b 1 (bo w b 1 + g)) (fun j hj hn => sbo_lo (by omega))).wrl (w' := fillW w b g) (u := (fun k : Nat => if k = 0 then c 14 0 else c 14 1 + g)) (fe.1 1 (by decide) (by decide) (by decide)) fe.2.1 (fe.1 7 (by decide) (by decide) (by decide)) (fe.1 8 (by decide) (by decide) (by decide)) (fe.1 10 (by decide) (by decide) (by decide)) (fun j hj h9 _ h2 _ _ _ => (fe.1 j (by omega) h2 h9).trans (sbo_lo (by omega)).symm), ((A.sb (k := 1) hI (by omega) (by omega)).sc2 (k := 2) (by omega)).c14 (u := (fun k : Nat => if k = 0 then c 14 0 else c 14 1 + g)) (show c 14 0 + (c 14 1 + g) = fi2 w b g 9 + g by rw [show fi2 w b g 9 = w 9 from (vu_ne (by decide)).trans (sbo_lo (by decide))]; omega)⟩, ((Fr.rf).sw (by omega) (by omega)).sw (by omega) (by omega)⟩
  refine r_aldR cd_94_0 rfl rfl ?_
  refine r_dup cd_94_1 rfl rfl ?_
  refine r_get cd_94_2 rfl o0 rfl ?_
  refine r_ild cd_94_5 rfl rfl ?_
  refine r_sub (v := (w 2) - g) cd_94_6 rfl (by rfl) ?_
  refine r_put (fs' := [aR (B + 1), aR (B + 5), aR (B + 10), aI (w 1), aI ((w 2) - g), aI (w 7), aI (w 8), aI (c 14 0), aI (c 14 1), aI (w 10)]) cd_94_7 rfl o0 rfl rfl ?_
  refine r_aldR cd_94_10 rfl rfl ?_
  refine r_dup cd_94_11 rfl rfl ?_
  refine r_get cd_94_12 rfl (sw_at _ _ _) rfl ?_
  refine r_ild cd_94_15 rfl rfl ?_
  refine r_add (v := (c 14 1) + g) cd_94_16 rfl (by rfl) ?_
  refine r_put (fs' := [aR (B + 1), aR (B + 5), aR (B + 10), aI (w 1), aI ((w 2) - g), aI (w 7), aI (w 8), aI (c 14 0), aI ((c 14 1) + g), aI (w 10)]) cd_94_17 rfl (sw_at _ _ _) rfl rfl ?_
  rw [sw_sw]
  refine r_aldR cd_94_20 rfl rfl ?_
  refine r_get cd_94_21 rfl (sw_at _ _ _) rfl ?_
  refine r_get cd_94_24 rfl ((sw_ne (by omega)).trans o5) rfl ?_
  refine r_ild cd_94_27 rfl rfl ?_
  refine r_dup2 cd_94_28 rfl rfl rfl ?_
  refine r_arr (i := b) cd_94_29 rfl ((sw_ne (by omega)).trans o7) rfl (by omega) rfl ?_
  rw [a4 (b) (by omega)]
  refine r_ild cd_94_30 rfl rfl ?_
  refine r_add (v := (bo w b 1) + g) cd_94_31 rfl (by rfl) ?_
  refine r_arsI (i := b) cd_94_32 rfl rfl ((sw_ne (by omega)).trans o7) rfl (by omega) rfl ?_
  refine r_aldR cd_94_33 rfl rfl ?_
  refine r_get cd_94_34 rfl ((sw_ne (by omega)).trans (sw_at _ _ _)) rfl ?_
  refine r_get cd_94_37 rfl ((sw_ne (by omega)).trans ((sw_ne (by omega)).trans o5)) rfl ?_
  refine r_ild cd_94_40 rfl rfl ?_
  refine r_arr (i := b) cd_94_41 rfl (sw_at _ _ _) rfl (by omega) rfl ?_
  rw [show va_up (c 4) b (bo w b 1 + g) b = bo w b 1 + g from vu_at _ _ _]
  exact r_ret cd_94_42 True.intro (by rw [sw_cm _ _ _ (show ¬ B = B + 7 by omega)]; rfl)
