/-! THE CLASS: a new balloon, a new parcel, claiming (written by wip/whole/gen53.py) -/
theorem br1_j {w : Nat → Int} {x l t : Int} {j : Nat} : br1 w x l t j = if j = 83 + 4 * nB w + 3 then 0 else if j = 83 + 4 * nB w + 2 then t else if j = 83 + 4 * nB w + 1 then l else if j = 83 + 4 * nB w + 0 then x else if j = 5 then w 5 + 1 else w j := rfl
theorem brin_e {w : Nat → Int} {x l t : Int} : br1 (va_up w 9 (w 9 + l)) x l t = brinW w x l t := by
  funext j
  unfold brinW
  by_cases e : j = 9
  · subst e; rw [vu_at, br1_lo (by omega) (by omega), br1_lo (by omega) (by omega), vu_at]
  · rw [vu_ne e, br1_j, br1_j, show nB (va_up w 9 (w 9 + l)) = nB w from rfl, show va_up w 9 (w 9 + l) 5 = w 5 from rfl, show va_up w 9 (w 9 + l) j = w j from vu_ne e]
theorem Ab.brx {c : Nat → Nat → Int} {w : Nat → Int} (A : Ab c w) (hI : Inv0 w) {x l t : Int} (h5 : w 5 < 8) : Ab (va_up (va_up (va_up (va_up c 3 (va_up (c 3) (nB w) x)) 4 (va_up (c 4) (nB w) l)) 5 (va_up (c 5) (nB w) t)) 6 (va_up (c 6) (nB w) 0)) (br1 w x l t) := by
  obtain ⟨a0, a1, a2, a3, a4, a5, a6, a7, a8, a9, a10, a11, a12, a13, a14⟩ := A
  have hb8 := hI.bNe
  have hp8 := hI.pNe
  have hg := hI.gn
  have hbN : nB (br1 w x l t) = nB w + 1 := by have := hI.bn; unfold nB; rw [br1_5]; omega
  have hpN : nP (br1 w x l t) = nP w := by unfold nP; rw [br1_lo (by omega) (by omega)]
  have hpa : ∀ p k', pa (br1 w x l t) p k' = pa w p k' := fun p k' => br1_hi (by omega) (by omega)
  unfold Ab carr plc
  simp only [hpa, hpN, hbN]
  rw [br1_lo (by omega : 4 < 83) (by omega), br1_lo (by omega : 9 < 83) (by omega)]
  refine ⟨fun i hi => ?_, fun i hi => ?_, fun i hi => ?_, fun b h => ?_, fun b h => ?_, fun b h => ?_, fun b h => ?_, a7, a8, a9, a10, a11, a12, a13, a14⟩
  · rw [br1_lo (by omega) (by omega)]; exact a0 i hi
  · rw [br1_lo (by omega) (by omega)]; exact a1 i hi
  · rw [br1_lo (by omega) (by omega)]; exact a2 i hi
  · rw [br1_bo (by omega)]
    show va_up (c 3) (nB w) x b = _
    by_cases e : b = nB w
    · rw [e, vu_at, if_pos rfl]; rfl
    · rw [vu_ne e, if_neg e]; exact a3 b (by omega)
  · rw [br1_bo (by omega)]
    show va_up (c 4) (nB w) l b = _
    by_cases e : b = nB w
    · rw [e, vu_at, if_pos rfl]; rfl
    · rw [vu_ne e, if_neg e]; exact a4 b (by omega)
  · rw [br1_bo (by omega)]
    show va_up (c 5) (nB w) t b = _
    by_cases e : b = nB w
    · rw [e, vu_at, if_pos rfl]; rfl
    · rw [vu_ne e, if_neg e]; exact a5 b (by omega)
  · rw [br1_bo (by omega)]
    show va_up (c 6) (nB w) 0 b = _
    by_cases e : b = nB w
    · rw [e, vu_at, if_pos rfl]; rfl
    · rw [vu_ne e, if_neg e]; exact a6 b (by omega)
theorem v_6 {h : aH} {B : Nat} {w : Nat → Int} (hR : Rp h B w) (hI : Inv0 w) (x : Int) (l : Int) (t : Int) (g0 : w 5 < 8) : ∃ h', Ct 1 6 [aR (B + 5), aI x, aI l, aI t] h (.inl (some (aI (w 5))), h') ∧ Rp h' B (br1 w x l t) ∧ Fr B h h' := by
  obtain ⟨c, W, A⟩ := hR
  obtain ⟨o0, o1, o2, o3, o4, o5, o6, o7, o8, o9, o10, o11, o12, o13, o14, o15, o16, o17⟩ := id W
  obtain ⟨a0, a1, a2, a3, a4, a5, a6, a7, a8, a9, a10, a11, a12, a13, a14⟩ := id A
  have hbn := hI.bNe
  have hpn := hI.pNe
  have x0 := hI.len
  have x1 := hI.hour
  have x2 := hI.gas
  have x3 := hI.leak
  have x4 := hI.gn
  have x5 := hI.bn
  have x6 := hI.pn
  refine ⟨_, Ct.of [aR (B + 5), aI x, aI l, aI t] rfl ?_, ⟨_, ((((W.s3 (f := va_up (c 3) (nB w) x)).s4 (f := va_up (c 4) (nB w) l)).s5 (f := va_up (c 5) (nB w) t)).s6 (f := va_up (c 6) (nB w) 0)).ball (w' := br1 w x l t) br1_5 (fun j hj h9 h5 => br1_lo (by omega) h5), A.brx hI g0⟩, (((((Fr.rf).sw (by omega) (by omega)).sw (by omega) (by omega)).sw (by omega) (by omega)).sw (by omega) (by omega)).sw (by omega) (by omega)⟩
  refine r_aldR cd_6_0 rfl rfl ?_
  refine r_get cd_6_1 rfl o5 rfl ?_
  refine r_aldR cd_6_4 rfl rfl ?_
  refine r_get cd_6_5 rfl o5 rfl ?_
  refine r_ild cd_6_8 rfl rfl ?_
  refine r_arsI (i := (nB w)) cd_6_9 rfl rfl o6 hbn.1.symm (by omega) rfl ?_
  refine r_aldR cd_6_10 rfl rfl ?_
  refine r_get cd_6_11 rfl ((sw_ne (by omega)).trans o5) rfl ?_
  refine r_aldR cd_6_14 rfl rfl ?_
  refine r_get cd_6_15 rfl ((sw_ne (by omega)).trans o5) rfl ?_
  refine r_ild cd_6_18 rfl rfl ?_
  refine r_arsI (i := (nB w)) cd_6_19 rfl rfl ((sw_ne (by omega)).trans o7) hbn.1.symm (by omega) rfl ?_
  refine r_aldR cd_6_20 rfl rfl ?_
  refine r_get cd_6_21 rfl ((sw_ne (by omega)).trans ((sw_ne (by omega)).trans o5)) rfl ?_
  refine r_aldR cd_6_24 rfl rfl ?_
  refine r_get cd_6_25 rfl ((sw_ne (by omega)).trans ((sw_ne (by omega)).trans o5)) rfl ?_
  refine r_ild cd_6_28 rfl rfl ?_
  refine r_arsI (i := (nB w)) cd_6_29 rfl rfl ((sw_ne (by omega)).trans ((sw_ne (by omega)).trans o8)) hbn.1.symm (by omega) rfl ?_
  refine r_aldR cd_6_30 rfl rfl ?_
  refine r_get cd_6_31 rfl ((sw_ne (by omega)).trans ((sw_ne (by omega)).trans ((sw_ne (by omega)).trans o5))) rfl ?_
  refine r_aldR cd_6_34 rfl rfl ?_
  refine r_get cd_6_35 rfl ((sw_ne (by omega)).trans ((sw_ne (by omega)).trans ((sw_ne (by omega)).trans o5))) rfl ?_
  refine r_con (v := 0) cd_6_38 rfl (by decide) ?_
  refine r_arsI (i := (nB w)) cd_6_39 rfl rfl ((sw_ne (by omega)).trans ((sw_ne (by omega)).trans ((sw_ne (by omega)).trans o9))) hbn.1.symm (by omega) rfl ?_
  refine r_aldR cd_6_40 rfl rfl ?_
  refine r_dup cd_6_41 rfl rfl ?_
  refine r_get cd_6_42 rfl ((sw_ne (by omega)).trans ((sw_ne (by omega)).trans ((sw_ne (by omega)).trans ((sw_ne (by omega)).trans o5)))) rfl ?_
  refine r_con (v := 1) cd_6_45 rfl (by decide) ?_
  refine r_add (v := (w 5) + 1) cd_6_46 rfl (by rfl) ?_
  refine r_put (fs' := [aR (B + 6), aR (B + 7), aR (B + 8), aR (B + 9), aI ((w 5) + 1)]) cd_6_47 rfl ((sw_ne (by omega)).trans ((sw_ne (by omega)).trans ((sw_ne (by omega)).trans ((sw_ne (by omega)).trans o5)))) rfl rfl ?_
  refine r_aldR cd_6_50 rfl rfl ?_
  refine r_get cd_6_51 rfl (sw_at _ _ _) rfl ?_
  refine r_con (v := 1) cd_6_54 rfl (by decide) ?_
  refine r_sub (v := w 5) cd_6_55 rfl (by omega) ?_
  exact r_ret cd_6_56 True.intro (rfl)
theorem v_85 {h : aH} {B : Nat} {w : Nat → Int} (hR : Rp h B w) (hI : Inv0 w) (x : Int) (l : Int) (t : Int) (g0 : w 5 < 8) : ∃ h', Ct 2 85 [aR B, aI x, aI l, aI t] h (.inl (some (aI (w 5))), h') ∧ Rp h' B (brinW w x l t) ∧ Fr B h h' := by
  obtain ⟨c, W, A⟩ := id hR
  obtain ⟨o0, o1, o2, o3, o4, o5, o6, o7, o8, o9, o10, o11, o12, o13, o14, o15, o16, o17⟩ := id W
  obtain ⟨a0, a1, a2, a3, a4, a5, a6, a7, a8, a9, a10, a11, a12, a13, a14⟩ := id A
  have hbn := hI.bNe
  have hpn := hI.pNe
  have x0 := hI.len
  have x1 := hI.hour
  have x2 := hI.gas
  have x3 := hI.leak
  have x4 := hI.gn
  have x5 := hI.bn
  have x6 := hI.pn
  have R1 : Rp (sw h B (.inr (6, [aR (B + 1), aR (B + 5), aR (B + 10), aI (w 1), aI (w 2), aI (w 7), aI (w 8), aI ((c 14 0) + l), aI (c 14 1), aI (w 10)]))) B (va_up w 9 (w 9 + l)) := ⟨_, W.wrl (w' := (va_up w 9 (w 9 + l))) (u := (fun k : Nat => if k = 0 then c 14 0 + l else c 14 1)) rfl rfl rfl rfl rfl (fun j hj h9 _ _ _ _ _ => vu_ne h9), A.c14 (u := (fun k : Nat => if k = 0 then c 14 0 + l else c 14 1)) (show c 14 0 + l + c 14 1 = w 9 + l by omega)⟩
  have hI1 : Inv0 (va_up w 9 (w 9 + l)) := hI.setA (by omega)
  obtain ⟨h2, d2, R2, F2⟩ := v_6 R1 hI1 x l t g0
  rw [brin_e] at R2
  refine ⟨h2, Ct.of [aR B, aI x, aI l, aI t] rfl ?_, R2, (Fr.rf.sw (by omega) (by omega)).tr F2⟩
  refine r_aldR cd_85_0 rfl rfl ?_
  refine r_dup cd_85_1 rfl rfl ?_
  refine r_get cd_85_2 rfl o0 rfl ?_
  refine r_ild cd_85_5 rfl rfl ?_
  refine r_add (v := (c 14 0) + l) cd_85_6 rfl (by rfl) ?_
  refine r_put (fs' := [aR (B + 1), aR (B + 5), aR (B + 10), aI (w 1), aI (w 2), aI (w 7), aI (w 8), aI ((c 14 0) + l), aI (c 14 1), aI (w 10)]) cd_85_7 rfl o0 rfl rfl ?_
  refine r_aldR cd_85_10 rfl rfl ?_
  refine r_get cd_85_11 rfl (sw_at _ _ _) rfl ?_
  refine r_ild cd_85_14 rfl rfl ?_
  refine r_ild cd_85_15 rfl rfl ?_
  refine r_ild cd_85_16 rfl rfl ?_
  refine r_cI d2 cd_85_17 rfl rfl rfl (rc0 ((sw_ne (by omega)).trans o5) rfl) rfl rfl rfl ?_
  exact r_ret cd_85_20 True.intro (rfl)
theorem x_23 {h : aH} {B : Nat} {w : Nat → Int} {c : Nat → Nat → Int} (W : Wo h B w c) (p : Nat) (hp : p < 16) (x : Int) : Ct 1 23 [aR (B + 10), aI ((p : Nat) : Int), aI x] h (.inl none, sw (sw (sw h (B + 15) (.inl (0, 16, .inl (va_up (c 11) p 0)))) (B + 16) (.inl (0, 16, .inl (va_up (c 12) p (-1))))) (B + 17) (.inl (0, 16, .inl (va_up (c 13) p x)))) := by
  obtain ⟨o0, o1, o2, o3, o4, o5, o6, o7, o8, o9, o10, o11, o12, o13, o14, o15, o16, o17⟩ := W
  refine Ct.of [aR (B + 10), aI ((p : Nat) : Int), aI x] rfl ?_
  refine r_aldR cd_23_0 rfl rfl ?_
  refine r_get cd_23_1 rfl o10 rfl ?_
  refine r_ild cd_23_4 rfl rfl ?_
  refine r_con (v := 0) cd_23_5 rfl (by decide) ?_
  refine r_arsI (i := p) cd_23_6 rfl rfl o15 rfl (by omega) rfl ?_
  refine r_aldR cd_23_7 rfl rfl ?_
  refine r_get cd_23_8 rfl ((sw_ne (by omega)).trans o10) rfl ?_
  refine r_ild cd_23_11 rfl rfl ?_
  refine r_con (v := (-1)) cd_23_12 rfl (by decide) ?_
  refine r_arsI (i := p) cd_23_13 rfl rfl ((sw_ne (by omega)).trans o16) rfl (by omega) rfl ?_
  refine r_aldR cd_23_14 rfl rfl ?_
  refine r_get cd_23_15 rfl ((sw_ne (by omega)).trans ((sw_ne (by omega)).trans o10)) rfl ?_
  refine r_ild cd_23_18 rfl rfl ?_
  refine r_ild cd_23_19 rfl rfl ?_
  refine r_arsI (i := p) cd_23_20 rfl rfl ((sw_ne (by omega)).trans ((sw_ne (by omega)).trans o17)) rfl (by omega) rfl ?_
  exact r_void cd_23_21 rfl (rfl)
theorem Ab.post {c : Nat → Nat → Int} {w : Nat → Int} (A : Ab c w) (hI : Inv0 w) {g x z n : Int} (h6 : w 6 < 16) : Ab (va_up (va_up (va_up (va_up (va_up (va_up (va_up c 7 (va_up (c 7) (nP w) g)) 8 (va_up (c 8) (nP w) x)) 9 (va_up (c 9) (nP w) z)) 10 (va_up (c 10) (nP w) n)) 11 (va_up (c 11) (nP w) 0)) 12 (va_up (c 12) (nP w) (-1))) 13 (va_up (c 13) (nP w) x)) (postW w g x z n) := by
  obtain ⟨a0, a1, a2, a3, a4, a5, a6, a7, a8, a9, a10, a11, a12, a13, a14⟩ := A
  have hb8 := hI.bNe
  have hp8 := hI.pNe
  have hg := hI.gn
  have hlo : ∀ j, j < 115 → ¬ j = 6 → postW w g x z n j = w j := fun j hj h => (vu_ne h).trans (po1_lo hj)
  have h66 : postW w g x z n 6 = w 6 + 1 := by rw [show postW w g x z n 6 = po1 w g x z n 6 + 1 from vu_at _ _ _, po1_lo (by omega)]
  have hbN : nB (postW w g x z n) = nB w := by unfold nB; rw [hlo 5 (by omega) (by omega)]
  have hpN : nP (postW w g x z n) = nP w + 1 := by unfold nP; rw [h66]; have := hI.pn; omega
  have hbo : ∀ b k, b < 8 → k < 4 → bo (postW w g x z n) b k = bo w b k := fun b k h1 h2 => hlo _ (by omega) (by omega)
  have hpa : ∀ p k, k < 6 → pa (postW w g x z n) p k = if p = nP w then (if k = 0 then g else if k = 1 then x else if k = 2 then z else if k = 3 then n else if k = 4 then 0 else x) else pa w p k := fun p k hk => by
    rw [← po1_pa hk]
    exact vu_ne (by omega)
  unfold Ab
  rw [hbN, hpN, hlo 4 (by omega) (by omega), hlo 9 (by omega) (by omega)]
  refine ⟨fun i hi => ?_, fun i hi => ?_, fun i hi => ?_, fun b h => ?_, fun b h => ?_, fun b h => ?_, fun b h => ?_, fun p h => ?_, fun p h => ?_, fun p h => ?_, fun p h => ?_, fun p h => ?_, fun p h => ?_, fun p h => ?_, a14⟩
  · rw [hlo _ (by omega) (by omega)]; exact a0 i hi
  · rw [hlo _ (by omega) (by omega)]; exact a1 i hi
  · rw [hlo _ (by omega) (by omega)]; exact a2 i hi
  · rw [hbo _ _ (by omega) (by omega)]; exact a3 b h
  · rw [hbo _ _ (by omega) (by omega)]; exact a4 b h
  · rw [hbo _ _ (by omega) (by omega)]; exact a5 b h
  · rw [hbo _ _ (by omega) (by omega)]; exact a6 b h
  · rw [hpa _ _ (by omega)]
    show va_up (c 7) (nP w) g p = _
    by_cases e : p = nP w
    · rw [e, vu_at, if_pos rfl]; rfl
    · rw [vu_ne e, if_neg e]; exact a7 p (by omega)
  · rw [hpa _ _ (by omega)]
    show va_up (c 8) (nP w) x p = _
    by_cases e : p = nP w
    · rw [e, vu_at, if_pos rfl]; rfl
    · rw [vu_ne e, if_neg e]; exact a8 p (by omega)
  · rw [hpa _ _ (by omega)]
    show va_up (c 9) (nP w) z p = _
    by_cases e : p = nP w
    · rw [e, vu_at, if_pos rfl]; rfl
    · rw [vu_ne e, if_neg e]; exact a9 p (by omega)
  · rw [hpa _ _ (by omega)]
    show va_up (c 10) (nP w) n p = _
    by_cases e : p = nP w
    · rw [e, vu_at, if_pos rfl]; rfl
    · rw [vu_ne e, if_neg e]; exact a10 p (by omega)
  · rw [hpa _ _ (by omega)]
    show va_up (c 11) (nP w) 0 p = _
    by_cases e : p = nP w
    · rw [e, vu_at, if_pos rfl]; rfl
    · rw [vu_ne e, if_neg e]; exact a11 p (by omega)
  · unfold carr
    rw [hpa _ _ (by omega), hpa _ _ (by omega)]
    show va_up (c 12) (nP w) (-1) p = _
    by_cases e : p = nP w
    · rw [e, vu_at]; simp
    · rw [vu_ne e, if_neg e, if_neg e]; exact a12 p (by omega)
  · unfold plc
    rw [hpa _ _ (by omega), hpa _ _ (by omega)]
    show va_up (c 13) (nP w) x p = _
    by_cases e : p = nP w
    · rw [e, vu_at]; simp
    · rw [vu_ne e, if_neg e, if_neg e]; exact a13 p (by omega)
theorem post_e {w : Nat → Int} {g x z n : Int} : (∀ j, j < 115 → ¬ j = 6 → postW w g x z n j = w j) ∧ postW w g x z n 6 = w 6 + 1 := by
  refine ⟨fun j hj h => (vu_ne h).trans (po1_lo hj), ?_⟩
  rw [show postW w g x z n 6 = po1 w g x z n 6 + 1 from vu_at _ _ _, po1_lo (by omega)]
theorem v_22 {h : aH} {B : Nat} {w : Nat → Int} (hR : Rp h B w) (hI : Inv0 w) (g : Int) (x : Int) (z : Int) (n : Int) (g0 : w 6 < 16) : ∃ h', Ct 2 22 [aR (B + 10), aI g, aI x, aI z, aI n] h (.inl (some (aI (((nP w : Nat) : Int)))), h') ∧ Rp h' B (postW w g x z n) ∧ Fr B h h' := by
  obtain ⟨c, W, A⟩ := hR
  obtain ⟨o0, o1, o2, o3, o4, o5, o6, o7, o8, o9, o10, o11, o12, o13, o14, o15, o16, o17⟩ := id W
  obtain ⟨a0, a1, a2, a3, a4, a5, a6, a7, a8, a9, a10, a11, a12, a13, a14⟩ := id A
  have hbn := hI.bNe
  have hpn := hI.pNe
  have x0 := hI.len
  have x1 := hI.hour
  have x2 := hI.gas
  have x3 := hI.leak
  have x4 := hI.gn
  have x5 := hI.bn
  have x6 := hI.pn
  refine ⟨_, Ct.of [aR (B + 10), aI g, aI x, aI z, aI n, aU] rfl ?_, ⟨_, (((((((W.s7 (f := va_up (c 7) (nP w) g)).s8 (f := va_up (c 8) (nP w) x)).s9 (f := va_up (c 9) (nP w) z)).s10 (f := va_up (c 10) (nP w) n)).s11 (f := va_up (c 11) (nP w) 0)).s12 (f := va_up (c 12) (nP w) (-1))).s13 (f := va_up (c 13) (nP w) x)).parc (w' := postW w g x z n) post_e.2 (fun j hj h9 h6 => post_e.1 j (by omega) h6), A.post hI g0⟩, ((((((((Fr.rf).sw (by omega) (by omega)).sw (by omega) (by omega)).sw (by omega) (by omega)).sw (by omega) (by omega)).sw (by omega) (by omega)).sw (by omega) (by omega)).sw (by omega) (by omega)).sw (by omega) (by omega)⟩
  refine r_aldR cd_22_0 rfl rfl ?_
  refine r_get (v := aI ((nP w : Nat) : Int)) cd_22_1 rfl o10 (by rw [hpn.1]; rfl) ?_
  refine r_ist cd_22_4 rfl rfl (L' := [aR (B + 10), aI g, aI x, aI z, aI n, aI ((nP w : Nat) : Int)]) rfl ?_
  refine r_aldR cd_22_6 rfl rfl ?_
  refine r_get cd_22_7 rfl o10 rfl ?_
  refine r_ild cd_22_10 rfl rfl ?_
  refine r_ild cd_22_12 rfl rfl ?_
  refine r_arsI (i := nP w) cd_22_13 rfl rfl o11 rfl (by omega) rfl ?_
  refine r_aldR cd_22_14 rfl rfl ?_
  refine r_get cd_22_15 rfl ((sw_ne (by omega)).trans o10) rfl ?_
  refine r_ild cd_22_18 rfl rfl ?_
  refine r_ild cd_22_20 rfl rfl ?_
  refine r_arsI (i := nP w) cd_22_21 rfl rfl ((sw_ne (by omega)).trans o12) rfl (by omega) rfl ?_
  refine r_aldR cd_22_22 rfl rfl ?_
  refine r_get cd_22_23 rfl ((sw_ne (by omega)).trans ((sw_ne (by omega)).trans o10)) rfl ?_
  refine r_ild cd_22_26 rfl rfl ?_
  refine r_ild cd_22_28 rfl rfl ?_
  refine r_arsI (i := nP w) cd_22_29 rfl rfl ((sw_ne (by omega)).trans ((sw_ne (by omega)).trans o13)) rfl (by omega) rfl ?_
  refine r_aldR cd_22_30 rfl rfl ?_
  refine r_get cd_22_31 rfl ((sw_ne (by omega)).trans ((sw_ne (by omega)).trans ((sw_ne (by omega)).trans o10))) rfl ?_
  refine r_ild cd_22_34 rfl rfl ?_
  refine r_ild cd_22_36 rfl rfl ?_
  refine r_arsI (i := nP w) cd_22_38 rfl rfl ((sw_ne (by omega)).trans ((sw_ne (by omega)).trans ((sw_ne (by omega)).trans o14))) rfl (by omega) rfl ?_
  refine r_aldR cd_22_39 rfl rfl ?_
  refine r_ild cd_22_40 rfl rfl ?_
  refine r_ild cd_22_42 rfl rfl ?_
  refine r_cV (x_23 ((((W.s7 (f := va_up (c 7) (nP w) g)).s8 (f := va_up (c 8) (nP w) x)).s9 (f := va_up (c 9) (nP w) z)).s10 (f := va_up (c 10) (nP w) n)) (nP w) (by omega) x) cd_22_43 rfl rfl rfl (rc0 ((sw_ne (by omega)).trans ((sw_ne (by omega)).trans ((sw_ne (by omega)).trans ((sw_ne (by omega)).trans o10)))) rfl) rfl rfl rfl ?_
  refine r_aldR cd_22_46 rfl rfl ?_
  refine r_dup cd_22_47 rfl rfl ?_
  refine r_get cd_22_48 rfl ((sw_ne (by omega)).trans ((sw_ne (by omega)).trans ((sw_ne (by omega)).trans ((sw_ne (by omega)).trans ((sw_ne (by omega)).trans ((sw_ne (by omega)).trans ((sw_ne (by omega)).trans o10))))))) rfl ?_
  refine r_con (v := 1) cd_22_51 rfl (by decide) ?_
  refine r_add (v := (w 6) + 1) cd_22_52 rfl (by rfl) ?_
  refine r_put (fs' := [aR (B + 11), aR (B + 12), aR (B + 13), aR (B + 14), aR (B + 15), aR (B + 16), aR (B + 17), aI ((w 6) + 1)]) cd_22_53 rfl ((sw_ne (by omega)).trans ((sw_ne (by omega)).trans ((sw_ne (by omega)).trans ((sw_ne (by omega)).trans ((sw_ne (by omega)).trans ((sw_ne (by omega)).trans ((sw_ne (by omega)).trans o10))))))) rfl rfl ?_
  refine r_ild cd_22_56 rfl rfl ?_
  exact r_ret cd_22_58 True.intro (rfl)
theorem clm_n {w : Nat → Int} {p : Nat} (h : ¬ pa w p 5 = pa w p 2) : clmW w p = putP w p 2 (-1) := by
  unfold clmW cl1 paid thr
  rw [if_neg h, if_neg h]
  simp only [Int.add_zero, vu_id]
theorem clm_y {w : Nat → Int} {p : Nat} (h : pa w p 5 = pa w p 2) : clmW w p = va_up (va_up (putP w p 2 (-1)) 7 (putP w p 2 (-1) 7 + fareP w p)) 8 (putP w p 2 (-1) 8 + 1) := by
  unfold clmW cl1 paid thr
  rw [if_pos h, if_pos h]
  rfl
theorem fare_c {w u : Nat → Int} {p : Nat} (h : ∀ k, k < 4 → pa u p k = pa w p k) : fareP u p = fareP w p := by
  unfold fareP
  rw [h 0 (by omega), h 1 (by omega), h 2 (by omega)]
theorem v_96 {h : aH} {B : Nat} {w : Nat → Int} (hR : Rp h B w) (hI : Inv0 w) (x : Nat) (hx : x < 30) (n : Int) (hn : inR n) (p : Nat) (hf : foundP w ((x : Nat) : Int) n = ((p : Nat) : Int)) : ∃ h', Ct 3 96 [aR B, aI ((x : Nat) : Int), aI n] h (.inl (some (aI (paid w p))), h') ∧ Rp h' B (clmW w p) ∧ Fr B h h' := by
  obtain ⟨c, W, A⟩ := id hR
  obtain ⟨o0, o1, o2, o3, o4, o5, o6, o7, o8, o9, o10, o11, o12, o13, o14, o15, o16, o17⟩ := id W
  obtain ⟨a0, a1, a2, a3, a4, a5, a6, a7, a8, a9, a10, a11, a12, a13, a14⟩ := id A
  have hbn := hI.bNe
  have hpn := hI.pNe
  have x0 := hI.len
  have x1 := hI.hour
  have x2 := hI.gas
  have x3 := hI.leak
  have x4 := hI.gn
  have x5 := hI.bn
  have x6 := hI.pn
  obtain ⟨hp, hp4, hp5⟩ := found_o hf
  have hpp := hI.ps p hp
  obtain ⟨h1, d1, R1, F1⟩ := v_27 hR hI p hp
  have hI1 : Inv0 (putP w p 2 (-1)) := hI.setP hp (by omega) (Or.inr (Or.inr ⟨rfl, rfl⟩))
  have hp1 : p < nP (putP w p 2 (-1)) := by rw [put_pN]; exact hp
  obtain ⟨c1, W1, A1⟩ := id R1
  obtain ⟨p1_0, p1_1, p1_2, p1_3, p1_4, p1_5, p1_6, p1_7, p1_8, p1_9, p1_10, p1_11, p1_12, p1_13, p1_14, p1_15, p1_16, p1_17⟩ := id W1
  obtain ⟨q1_0, q1_1, q1_2, q1_3, q1_4, q1_5, q1_6, q1_7, q1_8, q1_9, q1_10, q1_11, q1_12, q1_13, q1_14⟩ := id A1
  by_cases hd : pa w p 5 = pa w p 2
  rotate_left
  · rw [clm_n hd, show paid w p = 0 from if_neg hd]
    refine ⟨h1, Ct.of [aR B, aI ((x : Nat) : Int), aI n, aU] rfl ?_, R1, F1⟩
    refine r_aldR cd_96_0 rfl rfl ?_
    refine r_get cd_96_1 rfl o0 rfl ?_
    refine r_ild cd_96_4 rfl rfl ?_
    refine r_ild cd_96_5 rfl rfl ?_
    refine r_cI (k_16 hR hI ((x : Nat) : Int) ⟨by omega, by omega⟩ n hn) cd_96_6 rfl rfl rfl (rc0 o10 rfl) rfl rfl rfl ?_
    rw [hf]
    refine r_ist cd_96_9 rfl rfl (L' := [aR B, aI ((x : Nat) : Int), aI n, aI ((p : Nat) : Int)]) rfl ?_
    refine r_aldR cd_96_10 rfl rfl ?_
    refine r_get cd_96_11 rfl o0 rfl ?_
    refine r_ild cd_96_14 rfl rfl ?_
    refine r_cI (k_26 hR hI ((p : Nat) : Int) ⟨by omega, by omega⟩) cd_96_15 rfl rfl rfl (rc0 o10 rfl) rfl rfl rfl ?_
    refine r_if52b cd_96_18 rfl (fun n1 => ?_) (fun n1 => ?_)
    · exact Bool.noConfusion (n1.symm.trans (isPa_iff.mpr ⟨by omega, by omega⟩))
    · refine r_aldR cd_96_23 rfl rfl ?_
      refine r_get cd_96_24 rfl o0 rfl ?_
      refine r_ild cd_96_27 rfl rfl ?_
      refine r_cV d1 cd_96_28 rfl rfl rfl (rc0 o10 rfl) rfl rfl rfl ?_
      refine r_ild cd_96_31 rfl rfl ?_
      refine r_aldR cd_96_32 rfl rfl ?_
      refine r_get cd_96_33 rfl p1_0 rfl ?_
      refine r_get cd_96_36 rfl p1_10 rfl ?_
      refine r_ild cd_96_39 rfl rfl ?_
      refine r_arr (i := p) cd_96_40 rfl p1_13 rfl (by omega) rfl ?_
      rw [q1_9 p (by omega), put_pa0 (by omega)]
      refine r_ic61 cd_96_41 rfl ⟨by omega, by omega⟩ ⟨by omega, by omega⟩ (fun n2 => ?_) (fun n2 => ?_)
      · exact absurd (hp5.trans n2) hd
      · refine r_con (v := 0) cd_96_44 rfl (by decide) ?_
        exact r_ret cd_96_45 True.intro (rfl)
  · rw [clm_y hd, show paid w p = fareP w p from if_pos hd]
    have R2 : Rp (sw h1 B (.inr (6, [aR (B + 1), aR (B + 5), aR (B + 10), aI ((putP w p 2 (-1)) 1), aI ((putP w p 2 (-1)) 2), aI ((putP w p 2 (-1)) 7), aI ((putP w p 2 (-1)) 8 + 1), aI (c1 14 0), aI (c1 14 1), aI ((putP w p 2 (-1)) 10)]))) B (va_up (putP w p 2 (-1)) 8 ((putP w p 2 (-1)) 8 + 1)) := ⟨_, W1.wrk (w' := (va_up (putP w p 2 (-1)) 8 ((putP w p 2 (-1)) 8 + 1))) rfl rfl rfl rfl rfl (fun j hj _ _ _ _ h8 _ => vu_ne h8), A1.sc2 (by omega)⟩
    have hI2 : Inv0 (va_up (putP w p 2 (-1)) 8 ((putP w p 2 (-1)) 8 + 1)) := hI1.setA (by omega)
    have R3 : Rp (sw h1 B (.inr (6, [aR (B + 1), aR (B + 5), aR (B + 10), aI ((putP w p 2 (-1)) 1), aI ((putP w p 2 (-1)) 2), aI ((putP w p 2 (-1)) 7 + fareP w p), aI ((putP w p 2 (-1)) 8 + 1), aI (c1 14 0), aI (c1 14 1), aI ((putP w p 2 (-1)) 10)]))) B (va_up (va_up (putP w p 2 (-1)) 7 ((putP w p 2 (-1)) 7 + fareP w p)) 8 ((putP w p 2 (-1)) 8 + 1)) := ⟨_, W1.wrk (w' := (va_up (va_up (putP w p 2 (-1)) 7 ((putP w p 2 (-1)) 7 + fareP w p)) 8 ((putP w p 2 (-1)) 8 + 1))) rfl rfl rfl rfl rfl (fun j hj _ _ _ h7 h8 _ => (vu_ne h8).trans (vu_ne h7)), (A1.sc2 (k := 7) (by omega)).sc2 (k := 8) (by omega)⟩
    have hI3 : Inv0 (va_up (va_up (putP w p 2 (-1)) 7 ((putP w p 2 (-1)) 7 + fareP w p)) 8 ((putP w p 2 (-1)) 8 + 1)) := (hI1.setA (k := 7) (by omega)).setA (by omega)
    have e2 : fareP (va_up (putP w p 2 (-1)) 8 ((putP w p 2 (-1)) 8 + 1)) p = fareP w p := fare_c fun k hk => (show pa (va_up (putP w p 2 (-1)) 8 ((putP w p 2 (-1)) 8 + 1)) p k = pa (putP w p 2 (-1)) p k from vu_ne (by omega)).trans (put_pa0 hk)
    have e3 : fareP (va_up (va_up (putP w p 2 (-1)) 7 ((putP w p 2 (-1)) 7 + fareP w p)) 8 ((putP w p 2 (-1)) 8 + 1)) p = fareP w p := fare_c fun k hk => ((show pa (va_up (va_up (putP w p 2 (-1)) 7 ((putP w p 2 (-1)) 7 + fareP w p)) 8 ((putP w p 2 (-1)) 8 + 1)) p k = pa (va_up (putP w p 2 (-1)) 7 ((putP w p 2 (-1)) 7 + fareP w p)) p k from vu_ne (by omega)).trans (show pa (va_up (putP w p 2 (-1)) 7 ((putP w p 2 (-1)) 7 + fareP w p)) p k = pa (putP w p 2 (-1)) p k from vu_ne (by omega))).trans (put_pa0 hk)
    have hp2 : p < nP (va_up (putP w p 2 (-1)) 8 ((putP w p 2 (-1)) 8 + 1)) := hp1
    have hp3 : p < nP (va_up (va_up (putP w p 2 (-1)) 7 ((putP w p 2 (-1)) 7 + fareP w p)) 8 ((putP w p 2 (-1)) 8 + 1)) := hp1
    refine ⟨_, Ct.of [aR B, aI ((x : Nat) : Int), aI n, aU] rfl ?_, R3, F1.sw (by omega) (by omega)⟩
    refine r_aldR cd_96_0 rfl rfl ?_
    refine r_get cd_96_1 rfl o0 rfl ?_
    refine r_ild cd_96_4 rfl rfl ?_
    refine r_ild cd_96_5 rfl rfl ?_
    refine r_cI (k_16 hR hI ((x : Nat) : Int) ⟨by omega, by omega⟩ n hn) cd_96_6 rfl rfl rfl (rc0 o10 rfl) rfl rfl rfl ?_
    rw [hf]
    refine r_ist cd_96_9 rfl rfl (L' := [aR B, aI ((x : Nat) : Int), aI n, aI ((p : Nat) : Int)]) rfl ?_
    refine r_aldR cd_96_10 rfl rfl ?_
    refine r_get cd_96_11 rfl o0 rfl ?_
    refine r_ild cd_96_14 rfl rfl ?_
    refine r_cI (k_26 hR hI ((p : Nat) : Int) ⟨by omega, by omega⟩) cd_96_15 rfl rfl rfl (rc0 o10 rfl) rfl rfl rfl ?_
    refine r_if52b cd_96_18 rfl (fun n1 => ?_) (fun n1 => ?_)
    · exact Bool.noConfusion (n1.symm.trans (isPa_iff.mpr ⟨by omega, by omega⟩))
    · refine r_aldR cd_96_23 rfl rfl ?_
      refine r_get cd_96_24 rfl o0 rfl ?_
      refine r_ild cd_96_27 rfl rfl ?_
      refine r_cV d1 cd_96_28 rfl rfl rfl (rc0 o10 rfl) rfl rfl rfl ?_
      refine r_ild cd_96_31 rfl rfl ?_
      refine r_aldR cd_96_32 rfl rfl ?_
      refine r_get cd_96_33 rfl p1_0 rfl ?_
      refine r_get cd_96_36 rfl p1_10 rfl ?_
      refine r_ild cd_96_39 rfl rfl ?_
      refine r_arr (i := p) cd_96_40 rfl p1_13 rfl (by omega) rfl ?_
      rw [q1_9 p (by omega), put_pa0 (by omega)]
      refine r_ic61 cd_96_41 rfl ⟨by omega, by omega⟩ ⟨by omega, by omega⟩ (fun n2 => ?_) (fun n2 => ?_)
      · refine r_aldR cd_96_46 rfl rfl ?_
        refine r_dup cd_96_47 rfl rfl ?_
        refine r_get cd_96_48 rfl p1_0 rfl ?_
        refine r_con (v := 1) cd_96_51 rfl (by decide) ?_
        refine r_add (v := ((putP w p 2 (-1)) 8) + 1) cd_96_52 rfl (by rfl) ?_
        refine r_put (fs' := [aR (B + 1), aR (B + 5), aR (B + 10), aI ((putP w p 2 (-1)) 1), aI ((putP w p 2 (-1)) 2), aI ((putP w p 2 (-1)) 7), aI (((putP w p 2 (-1)) 8) + 1), aI (c1 14 0), aI (c1 14 1), aI ((putP w p 2 (-1)) 10)]) cd_96_53 rfl p1_0 rfl rfl ?_
        refine r_aldR cd_96_56 rfl rfl ?_
        refine r_dup cd_96_57 rfl rfl ?_
        refine r_get cd_96_58 rfl (sw_at _ _ _) rfl ?_
        refine r_aldR cd_96_61 rfl rfl ?_
        refine r_get cd_96_62 rfl (sw_at _ _ _) rfl ?_
        refine r_ild cd_96_65 rfl rfl ?_
        refine r_cI (k_28 R2 hI2 p hp2) cd_96_66 rfl rfl rfl (rc0 ((sw_ne (by omega)).trans p1_10) rfl) rfl rfl rfl ?_
        rw [e2]
        refine r_add (v := ((putP w p 2 (-1)) 7) + (fareP w p)) cd_96_69 rfl (by rfl) ?_
        refine r_put (fs' := [aR (B + 1), aR (B + 5), aR (B + 10), aI ((putP w p 2 (-1)) 1), aI ((putP w p 2 (-1)) 2), aI (((putP w p 2 (-1)) 7) + (fareP w p)), aI (((putP w p 2 (-1)) 8) + 1), aI (c1 14 0), aI (c1 14 1), aI ((putP w p 2 (-1)) 10)]) cd_96_70 rfl (sw_at _ _ _) rfl rfl ?_
        rw [sw_sw]
        refine r_aldR cd_96_73 rfl rfl ?_
        refine r_get cd_96_74 rfl (sw_at _ _ _) rfl ?_
        refine r_ild cd_96_77 rfl rfl ?_
        refine r_cI (k_28 R3 hI3 p hp3) cd_96_78 rfl rfl rfl (rc0 ((sw_ne (by omega)).trans p1_10) rfl) rfl rfl rfl ?_
        rw [e3]
        exact r_ret cd_96_81 True.intro (rfl)
      · exact absurd (hp5.symm.trans hd) n2
