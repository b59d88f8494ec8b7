/-! THE CLASS: hours pass (written by wip/whole/gen54.py) -/
/-! ticking commutes with leaking -/
theorem vu_cm {f : Nat → Int} {k j : Nat} {v u : Int} (h : ¬ j = k) : va_up (va_up f k v) j u = va_up (va_up f j u) k v := by
  funext i
  by_cases e1 : i = j
  · subst e1; rw [vu_at, vu_ne h, vu_at]
  · rw [vu_ne e1]
    by_cases e2 : i = k
    · subst e2; rw [vu_at, vu_at]
    · rw [vu_ne e2, vu_ne e2, vu_ne e1]
section TK
variable {w : Nat → Int} {b k p : Nat}
theorem tk_bo : bo (tkW w) b k = bo w b k := vu_ne (by omega)
theorem tk_pa : pa (tkW w) p k = pa w p k := vu_ne (by omega)
theorem tk_bN : nB (tkW w) = nB w := rfl
theorem tk_pN : nP (tkW w) = nP w := rfl
theorem tk_tied : tied (tkW w) p b = tied w p b := by unfold tied; rw [tk_pa, tk_pa]
theorem tk_spare : spare (tkW w) b = spare w b := by
  unfold spare
  rw [tk_bo, (load_c (w := w) (u := tkW w) tk_pN (fun p _ => ⟨tk_pa, tk_pa, tk_pa⟩) b).1]
theorem tk_heavy : heavy (tkW w) b = heavy w b := by
  unfold heavy
  rw [tk_pN]
  exact itF_congr fun p a _ _ => by unfold hvG; rw [tk_tied, tk_pa, tk_pa]
theorem tk_vu {v : Int} (h : ¬ k = 1) : va_up (tkW w) k v = tkW (va_up w k v) := by
  unfold tkW
  rw [vu_cm h, show va_up w k v 1 = w 1 from vu_ne (fun e => h e.symm)]
theorem tk_sbo {v : Int} : sbo (tkW w) b k v = tkW (sbo w b k v) := tk_vu (by omega)
theorem tk_put {st wh : Int} : putP (tkW w) p st wh = tkW (putP w p st wh) := by
  unfold putP
  rw [tk_vu (by omega), tk_vu (by omega)]
theorem tk_unt : untW (tkW w) p = tkW (untW w p) := by
  unfold untW
  rw [tk_pa, tk_bo, tk_put]
theorem tk_los {l : Int} : losW (tkW w) b l = tkW (losW w b l) := by
  unfold losW
  rw [tk_bo, tk_sbo, show tkW (sbo w b 1 (bo w b 1 - l)) 10 = sbo w b 1 (bo w b 1 - l) 10 from vu_ne (by decide), tk_vu (by decide)]
end TK
theorem tk_rel {b : Nat} : ∀ {m : Nat} {w : Nat → Int} {n : Int}, relF b m (tkW w) n = (tkW (relF b m w n).1, (relF b m w n).2)
  | 0, _, _ => rfl
  | m + 1, w, n => by
    by_cases hs : 0 < spare w b
    · rw [relF, if_pos (by rw [tk_spare]; exact hs), relF, if_pos hs]
    · rw [relF, if_neg (by rw [tk_spare]; exact hs), relF, if_neg hs, tk_heavy, tk_unt, tk_rel]
theorem tk_leak {w : Nat → Int} {b : Nat} : leakW (tkW w) b = tkW (leakW w b) := by
  have e1 : le1 (tkW w) b = tkW (le1 w b) := by unfold le1; rw [tk_bo, tk_los]
  have e2 : relW (sbo (tkW (le1 w b)) b 3 0) b = tkW (relW (sbo (le1 w b) b 3 0) b) := by unfold relW; rw [tk_sbo, tk_rel]
  unfold leakW
  rw [tk_bo, tk_bo, e1, tk_spare, e2]
  by_cases h1 : ¬ bo w b 3 = 1
  · rw [if_pos h1, if_pos h1]
  · rw [if_neg h1, if_neg h1]
    by_cases h2 : bo w b 1 = 1 ∨ ¬ 0 < spare (le1 w b) b
    · rw [if_pos h2, if_pos h2]
    · rw [if_neg h2, if_neg h2]
theorem tk_lk : ∀ {m i : Nat} {w : Nat → Int}, itF (fun b u => leakW u b) i m (tkW w) = tkW (itF (fun b u => leakW u b) i m w)
  | 0, _, _ => rfl
  | m + 1, i, w => by
    show itF (fun b u => leakW u b) (i + 1) m (leakW (tkW w) i) = tkW (itF (fun b u => leakW u b) (i + 1) m (leakW w i))
    rw [tk_leak, tk_lk]
theorem cl_y {v : Nat → Int} (hI : Inv0 v) (hc : (v 1 + 1) % v 3 = 0) : ∀ {m : Nat}, m ≤ nB v → itF (fun b u => clW u b) 0 m v = itF (fun b u => leakW u b) 0 m v
  | 0, _ => rfl
  | m + 1, h => by
    obtain ⟨-, h2⟩ := lkI_inv hI (b := 0) (m := m) (by omega)
    rw [itF_last, itF_last, cl_y hI hc (m := m) (by omega)]
    show clW _ _ = leakW _ _
    unfold clW
    rw [h2 1 (by omega) (by omega), h2 3 (by omega) (by omega), if_pos hc]
theorem cl_n {v : Nat → Int} (hc : ¬ (v 1 + 1) % v 3 = 0) : ∀ {m : Nat}, itF (fun b u => clW u b) 0 m v = v
  | 0 => rfl
  | m + 1 => by
    rw [itF_last, cl_n hc (m := m)]
    show clW _ _ = _
    unfold clW
    rw [if_neg hc]
/-- an hour as the class passes it -/
def chW (w : Nat → Int) : Nat → Int := tkW (itF (fun b u => clW u b) 0 (nB w) (drW w))
theorem ch_1 {w : Nat → Int} : chW w 1 = itF (fun b u => clW u b) 0 (nB w) (drW w) 1 + 1 := by unfold chW tkW; exact vu_at _ _ _
theorem ch_ne {w : Nat → Int} {j : Nat} (h : ¬ j = 1) : chW w j = itF (fun b u => clW u b) 0 (nB w) (drW w) j := by unfold chW tkW; exact vu_ne h
theorem ch_e {w : Nat → Int} (hI : Inv0 w) : chW w = hrW w := by
  obtain ⟨h1, h2⟩ := drW_inv hI
  have eB : nB (drW w) = nB w := Sm.eB fun j hj => h2 j (by omega)
  unfold chW hrW lkW
  rw [tk_bN, show tkW (drW w) 1 = drW w 1 + 1 from vu_at _ _ _, show tkW (drW w) 3 = drW w 3 from vu_ne (by decide)]
  by_cases hc : (drW w 1 + 1) % drW w 3 = 0
  · rw [if_pos hc, tk_lk, eB, cl_y h1 hc (by omega)]
  · rw [if_neg hc, cl_n hc]
theorem clI_inv {v : Nat → Int} (hI : Inv0 v) : ∀ {m : Nat}, m ≤ nB v → Inv0 (itF (fun b u => clW u b) 0 m v) ∧ Sl v (itF (fun b u => clW u b) 0 m v)
  | 0, _ => ⟨hI, Sl.rf⟩
  | m + 1, h => by
    rw [itF_last]
    obtain ⟨h1, h2⟩ := clI_inv hI (m := m) (by omega)
    obtain ⟨h3, h4⟩ := cl_inv h1 (b := 0 + m) (by rw [Sm.eB fun j hj => h2 j (by omega) (by omega)]; omega)
    exact ⟨h3, h2.tr h4⟩
theorem lw_97d {B : Nat} (n k : Nat) : ∀ (m i : Nat) {h : aH} {w : Nat → Int}, Rp h B w → Inv0 w → i + m = nB w → ∃ h', (∀ res, RU 4 97 res (31, [aR B, aI ((n : Nat) : Int), aI ((k : Nat) : Int), aI ((i + m : Nat) : Int)], [], 0, 0, h') → RU 4 97 res (9, [aR B, aI ((n : Nat) : Int), aI ((k : Nat) : Int), aI ((i : Nat) : Int)], [], 0, 0, h)) ∧ Rp h' B (itF drG i m w) ∧ Fr B h h' := by
  intro m
  induction m with
  | zero =>
    intro i h w hR hI hm
    obtain ⟨c, W, A⟩ := id hR
    obtain ⟨o0, o1, o2, o3, o4, o5, o6, o7, o8, o9, o10, o11, o12, o13, o14, o15, o16, o17⟩ := id W
    obtain ⟨a0, a1, a2, a3, a4, a5, a6, a7, a8, a9, a10, a11, a12, a13, a14⟩ := id A
    have hbn := hI.bNe
    have hpn := hI.pNe
    have x0 := hI.len
    have x1 := hI.hour
    have x2 := hI.gas
    have x3 := hI.leak
    have x4 := hI.gn
    have x5 := hI.bn
    have x6 := hI.pn
    refine ⟨h, fun res hk => ?_, hR, Fr.rf⟩
    refine r_ild cd_97_9 rfl rfl ?_
    refine r_aldR cd_97_10 rfl rfl ?_
    refine r_get cd_97_11 rfl o0 rfl ?_
    refine r_get cd_97_14 rfl o5 rfl ?_
    refine r_ic64 cd_97_17 rfl ⟨by omega, by omega⟩ (inR_of hI.bn (by decide) (by decide)) (fun n1 => ?_) (fun n1 => ?_)
    · exact absurd n1 (by omega)
    · exact hk
  | succ m ih =>
    intro i h w hR hI hm
    obtain ⟨c, W, A⟩ := id hR
    obtain ⟨o0, o1, o2, o3, o4, o5, o6, o7, o8, o9, o10, o11, o12, o13, o14, o15, o16, o17⟩ := id W
    obtain ⟨a0, a1, a2, a3, a4, a5, a6, a7, a8, a9, a10, a11, a12, a13, a14⟩ := id A
    have hbn := hI.bNe
    have hpn := hI.pNe
    have x0 := hI.len
    have x1 := hI.hour
    have x2 := hI.gas
    have x3 := hI.leak
    have x4 := hI.gn
    have x5 := hI.bn
    have x6 := hI.pn
    obtain ⟨h1, d1, R1, F1⟩ := v_98 hR hI i (by omega)
    obtain ⟨hI1, hS1⟩ := dr_inv hI (b := i) (by omega)
    obtain ⟨h2, k2, R2, F2⟩ := ih (i + 1) R1 hI1 (by rw [Sm.eB fun j hj => hS1 j (by omega)]; omega)
    refine ⟨h2, fun res hk => ?_, R2, F1.tr F2⟩
    rw [show i + (m + 1) = i + 1 + m by omega] at hk
    have hk2 := k2 res hk
    refine r_ild cd_97_9 rfl rfl ?_
    refine r_aldR cd_97_10 rfl rfl ?_
    refine r_get cd_97_11 rfl o0 rfl ?_
    refine r_get cd_97_14 rfl o5 rfl ?_
    refine r_ic64 cd_97_17 rfl ⟨by omega, by omega⟩ (inR_of hI.bn (by decide) (by decide)) (fun n1 => ?_) (fun n1 => ?_)
    · refine r_aldR cd_97_20 rfl rfl ?_
      refine r_ild cd_97_21 rfl rfl ?_
      refine r_cV d1 cd_97_22 rfl rfl rfl (rc0 o0 rfl) rfl rfl rfl ?_
      refine r_inc (v := ((i + 1 : Nat) : Int)) cd_97_25 rfl rfl rfl (by omega) (L' := [aR B, aI ((n : Nat) : Int), aI ((k : Nat) : Int), aI ((i + 1 : Nat) : Int)]) rfl ?_
      refine r_goto cd_97_28 ?_
      exact hk2
    · exact absurd n1 (by omega)
theorem lw_97l {B : Nat} (n k : Nat) : ∀ (m i : Nat) {h : aH} {w : Nat → Int}, Rp h B w → Inv0 w → i + m = nB w → ∃ h', (∀ res, RU 4 97 res (55, [aR B, aI ((n : Nat) : Int), aI ((k : Nat) : Int), aI ((i + m : Nat) : Int)], [], 0, 0, h') → RU 4 97 res (33, [aR B, aI ((n : Nat) : Int), aI ((k : Nat) : Int), aI ((i : Nat) : Int)], [], 0, 0, h)) ∧ Rp h' B (itF (fun b u => clW u b) i m w) ∧ Fr B h h' := by
  intro m
  induction m with
  | zero =>
    intro i h w hR hI hm
    obtain ⟨c, W, A⟩ := id hR
    obtain ⟨o0, o1, o2, o3, o4, o5, o6, o7, o8, o9, o10, o11, o12, o13, o14, o15, o16, o17⟩ := id W
    obtain ⟨a0, a1, a2, a3, a4, a5, a6, a7, a8, a9, a10, a11, a12, a13, a14⟩ := id A
    have hbn := hI.bNe
    have hpn := hI.pNe
    have x0 := hI.len
    have x1 := hI.hour
    have x2 := hI.gas
    have x3 := hI.leak
    have x4 := hI.gn
    have x5 := hI.bn
    have x6 := hI.pn
    refine ⟨h, fun res hk => ?_, hR, Fr.rf⟩
    refine r_ild cd_97_33 rfl rfl ?_
    refine r_aldR cd_97_34 rfl rfl ?_
    refine r_get cd_97_35 rfl o0 rfl ?_
    refine r_get cd_97_38 rfl o5 rfl ?_
    refine r_ic64 cd_97_41 rfl ⟨by omega, by omega⟩ (inR_of hI.bn (by decide) (by decide)) (fun n1 => ?_) (fun n1 => ?_)
    · exact absurd n1 (by omega)
    · exact hk
  | succ m ih =>
    intro i h w hR hI hm
    obtain ⟨c, W, A⟩ := id hR
    obtain ⟨o0, o1, o2, o3, o4, o5, o6, o7, o8, o9, o10, o11, o12, o13, o14, o15, o16, o17⟩ := id W
    obtain ⟨a0, a1, a2, a3, a4, a5, a6, a7, a8, a9, a10, a11, a12, a13, a14⟩ := id A
    have hbn := hI.bNe
    have hpn := hI.pNe
    have x0 := hI.len
    have x1 := hI.hour
    have x2 := hI.gas
    have x3 := hI.leak
    have x4 := hI.gn
    have x5 := hI.bn
    have x6 := hI.pn
    obtain ⟨h1, d1, R1, F1⟩ := v_99 hR hI i (by omega)
    obtain ⟨hI1, hS1⟩ := cl_inv hI (b := i) (by omega)
    obtain ⟨h2, k2, R2, F2⟩ := ih (i + 1) R1 hI1 (by rw [Sm.eB fun j hj => hS1 j (by omega) (by omega)]; omega)
    refine ⟨h2, fun res hk => ?_, R2, F1.tr F2⟩
    rw [show i + (m + 1) = i + 1 + m by omega] at hk
    have hk2 := k2 res hk
    refine r_ild cd_97_33 rfl rfl ?_
    refine r_aldR cd_97_34 rfl rfl ?_
    refine r_get cd_97_35 rfl o0 rfl ?_
    refine r_get cd_97_38 rfl o5 rfl ?_
    refine r_ic64 cd_97_41 rfl ⟨by omega, by omega⟩ (inR_of hI.bn (by decide) (by decide)) (fun n1 => ?_) (fun n1 => ?_)
    · refine r_aldR cd_97_44 rfl rfl ?_
      refine r_ild cd_97_45 rfl rfl ?_
      refine r_cV d1 cd_97_46 rfl rfl rfl (rc0 o0 rfl) rfl rfl rfl ?_
      refine r_inc (v := ((i + 1 : Nat) : Int)) cd_97_49 rfl rfl rfl (by omega) (L' := [aR B, aI ((n : Nat) : Int), aI ((k : Nat) : Int), aI ((i + 1 : Nat) : Int)]) rfl ?_
      refine r_goto cd_97_52 ?_
      exact hk2
    · exact absurd n1 (by omega)
theorem lw_97 {B : Nat} (n : Nat) : ∀ (m k : Nat) {h : aH} {w : Nat → Int}, Rp h B w → Inv0 w → k + m = n → w 1 + m ≤ 100000 → n ≤ 100000 → ∃ h', (∀ t, RU 4 97 (.inl (some (aI (itF (fun _ u => hrW u) k m w 1))), h') (2, [aR B, aI ((n : Nat) : Int), aI ((k : Nat) : Int), t], [], 0, 0, h)) ∧ Rp h' B (itF (fun _ u => hrW u) k m w) ∧ Fr B h h' := by
  intro m
  induction m with
  | zero =>
    intro k h w hR hI hm hw1 hn9
    obtain ⟨c, W, A⟩ := id hR
    obtain ⟨o0, o1, o2, o3, o4, o5, o6, o7, o8, o9, o10, o11, o12, o13, o14, o15, o16, o17⟩ := id W
    obtain ⟨a0, a1, a2, a3, a4, a5, a6, a7, a8, a9, a10, a11, a12, a13, a14⟩ := id A
    have hbn := hI.bNe
    have hpn := hI.pNe
    have x0 := hI.len
    have x1 := hI.hour
    have x2 := hI.gas
    have x3 := hI.leak
    have x4 := hI.gn
    have x5 := hI.bn
    have x6 := hI.pn
    refine ⟨h, fun t => ?_, hR, Fr.rf⟩
    refine r_ild cd_97_2 rfl rfl ?_
    refine r_ild cd_97_3 rfl rfl ?_
    refine r_ic64 cd_97_4 rfl ⟨by omega, by omega⟩ ⟨by omega, by omega⟩ (fun n1 => ?_) (fun n1 => ?_)
    · exact absurd n1 (by omega)
    · refine r_aldR cd_97_71 rfl rfl ?_
      refine r_get cd_97_72 rfl o0 rfl ?_
      exact r_ret cd_97_75 True.intro (rfl)
  | succ m ih =>
    intro k h w hR hI hm hw1 hn9
    obtain ⟨c, W, A⟩ := id hR
    obtain ⟨o0, o1, o2, o3, o4, o5, o6, o7, o8, o9, o10, o11, o12, o13, o14, o15, o16, o17⟩ := id W
    obtain ⟨a0, a1, a2, a3, a4, a5, a6, a7, a8, a9, a10, a11, a12, a13, a14⟩ := id A
    have hbn := hI.bNe
    have hpn := hI.pNe
    have x0 := hI.len
    have x1 := hI.hour
    have x2 := hI.gas
    have x3 := hI.leak
    have x4 := hI.gn
    have x5 := hI.bn
    have x6 := hI.pn
    obtain ⟨h1, k1, R1, F1⟩ := lw_97d n k (nB w) 0 hR hI (by omega)
    obtain ⟨hI1, hS1⟩ := drW_inv hI
    have R1a : Rp h1 B (drW w) := R1
    have hbe : nB (drW w) = nB w := Sm.eB fun j hj => hS1 j (by omega)
    obtain ⟨h2, k2, R2, F2⟩ := lw_97l n k (nB w) 0 R1a hI1 (by omega)
    have hI2 : Inv0 (itF (fun b u => clW u b) 0 (nB w) (drW w)) := (clI_inv hI1 (by omega)).1
    obtain ⟨c1, W1, A1⟩ := id R1a
    obtain ⟨p1_0, p1_1, p1_2, p1_3, p1_4, p1_5, p1_6, p1_7, p1_8, p1_9, p1_10, p1_11, p1_12, p1_13, p1_14, p1_15, p1_16, p1_17⟩ := id W1
    obtain ⟨q1_0, q1_1, q1_2, q1_3, q1_4, q1_5, q1_6, q1_7, q1_8, q1_9, q1_10, q1_11, q1_12, q1_13, q1_14⟩ := id A1
    obtain ⟨c2, W2, A2⟩ := id R2
    obtain ⟨p2_0, p2_1, p2_2, p2_3, p2_4, p2_5, p2_6, p2_7, p2_8, p2_9, p2_10, p2_11, p2_12, p2_13, p2_14, p2_15, p2_16, p2_17⟩ := id W2
    obtain ⟨q2_0, q2_1, q2_2, q2_3, q2_4, q2_5, q2_6, q2_7, q2_8, q2_9, q2_10, q2_11, q2_12, q2_13, q2_14⟩ := id A2
    have R3 : Rp (sw h2 B (.inr (6, [aR (B + 1), aR (B + 5), aR (B + 10), aI ((itF (fun b u => clW u b) 0 (nB w) (drW w)) 1 + 1), aI ((itF (fun b u => clW u b) 0 (nB w) (drW w)) 2), aI ((itF (fun b u => clW u b) 0 (nB w) (drW w)) 7), aI ((itF (fun b u => clW u b) 0 (nB w) (drW w)) 8), aI (c2 14 0), aI (c2 14 1), aI ((itF (fun b u => clW u b) 0 (nB w) (drW w)) 10)]))) B (hrW w) := by
      rw [← ch_e hI]
      exact ⟨_, W2.wrk (w' := chW w) ch_1 (ch_ne (by decide)) (ch_ne (by decide)) (ch_ne (by decide)) (ch_ne (by decide)) (fun j hj h9 h1 _ _ _ _ => ch_ne h1), by unfold chW tkW; exact A2.sc2 (by omega)⟩
    obtain ⟨hI3, hS3⟩ := hr_inv hI (by omega)
    have e31 := hS3 1 (by omega) (by omega)
    rw [if_pos rfl] at e31
    obtain ⟨h4, k4, R4, F4⟩ := ih (k + 1) R3 hI3 (by omega) (by rw [e31]; omega) hn9
    refine ⟨h4, fun t => ?_, R4, ((F1.tr F2).sw (by omega) (by omega)).tr F4⟩
    refine r_ild cd_97_2 rfl rfl ?_
    refine r_ild cd_97_3 rfl rfl ?_
    refine r_ic64 cd_97_4 rfl ⟨by omega, by omega⟩ ⟨by omega, by omega⟩ (fun n1 => ?_) (fun n1 => ?_)
    · refine r_con (v := 0) cd_97_7 rfl (by decide) ?_
      refine r_ist cd_97_8 rfl rfl (L' := [aR B, aI ((n : Nat) : Int), aI ((k : Nat) : Int), aI 0]) rfl ?_
      refine k1 _ ?_
      refine r_con (v := 0) cd_97_31 rfl (by decide) ?_
      refine r_ist cd_97_32 rfl rfl (L' := [aR B, aI ((n : Nat) : Int), aI ((k : Nat) : Int), aI 0]) rfl ?_
      refine k2 _ ?_
      refine r_aldR cd_97_55 rfl rfl ?_
      refine r_dup cd_97_56 rfl rfl ?_
      refine r_get cd_97_57 rfl p2_0 rfl ?_
      refine r_con (v := 1) cd_97_60 rfl (by decide) ?_
      refine r_add (v := ((itF (fun b u => clW u b) 0 (nB w) (drW w)) 1) + 1) cd_97_61 rfl (by rfl) ?_
      refine r_put (fs' := [aR (B + 1), aR (B + 5), aR (B + 10), aI (((itF (fun b u => clW u b) 0 (nB w) (drW w)) 1) + 1), aI ((itF (fun b u => clW u b) 0 (nB w) (drW w)) 2), aI ((itF (fun b u => clW u b) 0 (nB w) (drW w)) 7), aI ((itF (fun b u => clW u b) 0 (nB w) (drW w)) 8), aI (c2 14 0), aI (c2 14 1), aI ((itF (fun b u => clW u b) 0 (nB w) (drW w)) 10)]) cd_97_62 rfl p2_0 rfl rfl ?_
      refine r_inc (v := ((k + 1 : Nat) : Int)) cd_97_65 rfl rfl rfl (by omega) (L' := [aR B, aI ((n : Nat) : Int), aI ((k + 1 : Nat) : Int), aI ((0 + nB w : Nat) : Int)]) rfl ?_
      refine r_goto cd_97_68 ?_
      exact k4 _
    · exact absurd n1 (by omega)
theorem v_97 {h : aH} {B : Nat} {w : Nat → Int} (hR : Rp h B w) (hI : Inv0 w) (n : Nat) (g0 : w 1 + n ≤ 100000) : ∃ h', Ct 4 97 [aR B, aI ((n : Nat) : Int)] h (.inl (some (aI (passW w n 1))), h') ∧ Rp h' B (passW w n) ∧ Fr B h h' := by
  have x1 := hI.hour
  obtain ⟨h1, k1, R1, F1⟩ := lw_97 n n 0 hR hI (by omega) g0 (by omega)
  refine ⟨h1, Ct.of [aR B, aI ((n : Nat) : Int), aU, aU] rfl ?_, R1, F1⟩
  refine r_con (v := 0) cd_97_0 rfl (by decide) ?_
  refine r_ist cd_97_1 rfl rfl (L' := [aR B, aI ((n : Nat) : Int), aI 0, aU]) rfl ?_
  exact k1 _
