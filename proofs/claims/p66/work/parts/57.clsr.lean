/-! THE CLASS: clearing; carrying out a command (written by wip/whole/gen57.py) -/
def flF (v : Int) (i m : Nat) (f : Nat → Int) : Nat → Int := itF (fun k d => va_up d k v) i m f
theorem flF_at {v : Int} : ∀ {m i : Nat} {f : Nat → Int} {j : Nat}, flF v i m f j = if i ≤ j ∧ j < i + m then v else f j
  | 0, i, f, j => by
    rw [if_neg (by omega)]
    rfl
  | m + 1, i, f, j => by
    have e : flF v i (m + 1) f = flF v (i + 1) m (va_up f i v) := rfl
    rw [e, flF_at]
    by_cases h1 : i + 1 ≤ j ∧ j < i + 1 + m
    · rw [if_pos h1, if_pos (by omega)]
    · rw [if_neg h1]
      by_cases h2 : j = i
      · rw [if_pos (by omega), h2, vu_at]
      · rw [vu_ne h2, if_neg (by omega)]
theorem lp_386 {q n : Nat} (v : Int) (hn : n ≤ 1000) : ∀ (m i : Nat) {h : aH} {f : Nat → Int}, h.2.2 q = .inl (0, n, .inl f) → i + m = n → RU 1 386 (.inl none, sw h q (.inl (0, n, .inl (flF v i m f)))) (5, [aR q, aI v, aI ((i : Nat) : Int), aI ((n : Nat) : Int)], [], 0, 0, h) := by
  intro m
  induction m with
  | zero =>
    intro i h f hq hm
    refine r_ild cd_386_5 rfl rfl ?_
    refine r_ild cd_386_6 rfl rfl ?_
    refine r_ic64 cd_386_7 rfl ⟨by omega, by omega⟩ ⟨by omega, by omega⟩ (fun n1 => ?_) (fun n1 => ?_)
    · exact absurd n1 (by omega)
    · refine r_void cd_386_20 rfl ?_
      show (_, sw h q (.inl (0, n, .inl f))) = _
      rw [sw_id hq]
  | succ m ih =>
    intro i h f hq hm
    have e := ih (i + 1) (h := sw h q (.inl (0, n, .inl (va_up f i v)))) (sw_at _ _ _) (by omega)
    rw [sw_sw] at e
    refine r_ild cd_386_5 rfl rfl ?_
    refine r_ild cd_386_6 rfl rfl ?_
    refine r_ic64 cd_386_7 rfl ⟨by omega, by omega⟩ ⟨by omega, by omega⟩ (fun n1 => ?_) (fun n1 => ?_)
    · refine r_aldR cd_386_10 rfl rfl ?_
      refine r_ild cd_386_11 rfl rfl ?_
      refine r_ild cd_386_12 rfl rfl ?_
      refine r_arsI (i := i) cd_386_13 rfl rfl hq rfl (by omega) (Nat.ble_eq_true_of_le (by omega)) ?_
      refine r_inc (v := ((i + 1 : Nat) : Int)) cd_386_14 rfl rfl rfl (by omega) (L' := [aR q, aI v, aI ((i + 1 : Nat) : Int), aI ((n : Nat) : Int)]) rfl ?_
      refine r_goto cd_386_17 ?_
      exact e
    · exact absurd n1 (by omega)
theorem k_386 {h : aH} {q n : Nat} {f : Nat → Int} (hq : h.2.2 q = .inl (0, n, .inl f)) (v : Int) (hn : n ≤ 1000) : Ct 1 386 [aR q, aI v] h (.inl none, sw h q (.inl (0, n, .inl (flF v 0 n f)))) := by
  refine Ct.of [aR q, aI v, aU, aU] rfl ?_
  refine r_con (v := 0) cd_386_0 rfl (by decide) ?_
  refine r_ist cd_386_1 rfl rfl (L' := [aR q, aI v, aI 0, aU]) rfl ?_
  refine r_aldR cd_386_2 rfl rfl ?_
  refine r_len cd_386_3 rfl hq rfl ?_
  refine r_ist cd_386_4 rfl rfl (L' := [aR q, aI v, aI 0, aI ((n : Nat) : Int)]) rfl ?_
  exact lp_386 v hn n 0 hq (by omega)
theorem x_49 {h : aH} {B : Nat} {v : Nat → Int} {d : Nat → Nat → Int} (W : Wo h B v d) (l : Int) : Ct 2 49 [aR (B + 1), aI l] h (.inl none, sw (sw (sw h (B + 2) (.inl (0, 30, .inl (flF 0 0 30 (d 0))))) (B + 3) (.inl (0, 30, .inl (flF 0 0 30 (d 1))))) (B + 1) (.inr (4, [aR (B + 2), aR (B + 3), aR (B + 4), aI l, aI 0, aI 3]))) := by
  obtain ⟨p0, p1, p2, p3, p4, p5, p6, p7, p8, p9, p10, p11, p12, p13, p14, p15, p16, p17⟩ := W
  refine Ct.of [aR (B + 1), aI l] rfl ?_
  refine r_aldR cd_49_0 rfl rfl ?_
  refine r_get cd_49_1 rfl p1 rfl ?_
  refine r_con (v := 0) cd_49_4 rfl (by decide) ?_
  refine r_cV (k_386 p2 0 (by decide)) cd_49_5 rfl rfl rfl True.intro rfl rfl rfl ?_
  refine r_aldR cd_49_8 rfl rfl ?_
  refine r_get cd_49_9 rfl ((sw_ne (by omega)).trans p1) rfl ?_
  refine r_con (v := 0) cd_49_12 rfl (by decide) ?_
  refine r_cV (k_386 ((sw_ne (by omega)).trans p3) 0 (by decide)) cd_49_13 rfl rfl rfl True.intro rfl rfl rfl ?_
  refine r_aldR cd_49_16 rfl rfl ?_
  refine r_ild cd_49_17 rfl rfl ?_
  refine r_put (fs' := [aR (B + 2), aR (B + 3), aR (B + 4), aI l, aI (v 4), aI (v 3)]) cd_49_18 rfl ((sw_ne (by omega)).trans ((sw_ne (by omega)).trans p1)) rfl rfl ?_
  refine r_aldR cd_49_21 rfl rfl ?_
  refine r_con (v := 0) cd_49_22 rfl (by decide) ?_
  refine r_put (fs' := [aR (B + 2), aR (B + 3), aR (B + 4), aI l, aI 0, aI (v 3)]) cd_49_23 rfl (sw_at _ _ _) rfl rfl ?_
  rw [sw_sw]
  refine r_aldR cd_49_26 rfl rfl ?_
  refine r_con (v := 3) cd_49_27 rfl (by decide) ?_
  refine r_put (fs' := [aR (B + 2), aR (B + 3), aR (B + 4), aI l, aI 0, aI 3]) cd_49_28 rfl (sw_at _ _ _) rfl rfl ?_
  rw [sw_sw]
  exact r_void cd_49_31 rfl (rfl)
theorem v_75 {h : aH} {B : Nat} (hX : Ex h B) (l : Int) : ∃ h', Ct 3 75 [aR B, aI l] h (.inl none, h') ∧ Rp h' B (iniW l) ∧ Fr B h h' := by
  obtain ⟨v, d, W⟩ := hX
  obtain ⟨p0, p1, p2, p3, p4, p5, p6, p7, p8, p9, p10, p11, p12, p13, p14, p15, p16, p17⟩ := id W
  have Wn : Wo (sw (sw (sw (sw (sw (sw h (B + 2) (.inl (0, 30, .inl (flF 0 0 30 (d 0))))) (B + 3) (.inl (0, 30, .inl (flF 0 0 30 (d 1))))) (B + 1) (.inr (4, [aR (B + 2), aR (B + 3), aR (B + 4), aI l, aI 0, aI 3]))) (B + 5) (.inr (0, [aR (B + 6), aR (B + 7), aR (B + 8), aR (B + 9), aI 0]))) (B + 10) (.inr (2, [aR (B + 11), aR (B + 12), aR (B + 13), aR (B + 14), aR (B + 15), aR (B + 16), aR (B + 17), aI 0]))) B (.inr (6, [aR (B + 1), aR (B + 5), aR (B + 10), aI 0, aI 50, aI 0, aI 0, aI 0, aI 0, aI 0]))) B (iniW l) (va_up (va_up (va_up d 0 (flF 0 0 30 (d 0))) 1 (flF 0 0 30 (d 1))) 14 (fun _ => 0)) := ⟨(sw_at _ _ _), ((sw_ne (by omega)).trans ((sw_ne (by omega)).trans ((sw_ne (by omega)).trans (sw_at _ _ _)))), ((sw_ne (by omega)).trans ((sw_ne (by omega)).trans ((sw_ne (by omega)).trans ((sw_ne (by omega)).trans ((sw_ne (by omega)).trans (sw_at _ _ _)))))), ((sw_ne (by omega)).trans ((sw_ne (by omega)).trans ((sw_ne (by omega)).trans ((sw_ne (by omega)).trans (sw_at _ _ _))))), ((sw_ne (by omega)).trans ((sw_ne (by omega)).trans ((sw_ne (by omega)).trans ((sw_ne (by omega)).trans ((sw_ne (by omega)).trans ((sw_ne (by omega)).trans p4)))))), ((sw_ne (by omega)).trans ((sw_ne (by omega)).trans (sw_at _ _ _))), ((sw_ne (by omega)).trans ((sw_ne (by omega)).trans ((sw_ne (by omega)).trans ((sw_ne (by omega)).trans ((sw_ne (by omega)).trans ((sw_ne (by omega)).trans p6)))))), ((sw_ne (by omega)).trans ((sw_ne (by omega)).trans ((sw_ne (by omega)).trans ((sw_ne (by omega)).trans ((sw_ne (by omega)).trans ((sw_ne (by omega)).trans p7)))))), ((sw_ne (by omega)).trans ((sw_ne (by omega)).trans ((sw_ne (by omega)).trans ((sw_ne (by omega)).trans ((sw_ne (by omega)).trans ((sw_ne (by omega)).trans p8)))))), ((sw_ne (by omega)).trans ((sw_ne (by omega)).trans ((sw_ne (by omega)).trans ((sw_ne (by omega)).trans ((sw_ne (by omega)).trans ((sw_ne (by omega)).trans p9)))))), ((sw_ne (by omega)).trans (sw_at _ _ _)), ((sw_ne (by omega)).trans ((sw_ne (by omega)).trans ((sw_ne (by omega)).trans ((sw_ne (by omega)).trans ((sw_ne (by omega)).trans ((sw_ne (by omega)).trans p11)))))), ((sw_ne (by omega)).trans ((sw_ne (by omega)).trans ((sw_ne (by omega)).trans ((sw_ne (by omega)).trans ((sw_ne (by omega)).trans ((sw_ne (by omega)).trans p12)))))), ((sw_ne (by omega)).trans ((sw_ne (by omega)).trans ((sw_ne (by omega)).trans ((sw_ne (by omega)).trans ((sw_ne (by omega)).trans ((sw_ne (by omega)).trans p13)))))), ((sw_ne (by omega)).trans ((sw_ne (by omega)).trans ((sw_ne (by omega)).trans ((sw_ne (by omega)).trans ((sw_ne (by omega)).trans ((sw_ne (by omega)).trans p14)))))), ((sw_ne (by omega)).trans ((sw_ne (by omega)).trans ((sw_ne (by omega)).trans ((sw_ne (by omega)).trans ((sw_ne (by omega)).trans ((sw_ne (by omega)).trans p15)))))), ((sw_ne (by omega)).trans ((sw_ne (by omega)).trans ((sw_ne (by omega)).trans ((sw_ne (by omega)).trans ((sw_ne (by omega)).trans ((sw_ne (by omega)).trans p16)))))), ((sw_ne (by omega)).trans ((sw_ne (by omega)).trans ((sw_ne (by omega)).trans ((sw_ne (by omega)).trans ((sw_ne (by omega)).trans ((sw_ne (by omega)).trans p17))))))⟩
  have f0 : ∀ (f : Nat → Int) (i : Nat), i < 30 → flF 0 0 30 f i = 0 := fun f i hi => by rw [flF_at, if_pos (by omega)]
  have hb : nB (iniW l) = 0 := rfl
  have hp : nP (iniW l) = 0 := rfl
  have An : Ab (va_up (va_up (va_up d 0 (flF 0 0 30 (d 0))) 1 (flF 0 0 30 (d 1))) 14 (fun _ => 0)) (iniW l) := ⟨fun i hi => (f0 (d 0) i hi).trans (ini_ne (by omega)).symm, fun i hi => (f0 (d 1) i hi).trans (ini_ne (by omega)).symm, fun i hi => by rw [show iniW l 4 = 0 from rfl] at hi; omega, fun b hi => by rw [hb] at hi; omega, fun b hi => by rw [hb] at hi; omega, fun b hi => by rw [hb] at hi; omega, fun b hi => by rw [hb] at hi; omega, fun p hi => by rw [hp] at hi; omega, fun p hi => by rw [hp] at hi; omega, fun p hi => by rw [hp] at hi; omega, fun p hi => by rw [hp] at hi; omega, fun p hi => by rw [hp] at hi; omega, fun p hi => by rw [hp] at hi; omega, fun p hi => by rw [hp] at hi; omega, rfl⟩
  refine ⟨_, Ct.of [aR B, aI l] rfl ?_, ⟨_, Wn, An⟩, ((((((Fr.rf).sw (by omega) (by omega)).sw (by omega) (by omega)).sw (by omega) (by omega)).sw (by omega) (by omega)).sw (by omega) (by omega)).sw (by omega) (by omega)⟩
  refine r_aldR cd_75_0 rfl rfl ?_
  refine r_get cd_75_1 rfl p0 rfl ?_
  refine r_ild cd_75_4 rfl rfl ?_
  refine r_cV (x_49 W l) cd_75_5 rfl rfl rfl (rc0 p1 rfl) rfl rfl rfl ?_
  refine r_aldR cd_75_8 rfl rfl ?_
  refine r_get cd_75_9 rfl ((sw_ne (by omega)).trans ((sw_ne (by omega)).trans ((sw_ne (by omega)).trans p0))) rfl ?_
  refine r_con (v := 0) cd_75_12 rfl (by decide) ?_
  refine r_put (fs' := [aR (B + 6), aR (B + 7), aR (B + 8), aR (B + 9), aI 0]) cd_75_13 rfl ((sw_ne (by omega)).trans ((sw_ne (by omega)).trans ((sw_ne (by omega)).trans p5))) rfl rfl ?_
  refine r_aldR cd_75_16 rfl rfl ?_
  refine r_get cd_75_17 rfl ((sw_ne (by omega)).trans ((sw_ne (by omega)).trans ((sw_ne (by omega)).trans ((sw_ne (by omega)).trans p0)))) rfl ?_
  refine r_con (v := 0) cd_75_20 rfl (by decide) ?_
  refine r_put (fs' := [aR (B + 11), aR (B + 12), aR (B + 13), aR (B + 14), aR (B + 15), aR (B + 16), aR (B + 17), aI 0]) cd_75_21 rfl ((sw_ne (by omega)).trans ((sw_ne (by omega)).trans ((sw_ne (by omega)).trans ((sw_ne (by omega)).trans p10)))) rfl rfl ?_
  refine r_aldR cd_75_24 rfl rfl ?_
  refine r_con (v := 0) cd_75_25 rfl (by decide) ?_
  refine r_put (fs' := [aR (B + 1), aR (B + 5), aR (B + 10), aI 0, aI (v 2), aI (v 7), aI (v 8), aI (d 14 0), aI (d 14 1), aI (v 10)]) cd_75_26 rfl ((sw_ne (by omega)).trans ((sw_ne (by omega)).trans ((sw_ne (by omega)).trans ((sw_ne (by omega)).trans ((sw_ne (by omega)).trans p0))))) rfl rfl ?_
  refine r_aldR cd_75_29 rfl rfl ?_
  refine r_con (v := 50) cd_75_30 rfl (by decide) ?_
  refine r_put (fs' := [aR (B + 1), aR (B + 5), aR (B + 10), aI 0, aI 50, aI (v 7), aI (v 8), aI (d 14 0), aI (d 14 1), aI (v 10)]) cd_75_32 rfl (sw_at _ _ _) rfl rfl ?_
  rw [sw_sw]
  refine r_aldR cd_75_35 rfl rfl ?_
  refine r_con (v := 0) cd_75_36 rfl (by decide) ?_
  refine r_put (fs' := [aR (B + 1), aR (B + 5), aR (B + 10), aI 0, aI 50, aI 0, aI (v 8), aI (d 14 0), aI (d 14 1), aI (v 10)]) cd_75_37 rfl (sw_at _ _ _) rfl rfl ?_
  rw [sw_sw]
  refine r_aldR cd_75_40 rfl rfl ?_
  refine r_con (v := 0) cd_75_41 rfl (by decide) ?_
  refine r_put (fs' := [aR (B + 1), aR (B + 5), aR (B + 10), aI 0, aI 50, aI 0, aI 0, aI (d 14 0), aI (d 14 1), aI (v 10)]) cd_75_42 rfl (sw_at _ _ _) rfl rfl ?_
  rw [sw_sw]
  refine r_aldR cd_75_45 rfl rfl ?_
  refine r_con (v := 0) cd_75_46 rfl (by decide) ?_
  refine r_put (fs' := [aR (B + 1), aR (B + 5), aR (B + 10), aI 0, aI 50, aI 0, aI 0, aI 0, aI (d 14 1), aI (v 10)]) cd_75_47 rfl (sw_at _ _ _) rfl rfl ?_
  rw [sw_sw]
  refine r_aldR cd_75_50 rfl rfl ?_
  refine r_con (v := 0) cd_75_51 rfl (by decide) ?_
  refine r_put (fs' := [aR (B + 1), aR (B + 5), aR (B + 10), aI 0, aI 50, aI 0, aI 0, aI 0, aI 0, aI (v 10)]) cd_75_52 rfl (sw_at _ _ _) rfl rfl ?_
  rw [sw_sw]
  refine r_aldR cd_75_55 rfl rfl ?_
  refine r_con (v := 0) cd_75_56 rfl (by decide) ?_
  refine r_put (fs' := [aR (B + 1), aR (B + 5), aR (B + 10), aI 0, aI 50, aI 0, aI 0, aI 0, aI 0, aI 0]) cd_75_57 rfl (sw_at _ _ _) rfl rfl ?_
  rw [sw_sw]
  exact r_void cd_75_60 rfl (rfl)
theorem v_84_0 {h : aH} {B : Nat} {w : Nat → Int} (hR : Rp h B w) (hI : Inv0 w) (x : Nat) (g0 : x < 30) (v : Int) (c9 d9 : Int) : ∃ h', Ct 5 84 [aR B, aC 4, aI ((x : Nat) : Int), aI v, aI c9, aI d9] h (.inl (some (aI (w (23 + x)))), h') ∧ Rp h' B (va_up w (23 + x) v) ∧ Fr B h h' := by
  obtain ⟨c, ⟨o0, o1, o2, o3, o4, o5, o6, o7, o8, o9, o10, o11, o12, o13, o14, o15, o16, o17⟩, a0, a1, a2, a3, a4, a5, a6, a7, a8, a9, a10, a11, a12, a13, a14⟩ := id hR
  obtain ⟨h1, d1, R1, F1⟩ := v_52 hR hI x v g0
  refine ⟨h1, Ct.of [aR B, aC 4, aI ((x : Nat) : Int), aI v, aI c9, aI d9] rfl ?_, R1, F1⟩
  refine r_cst cd_84_0 rfl ?_
  refine r_aldC cd_84_3 rfl rfl ?_
  refine r_cI (k_385 0 (by decide)) cd_84_4 rfl rfl rfl ⟨by decide, by decide⟩ rfl rfl rfl ?_
  refine r_arrC (t := 0) (i := 0) cd_84_7 rfl (by decide) rfl rfl rfl (by decide) rfl ?_
  refine RU.cast (pc2 := 8) (S2 := [aI 12]) rfl rfl rfl ?_
  refine r_tsw (t := 84) cd_84_8 ⟨by omega, by omega⟩ (by decide) ?_
  refine r_aldR cd_84_84 rfl rfl ?_
  refine r_get cd_84_85 rfl o0 rfl ?_
  refine r_ild cd_84_88 rfl rfl ?_
  refine r_ild cd_84_89 rfl rfl ?_
  refine r_cI d1 cd_84_90 rfl rfl rfl (rc0 o1 rfl) rfl rfl rfl ?_
  exact r_ret cd_84_93 True.intro (rfl)
theorem v_84_1 {h : aH} {B : Nat} {w : Nat → Int} (hR : Rp h B w) (hI : Inv0 w) (x : Nat) (g0 : x < 30) (v : Int) (c9 d9 : Int) : ∃ h', Ct 5 84 [aR B, aC 5, aI ((x : Nat) : Int), aI v, aI c9, aI d9] h (.inl (some (aI (w (53 + x)))), h') ∧ Rp h' B (va_up w (53 + x) v) ∧ Fr B h h' := by
  obtain ⟨c, ⟨o0, o1, o2, o3, o4, o5, o6, o7, o8, o9, o10, o11, o12, o13, o14, o15, o16, o17⟩, a0, a1, a2, a3, a4, a5, a6, a7, a8, a9, a10, a11, a12, a13, a14⟩ := id hR
  obtain ⟨h1, d1, R1, F1⟩ := v_53 hR hI x v g0
  refine ⟨h1, Ct.of [aR B, aC 5, aI ((x : Nat) : Int), aI v, aI c9, aI d9] rfl ?_, R1, F1⟩
  refine r_cst cd_84_0 rfl ?_
  refine r_aldC cd_84_3 rfl rfl ?_
  refine r_cI (k_385 1 (by decide)) cd_84_4 rfl rfl rfl ⟨by decide, by decide⟩ rfl rfl rfl ?_
  refine r_arrC (t := 0) (i := 1) cd_84_7 rfl (by decide) rfl rfl rfl (by decide) rfl ?_
  refine RU.cast (pc2 := 8) (S2 := [aI 13]) rfl rfl rfl ?_
  refine r_tsw (t := 94) cd_84_8 ⟨by omega, by omega⟩ (by decide) ?_
  refine r_aldR cd_84_94 rfl rfl ?_
  refine r_get cd_84_95 rfl o0 rfl ?_
  refine r_ild cd_84_98 rfl rfl ?_
  refine r_ild cd_84_99 rfl rfl ?_
  refine r_cI d1 cd_84_100 rfl rfl rfl (rc0 o1 rfl) rfl rfl rfl ?_
  exact r_ret cd_84_103 True.intro (rfl)
theorem v_84_2 {h : aH} {B : Nat} {w : Nat → Int} (hR : Rp h B w) (hI : Inv0 w) (g : Int) (g0 : w 4 < 12) (b9 c9 d9 : Int) : ∃ h', Ct 5 84 [aR B, aC 6, aI g, aI b9, aI c9, aI d9] h (.inl (some (aI (w 4 + 1))), h') ∧ Rp h' B (blowW w g) ∧ Fr B h h' := by
  obtain ⟨c, ⟨o0, o1, o2, o3, o4, o5, o6, o7, o8, o9, o10, o11, o12, o13, o14, o15, o16, o17⟩, a0, a1, a2, a3, a4, a5, a6, a7, a8, a9, a10, a11, a12, a13, a14⟩ := id hR
  obtain ⟨h1, d1, R1, F1⟩ := v_54 hR hI g g0
  refine ⟨h1, Ct.of [aR B, aC 6, aI g, aI b9, aI c9, aI d9] rfl ?_, R1, F1⟩
  refine r_cst cd_84_0 rfl ?_
  refine r_aldC cd_84_3 rfl rfl ?_
  refine r_cI (k_385 2 (by decide)) cd_84_4 rfl rfl rfl ⟨by decide, by decide⟩ rfl rfl rfl ?_
  refine r_arrC (t := 0) (i := 2) cd_84_7 rfl (by decide) rfl rfl rfl (by decide) rfl ?_
  refine RU.cast (pc2 := 8) (S2 := [aI 1]) rfl rfl rfl ?_
  refine r_tsw (t := 104) cd_84_8 ⟨by omega, by omega⟩ (by decide) ?_
  refine r_aldR cd_84_104 rfl rfl ?_
  refine r_get cd_84_105 rfl o0 rfl ?_
  refine r_ild cd_84_108 rfl rfl ?_
  refine r_cI d1 cd_84_109 rfl rfl rfl (rc0 o1 rfl) rfl rfl rfl ?_
  exact r_ret cd_84_112 True.intro (rfl)
theorem v_84_3 {h : aH} {B : Nat} {w : Nat → Int} (hR : Rp h B w) (hI : Inv0 w) (v : Int) (b9 c9 d9 : Int) : ∃ h', Ct 5 84 [aR B, aC 7, aI v, aI b9, aI c9, aI d9] h (.inl (some (aI (w 3))), h') ∧ Rp h' B (va_up w 3 v) ∧ Fr B h h' := by
  obtain ⟨c, ⟨o0, o1, o2, o3, o4, o5, o6, o7, o8, o9, o10, o11, o12, o13, o14, o15, o16, o17⟩, a0, a1, a2, a3, a4, a5, a6, a7, a8, a9, a10, a11, a12, a13, a14⟩ := id hR
  obtain ⟨h1, d1, R1, F1⟩ := v_55 hR hI v
  refine ⟨h1, Ct.of [aR B, aC 7, aI v, aI b9, aI c9, aI d9] rfl ?_, R1, F1⟩
  refine r_cst cd_84_0 rfl ?_
  refine r_aldC cd_84_3 rfl rfl ?_
  refine r_cI (k_385 3 (by decide)) cd_84_4 rfl rfl rfl ⟨by decide, by decide⟩ rfl rfl rfl ?_
  refine r_arrC (t := 0) (i := 3) cd_84_7 rfl (by decide) rfl rfl rfl (by decide) rfl ?_
  refine RU.cast (pc2 := 8) (S2 := [aI 14]) rfl rfl rfl ?_
  refine r_tsw (t := 113) cd_84_8 ⟨by omega, by omega⟩ (by decide) ?_
  refine r_aldR cd_84_113 rfl rfl ?_
  refine r_get cd_84_114 rfl o0 rfl ?_
  refine r_ild cd_84_117 rfl rfl ?_
  refine r_cI d1 cd_84_118 rfl rfl rfl (rc0 o1 rfl) rfl rfl rfl ?_
  exact r_ret cd_84_121 True.intro (rfl)
theorem v_84_4 {h : aH} {B : Nat} {w : Nat → Int} (hR : Rp h B w) (hI : Inv0 w) (x l t : Int) (g0 : w 5 < 8) (d9 : Int) : ∃ h', Ct 5 84 [aR B, aC 8, aI x, aI l, aI t, aI d9] h (.inl (some (aI (w 5))), h') ∧ Rp h' B (brinW w x l t) ∧ Fr B h h' := by
  obtain ⟨c, ⟨o0, o1, o2, o3, o4, o5, o6, o7, o8, o9, o10, o11, o12, o13, o14, o15, o16, o17⟩, a0, a1, a2, a3, a4, a5, a6, a7, a8, a9, a10, a11, a12, a13, a14⟩ := id hR
  obtain ⟨h1, d1, R1, F1⟩ := v_85 hR hI x l t g0
  refine ⟨h1, Ct.of [aR B, aC 8, aI x, aI l, aI t, aI d9] rfl ?_, R1, F1⟩
  refine r_cst cd_84_0 rfl ?_
  refine r_aldC cd_84_3 rfl rfl ?_
  refine r_cI (k_385 4 (by decide)) cd_84_4 rfl rfl rfl ⟨by decide, by decide⟩ rfl rfl rfl ?_
  refine r_arrC (t := 0) (i := 4) cd_84_7 rfl (by decide) rfl rfl rfl (by decide) rfl ?_
  refine RU.cast (pc2 := 8) (S2 := [aI 2]) rfl rfl rfl ?_
  refine r_tsw (t := 122) cd_84_8 ⟨by omega, by omega⟩ (by decide) ?_
  refine r_aldR cd_84_122 rfl rfl ?_
  refine r_ild cd_84_123 rfl rfl ?_
  refine r_ild cd_84_124 rfl rfl ?_
  refine r_ild cd_84_125 rfl rfl ?_
  refine r_cI d1 cd_84_127 rfl rfl rfl (rc0 o0 rfl) rfl rfl rfl ?_
  exact r_ret cd_84_130 True.intro (rfl)
theorem v_84_5 {h : aH} {B : Nat} {w : Nat → Int} (hR : Rp h B w) (hI : Inv0 w) (g x z n : Int) (g0 : w 6 < 16) : ∃ h', Ct 5 84 [aR B, aC 9, aI g, aI x, aI z, aI n] h (.inl (some (aI (((nP w : Nat) : Int)))), h') ∧ Rp h' B (postW w g x z n) ∧ Fr B h h' := by
  obtain ⟨c, ⟨o0, o1, o2, o3, o4, o5, o6, o7, o8, o9, o10, o11, o12, o13, o14, o15, o16, o17⟩, a0, a1, a2, a3, a4, a5, a6, a7, a8, a9, a10, a11, a12, a13, a14⟩ := id hR
  obtain ⟨h1, d1, R1, F1⟩ := v_22 hR hI g x z n g0
  refine ⟨h1, Ct.of [aR B, aC 9, aI g, aI x, aI z, aI n] rfl ?_, R1, F1⟩
  refine r_cst cd_84_0 rfl ?_
  refine r_aldC cd_84_3 rfl rfl ?_
  refine r_cI (k_385 5 (by decide)) cd_84_4 rfl rfl rfl ⟨by decide, by decide⟩ rfl rfl rfl ?_
  refine r_arrC (t := 0) (i := 5) cd_84_7 rfl (by decide) rfl rfl rfl (by decide) rfl ?_
  refine RU.cast (pc2 := 8) (S2 := [aI 3]) rfl rfl rfl ?_
  refine r_tsw (t := 131) cd_84_8 ⟨by omega, by omega⟩ (by decide) ?_
  refine r_aldR cd_84_131 rfl rfl ?_
  refine r_get cd_84_132 rfl o0 rfl ?_
  refine r_ild cd_84_135 rfl rfl ?_
  refine r_ild cd_84_136 rfl rfl ?_
  refine r_ild cd_84_137 rfl rfl ?_
  refine r_ild cd_84_139 rfl rfl ?_
  refine r_cI d1 cd_84_141 rfl rfl rfl (rc0 o10 rfl) rfl rfl rfl ?_
  exact r_ret cd_84_144 True.intro (rfl)
theorem v_84_6 {h : aH} {B : Nat} {w : Nat → Int} (hR : Rp h B w) (hI : Inv0 w) (p b : Nat) (g0 : p < nP w) (g1 : b < nB w) (g2 : ¬ pa w p 4 = 2) (c9 d9 : Int) : ∃ h', Ct 5 84 [aR B, aC 10, aI ((p : Nat) : Int), aI ((b : Nat) : Int), aI c9, aI d9] h (.inl (some (aI (loadOf (putP w p 1 ((b : Nat) : Int)) b))), h') ∧ Rp h' B (putP w p 1 ((b : Nat) : Int)) ∧ Fr B h h' := by
  obtain ⟨c, ⟨o0, o1, o2, o3, o4, o5, o6, o7, o8, o9, o10, o11, o12, o13, o14, o15, o16, o17⟩, a0, a1, a2, a3, a4, a5, a6, a7, a8, a9, a10, a11, a12, a13, a14⟩ := id hR
  obtain ⟨h1, d1, R1, F1⟩ := v_86 hR hI p b g0 g1 g2
  refine ⟨h1, Ct.of [aR B, aC 10, aI ((p : Nat) : Int), aI ((b : Nat) : Int), aI c9, aI d9] rfl ?_, R1, F1⟩
  refine r_cst cd_84_0 rfl ?_
  refine r_aldC cd_84_3 rfl rfl ?_
  refine r_cI (k_385 6 (by decide)) cd_84_4 rfl rfl rfl ⟨by decide, by decide⟩ rfl rfl rfl ?_
  refine r_arrC (t := 0) (i := 6) cd_84_7 rfl (by decide) rfl rfl rfl (by decide) rfl ?_
  refine RU.cast (pc2 := 8) (S2 := [aI 4]) rfl rfl rfl ?_
  refine r_tsw (t := 145) cd_84_8 ⟨by omega, by omega⟩ (by decide) ?_
  refine r_aldR cd_84_145 rfl rfl ?_
  refine r_ild cd_84_146 rfl rfl ?_
  refine r_ild cd_84_147 rfl rfl ?_
  refine r_cI d1 cd_84_148 rfl rfl rfl (rc0 o0 rfl) rfl rfl rfl ?_
  exact r_ret cd_84_151 True.intro (rfl)
theorem v_84_7 {h : aH} {B : Nat} {w : Nat → Int} (hR : Rp h B w) (hI : Inv0 w) (p : Nat) (g0 : p < nP w) (g1 : pa w p 4 = 1) (b9 c9 d9 : Int) : ∃ h', Ct 5 84 [aR B, aC 11, aI ((p : Nat) : Int), aI b9, aI c9, aI d9] h (.inl (some (aI (pa w p 5))), h') ∧ Rp h' B (untW w p) ∧ Fr B h h' := by
  obtain ⟨c, ⟨o0, o1, o2, o3, o4, o5, o6, o7, o8, o9, o10, o11, o12, o13, o14, o15, o16, o17⟩, a0, a1, a2, a3, a4, a5, a6, a7, a8, a9, a10, a11, a12, a13, a14⟩ := id hR
  obtain ⟨h1, d1, R1, F1⟩ := v_87 hR hI p g0 g1
  refine ⟨h1, Ct.of [aR B, aC 11, aI ((p : Nat) : Int), aI b9, aI c9, aI d9] rfl ?_, R1, F1⟩
  refine r_cst cd_84_0 rfl ?_
  refine r_aldC cd_84_3 rfl rfl ?_
  refine r_cI (k_385 7 (by decide)) cd_84_4 rfl rfl rfl ⟨by decide, by decide⟩ rfl rfl rfl ?_
  refine r_arrC (t := 0) (i := 7) cd_84_7 rfl (by decide) rfl rfl rfl (by decide) rfl ?_
  refine RU.cast (pc2 := 8) (S2 := [aI 5]) rfl rfl rfl ?_
  refine r_tsw (t := 152) cd_84_8 ⟨by omega, by omega⟩ (by decide) ?_
  refine r_aldR cd_84_152 rfl rfl ?_
  refine r_ild cd_84_153 rfl rfl ?_
  refine r_cI d1 cd_84_154 rfl rfl rfl (rc0 o0 rfl) rfl rfl rfl ?_
  exact r_ret cd_84_157 True.intro (rfl)
theorem v_84_8 {h : aH} {B : Nat} {w : Nat → Int} (hR : Rp h B w) (hI : Inv0 w) (b : Nat) (g0 : b < nB w) (b9 c9 d9 : Int) : ∃ h', Ct 5 84 [aR B, aC 12, aI ((b : Nat) : Int), aI b9, aI c9, aI d9] h (.inl (some (aI (hOf (sbo w b 3 1) b))), h') ∧ Rp h' B (sbo w b 3 1) ∧ Fr B h h' := by
  obtain ⟨c, ⟨o0, o1, o2, o3, o4, o5, o6, o7, o8, o9, o10, o11, o12, o13, o14, o15, o16, o17⟩, a0, a1, a2, a3, a4, a5, a6, a7, a8, a9, a10, a11, a12, a13, a14⟩ := id hR
  obtain ⟨h1, d1, R1, F1⟩ := v_89 hR hI b g0
  refine ⟨h1, Ct.of [aR B, aC 12, aI ((b : Nat) : Int), aI b9, aI c9, aI d9] rfl ?_, R1, F1⟩
  refine r_cst cd_84_0 rfl ?_
  refine r_aldC cd_84_3 rfl rfl ?_
  refine r_cI (k_385 8 (by decide)) cd_84_4 rfl rfl rfl ⟨by decide, by decide⟩ rfl rfl rfl ?_
  refine r_arrC (t := 0) (i := 8) cd_84_7 rfl (by decide) rfl rfl rfl (by decide) rfl ?_
  refine RU.cast (pc2 := 8) (S2 := [aI 6]) rfl rfl rfl ?_
  refine r_tsw (t := 158) cd_84_8 ⟨by omega, by omega⟩ (by decide) ?_
  refine r_aldR cd_84_158 rfl rfl ?_
  refine r_ild cd_84_159 rfl rfl ?_
  refine r_cI d1 cd_84_160 rfl rfl rfl (rc0 o0 rfl) rfl rfl rfl ?_
  exact r_ret cd_84_163 True.intro (rfl)
theorem v_84_9 {h : aH} {B : Nat} {w : Nat → Int} (hR : Rp h B w) (hI : Inv0 w) (b : Nat) (g0 : b < nB w) (b9 c9 d9 : Int) : ∃ h', Ct 5 84 [aR B, aC 13, aI ((b : Nat) : Int), aI b9, aI c9, aI d9] h (.inl (some (aI (bo w b 0))), h') ∧ Rp h' B (sbo w b 3 0) ∧ Fr B h h' := by
  obtain ⟨c, ⟨o0, o1, o2, o3, o4, o5, o6, o7, o8, o9, o10, o11, o12, o13, o14, o15, o16, o17⟩, a0, a1, a2, a3, a4, a5, a6, a7, a8, a9, a10, a11, a12, a13, a14⟩ := id hR
  obtain ⟨h1, d1, R1, F1⟩ := v_90 hR hI b g0
  refine ⟨h1, Ct.of [aR B, aC 13, aI ((b : Nat) : Int), aI b9, aI c9, aI d9] rfl ?_, R1, F1⟩
  refine r_cst cd_84_0 rfl ?_
  refine r_aldC cd_84_3 rfl rfl ?_
  refine r_cI (k_385 9 (by decide)) cd_84_4 rfl rfl rfl ⟨by decide, by decide⟩ rfl rfl rfl ?_
  refine r_arrC (t := 0) (i := 9) cd_84_7 rfl (by decide) rfl rfl rfl (by decide) rfl ?_
  refine RU.cast (pc2 := 8) (S2 := [aI 7]) rfl rfl rfl ?_
  refine r_tsw (t := 164) cd_84_8 ⟨by omega, by omega⟩ (by decide) ?_
  refine r_aldR cd_84_164 rfl rfl ?_
  refine r_ild cd_84_165 rfl rfl ?_
  refine r_cI d1 cd_84_166 rfl rfl rfl (rc0 o0 rfl) rfl rfl rfl ?_
  exact r_ret cd_84_169 True.intro (rfl)
theorem v_84_10 {h : aH} {B : Nat} {w : Nat → Int} (hR : Rp h B w) (hI : Inv0 w) (b : Nat) (g0 : b < nB w) (b9 c9 d9 : Int) : ∃ h', Ct 5 84 [aR B, aC 14, aI ((b : Nat) : Int), aI b9, aI c9, aI d9] h (.inl (some (aI (freeN w b))), h') ∧ Rp h' B (freeW w b) ∧ Fr B h h' := by
  obtain ⟨c, ⟨o0, o1, o2, o3, o4, o5, o6, o7, o8, o9, o10, o11, o12, o13, o14, o15, o16, o17⟩, a0, a1, a2, a3, a4, a5, a6, a7, a8, a9, a10, a11, a12, a13, a14⟩ := id hR
  obtain ⟨h1, d1, R1, F1⟩ := v_91 hR hI b g0
  refine ⟨h1, Ct.of [aR B, aC 14, aI ((b : Nat) : Int), aI b9, aI c9, aI d9] rfl ?_, R1, F1⟩
  refine r_cst cd_84_0 rfl ?_
  refine r_aldC cd_84_3 rfl rfl ?_
  refine r_cI (k_385 10 (by decide)) cd_84_4 rfl rfl rfl ⟨by decide, by decide⟩ rfl rfl rfl ?_
  refine r_arrC (t := 0) (i := 10) cd_84_7 rfl (by decide) rfl rfl rfl (by decide) rfl ?_
  refine RU.cast (pc2 := 8) (S2 := [aI 8]) rfl rfl rfl ?_
  refine r_tsw (t := 170) cd_84_8 ⟨by omega, by omega⟩ (by decide) ?_
  refine r_aldR cd_84_170 rfl rfl ?_
  refine r_ild cd_84_171 rfl rfl ?_
  refine r_cI d1 cd_84_172 rfl rfl rfl (rc0 o0 rfl) rfl rfl rfl ?_
  exact r_ret cd_84_175 True.intro (rfl)
theorem v_84_11 {h : aH} {B : Nat} {w : Nat → Int} (hR : Rp h B w) (hI : Inv0 w) (b : Nat) (g : Int) (g0 : b < nB w) (c9 d9 : Int) : ∃ h', Ct 5 84 [aR B, aC 15, aI ((b : Nat) : Int), aI g, aI c9, aI d9] h (.inl (some (aI (bo w b 1 + g))), h') ∧ Rp h' B (fillW w b g) ∧ Fr B h h' := by
  obtain ⟨c, ⟨o0, o1, o2, o3, o4, o5, o6, o7, o8, o9, o10, o11, o12, o13, o14, o15, o16, o17⟩, a0, a1, a2, a3, a4, a5, a6, a7, a8, a9, a10, a11, a12, a13, a14⟩ := id hR
  obtain ⟨h1, d1, R1, F1⟩ := v_94 hR hI b g g0
  refine ⟨h1, Ct.of [aR B, aC 15, aI ((b : Nat) : Int), aI g, aI c9, aI d9] rfl ?_, R1, F1⟩
  refine r_cst cd_84_0 rfl ?_
  refine r_aldC cd_84_3 rfl rfl ?_
  refine r_cI (k_385 11 (by decide)) cd_84_4 rfl rfl rfl ⟨by decide, by decide⟩ rfl rfl rfl ?_
  refine r_arrC (t := 0) (i := 11) cd_84_7 rfl (by decide) rfl rfl rfl (by decide) rfl ?_
  refine RU.cast (pc2 := 8) (S2 := [aI 9]) rfl rfl rfl ?_
  refine r_tsw (t := 176) cd_84_8 ⟨by omega, by omega⟩ (by decide) ?_
  refine r_aldR cd_84_176 rfl rfl ?_
  refine r_ild cd_84_177 rfl rfl ?_
  refine r_ild cd_84_178 rfl rfl ?_
  refine r_cI d1 cd_84_179 rfl rfl rfl (rc0 o0 rfl) rfl rfl rfl ?_
  exact r_ret cd_84_182 True.intro (rfl)
theorem v_84_12 {h : aH} {B : Nat} {w : Nat → Int} (hR : Rp h B w) (hI : Inv0 w) (g : Int) (b9 c9 d9 : Int) : ∃ h', Ct 5 84 [aR B, aC 16, aI g, aI b9, aI c9, aI d9] h (.inl (some (aI (w 2 + g))), h') ∧ Rp h' B (va_up w 2 (w 2 + g)) ∧ Fr B h h' := by
  obtain ⟨c, ⟨o0, o1, o2, o3, o4, o5, o6, o7, o8, o9, o10, o11, o12, o13, o14, o15, o16, o17⟩, a0, a1, a2, a3, a4, a5, a6, a7, a8, a9, a10, a11, a12, a13, a14⟩ := id hR
  obtain ⟨h1, d1, R1, F1⟩ := v_95 hR hI g
  refine ⟨h1, Ct.of [aR B, aC 16, aI g, aI b9, aI c9, aI d9] rfl ?_, R1, F1⟩
  refine r_cst cd_84_0 rfl ?_
  refine r_aldC cd_84_3 rfl rfl ?_
  refine r_cI (k_385 12 (by decide)) cd_84_4 rfl rfl rfl ⟨by decide, by decide⟩ rfl rfl rfl ?_
  refine r_arrC (t := 0) (i := 12) cd_84_7 rfl (by decide) rfl rfl rfl (by decide) rfl ?_
  refine RU.cast (pc2 := 8) (S2 := [aI 10]) rfl rfl rfl ?_
  refine r_tsw (t := 183) cd_84_8 ⟨by omega, by omega⟩ (by decide) ?_
  refine r_aldR cd_84_183 rfl rfl ?_
  refine r_ild cd_84_184 rfl rfl ?_
  refine r_cI d1 cd_84_185 rfl rfl rfl (rc0 o0 rfl) rfl rfl rfl ?_
  exact r_ret cd_84_188 True.intro (rfl)
theorem v_84_13 {h : aH} {B : Nat} {w : Nat → Int} (hR : Rp h B w) (hI : Inv0 w) (x : Nat) (hx : x < 30) (n : Int) (hn : inR n) (p : Nat) (hf : foundP w ((x : Nat) : Int) n = ((p : Nat) : Int)) (c9 d9 : Int) : ∃ h', Ct 5 84 [aR B, aC 17, aI ((x : Nat) : Int), aI n, aI c9, aI d9] h (.inl (some (aI (paid w p))), h') ∧ Rp h' B (clmW w p) ∧ Fr B h h' := by
  obtain ⟨c, ⟨o0, o1, o2, o3, o4, o5, o6, o7, o8, o9, o10, o11, o12, o13, o14, o15, o16, o17⟩, a0, a1, a2, a3, a4, a5, a6, a7, a8, a9, a10, a11, a12, a13, a14⟩ := id hR
  obtain ⟨h1, d1, R1, F1⟩ := v_96 hR hI x hx n hn p hf
  refine ⟨h1, Ct.of [aR B, aC 17, aI ((x : Nat) : Int), aI n, aI c9, aI d9] rfl ?_, R1, F1⟩
  refine r_cst cd_84_0 rfl ?_
  refine r_aldC cd_84_3 rfl rfl ?_
  refine r_cI (k_385 13 (by decide)) cd_84_4 rfl rfl rfl ⟨by decide, by decide⟩ rfl rfl rfl ?_
  refine r_arrC (t := 0) (i := 13) cd_84_7 rfl (by decide) rfl rfl rfl (by decide) rfl ?_
  refine RU.cast (pc2 := 8) (S2 := [aI 15]) rfl rfl rfl ?_
  refine r_tsw (t := 189) cd_84_8 ⟨by omega, by omega⟩ (by decide) ?_
  refine r_aldR cd_84_189 rfl rfl ?_
  refine r_ild cd_84_190 rfl rfl ?_
  refine r_ild cd_84_191 rfl rfl ?_
  refine r_cI d1 cd_84_192 rfl rfl rfl (rc0 o0 rfl) rfl rfl rfl ?_
  exact r_ret cd_84_195 True.intro (rfl)
theorem v_84_14 {h : aH} {B : Nat} {w : Nat → Int} (hR : Rp h B w) (hI : Inv0 w) (n : Nat) (g0 : w 1 + n ≤ 100000) (b9 c9 d9 : Int) : ∃ h', Ct 5 84 [aR B, aC 18, aI ((n : Nat) : Int), aI b9, aI c9, aI d9] h (.inl (some (aI (passW w n 1))), h') ∧ Rp h' B (passW w n) ∧ Fr B h h' := by
  obtain ⟨c, ⟨o0, o1, o2, o3, o4, o5, o6, o7, o8, o9, o10, o11, o12, o13, o14, o15, o16, o17⟩, a0, a1, a2, a3, a4, a5, a6, a7, a8, a9, a10, a11, a12, a13, a14⟩ := id hR
  obtain ⟨h1, d1, R1, F1⟩ := v_97 hR hI n g0
  refine ⟨h1, Ct.of [aR B, aC 18, aI ((n : Nat) : Int), aI b9, aI c9, aI d9] rfl ?_, R1, F1⟩
  refine r_cst cd_84_0 rfl ?_
  refine r_aldC cd_84_3 rfl rfl ?_
  refine r_cI (k_385 14 (by decide)) cd_84_4 rfl rfl rfl ⟨by decide, by decide⟩ rfl rfl rfl ?_
  refine r_arrC (t := 0) (i := 14) cd_84_7 rfl (by decide) rfl rfl rfl (by decide) rfl ?_
  refine RU.cast (pc2 := 8) (S2 := [aI 11]) rfl rfl rfl ?_
  refine r_tsw (t := 196) cd_84_8 ⟨by omega, by omega⟩ (by decide) ?_
  refine r_aldR cd_84_196 rfl rfl ?_
  refine r_ild cd_84_197 rfl rfl ?_
  refine r_cI d1 cd_84_198 rfl rfl rfl (rc0 o0 rfl) rfl rfl rfl ?_
  exact r_ret cd_84_201 True.intro (rfl)
