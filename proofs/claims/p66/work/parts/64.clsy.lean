/-! THE CLASS: which command (written by wip/whole/gen64.py) -/
theorem wordF_s {tx : Nat → Int} {N i : Nat} : ∀ {l : List Nat} {k : Int}, (wordF tx N i l k = -1 ∧ ∀ (j a : Nat), l[j]? = some a → saysB tx N i (sT a) = false) ∨ ∃ (j a : Nat), l[j]? = some a ∧ wordF tx N i l k = k + (j : Int) ∧ saysB tx N i (sT a) = true ∧ ∀ (j' a' : Nat), j' < j → l[j']? = some a' → saysB tx N i (sT a') = false
  | [], k => Or.inl ⟨rfl, fun j a h => by simp at h⟩
  | b :: l, k => by
    cases hb : saysB tx N i (sT b)
    · have e : wordF tx N i (b :: l) k = wordF tx N i l (k + 1) := if_neg (by rw [hb]; simp)
      rw [e]
      rcases wordF_s (l := l) (k := k + 1) with ⟨h1, h2⟩ | ⟨j, a, h1, h2, h3, h4⟩
      · refine Or.inl ⟨h1, fun j a h => ?_⟩
        cases j with
        | zero =>
          simp at h
          subst h
          exact hb
        | succ j => exact h2 j a (by simpa using h)
      · refine Or.inr ⟨j + 1, a, by simpa using h1, by rw [h2]; omega, h3, fun j' a' hj h => ?_⟩
        cases j' with
        | zero =>
          simp at h
          subst h
          exact hb
        | succ j' => exact h4 j' a' (by omega) (by simpa using h)
    · have e : wordF tx N i (b :: l) k = k := if_pos hb
      exact Or.inr ⟨0, b, rfl, by rw [e]; simp, hb, fun j' a' h _ => by omega⟩
theorem wl_ok : (List.range 16).all (fun j => decide ((wl1 ++ wl2)[j]? = some (36 + j))) = true := by decide +kernel
theorem wl_at {j : Nat} (h : j < 16) : (wl1 ++ wl2)[j]? = some (36 + j) := of_decide_eq_true (List.all_eq_true.mp wl_ok j (List.mem_range.mpr h))
theorem wl_len : (wl1 ++ wl2).length = 16 := rfl
theorem cw_ok : (List.range 15).all (fun k => decide (19 ≤ cwdA k) && decide (cwdA k < 80) && decide (sT (cwdA k) = sT (36 + k)) && !decide (sT (36 + k) = sT 51)) = true := by decide +kernel
theorem cw_at {k : Nat} (h : k < 15) : 19 ≤ cwdA k ∧ cwdA k < 80 ∧ sT (cwdA k) = sT (36 + k) ∧ ¬ sT (36 + k) = sT 51 := by
  have h1 := List.all_eq_true.mp cw_ok k (List.mem_range.mpr h)
  simp only [Bool.and_eq_true, decide_eq_true_eq, Bool.not_eq_true', decide_eq_false_iff_not] at h1
  exact ⟨h1.1.1.1, h1.1.1.2, h1.1.2, h1.2⟩
theorem t_rep : sT 19 = sT 51 := by decide +kernel
theorem t_str : sT 20 = sT 52 := by decide +kernel
theorem wl_j {j a : Nat} (h : (wl1 ++ wl2)[j]? = some a) : j < 16 ∧ a = 36 + j := by
  have h1 : j < (wl1 ++ wl2).length := (List.getElem?_eq_some_iff.mp h).1
  rw [wl_len] at h1
  rw [wl_at h1] at h
  exact ⟨h1, (Option.some.inj h).symm⟩
theorem word_c {tx : Nat → Int} {N i c : Nat} (h : wordI tx N i = (c : Int)) : c < 16 ∧ saysB tx N i (sT (36 + c)) = true ∧ ∀ j, j < c → saysB tx N i (sT (36 + j)) = false := by
  unfold wordI at h
  rcases wordF_s (tx := tx) (N := N) (i := i) (l := wl1 ++ wl2) (k := 0) with ⟨h1, -⟩ | ⟨j, a, h1, h2, h3, h4⟩
  · omega
  · obtain ⟨g1, g2⟩ := wl_j h1
    have e : j = c := by omega
    subst e
    subst g2
    exact ⟨g1, h3, fun j' hj => h4 j' (36 + j') hj (wl_at (by omega))⟩
theorem word_n {tx : Nat → Int} {N i : Nat} (h : wordI tx N i = -1) : ∀ j, j < 16 → saysB tx N i (sT (36 + j)) = false := by
  unfold wordI at h
  rcases wordF_s (tx := tx) (N := N) (i := i) (l := wl1 ++ wl2) (k := 0) with ⟨-, h1⟩ | ⟨j, a, h1, h2, h3, h4⟩
  · exact fun j hj => h1 j _ (wl_at hj)
  · omega
theorem eqF_t {tx : Nat → Int} {o : Nat} {cs : List Int} : ∀ {m k : Nat}, eqF tx o cs m k = true → ∀ j, k ≤ j → j < k + m → tx (o + j) = cs.getD j 0
  | 0, k, _, j, h1, h2 => by omega
  | m + 1, k, h, j, h1, h2 => by
    rw [eq_s, Bool.and_eq_true] at h
    by_cases e : j = k
    · subst e; exact of_decide_eq_true h.1
    · exact eqF_t h.2 j (by omega) (by omega)
theorem says_u {tx : Nat → Int} {N i : Nat} {a b : List Int} (ha : saysB tx N i a = true) (hb : saysB tx N i b = true) : a = b := by
  unfold saysB at ha hb
  simp only [Bool.and_eq_true, decide_eq_true_eq] at ha hb
  obtain ⟨-, l1, e1⟩ := ha
  obtain ⟨-, l2, e2⟩ := hb
  have hl : a.length = b.length := by omega
  refine List.ext_getElem? fun j => ?_
  by_cases hj : j < a.length
  · have f1 := eqF_t e1 j (by omega) (by omega)
    have f2 := eqF_t e2 j (by omega) (by omega)
    have hj2 : j < b.length := by omega
    rw [List.getD_eq_getElem?_getD, List.getElem?_eq_getElem hj, Option.getD_some] at f1
    rw [List.getD_eq_getElem?_getD, List.getElem?_eq_getElem hj2, Option.getD_some] at f2
    rw [List.getElem?_eq_getElem hj, List.getElem?_eq_getElem hj2, ← f1, ← f2]
  · rw [List.getElem?_eq_none (by omega), List.getElem?_eq_none (by omega)]
theorem word_r {tx : Nat → Int} {N i : Nat} (h : saysB tx N i (sT 51) = true) : wordI tx N i = 15 := by
  have hb := wordI_b (tx := tx) (N := N) (i := i)
  by_cases hn : wordI tx N i = -1
  · have h1 := word_n hn 15 (by decide)
    rw [show 36 + 15 = 51 from rfl, h] at h1
    cases h1
  · obtain ⟨c, hc⟩ : ∃ c : Nat, wordI tx N i = (c : Int) := ⟨(wordI tx N i).toNat, by omega⟩
    obtain ⟨h1, h2, -⟩ := word_c hc
    by_cases h15 : c = 15
    · rw [hc, h15]; rfl
    · exact absurd (says_u h2 h) (cw_at (by omega)).2.2.2
theorem word_o {tx : Nat → Int} {N i : Nat} (h : wordI tx N i = 15) : saysB tx N i (sT 51) = true := (word_c (c := 15) h).2.1
theorem lk_44a {h : aH} {tx tb : Nat → Int} {N : Nat} (hN : N ≤ 600) (hT : ∀ k, k < N → BT (tx k) (tb k)) (dp ex ek eo : Int) (hS : h.2.2 201 = SO dp ex ek eo) (i : Nat) (hi : i ≤ N) (vl : Int) (hO : h.2.2 202 = TO N ((tOff tx N i : Nat) : Int) ((tEnd tx N i : Nat) : Int) (kM (tKnd tx N i)) vl) (hB : h.2.2 203 = .inl (1, 600, .inl tb)) (j : Nat) (hj : j < 15) (hy : saysB tx N i (sT (36 + j)) = true) (hn : ∀ k, k < j → saysB tx N i (sT (36 + k)) = false) : ∀ (m k : Nat), k + m = j → RU 6 44 (.inl (some (aC (4 + j))), h) (2, [aR 201, aI ((k : Nat) : Int)], [], 0, 0, h) := by
  intro m
  induction m with
  | zero =>
    intro k hm
    have e : k = j := by omega
    subst e
    have hw : saysB tx N i (sT (cwdA k)) = true := by rw [(cw_at hj).2.2.1]; exact hy
    refine r_ild cd_44_2 rfl rfl ?_
    refine r_cst cd_44_3 rfl ?_
    refine r_lenC cd_44_6 rfl (by decide) rfl ?_
    refine r_ic64 cd_44_7 rfl ⟨by omega, by omega⟩ ⟨by omega, by omega⟩ (fun n1 => ?_) (fun n1 => ?_)
    · refine r_aldR cd_44_10 rfl rfl ?_
      refine r_get cd_44_11 rfl hS rfl ?_
      refine r_cst cd_44_14 rfl ?_
      refine r_ild cd_44_17 rfl rfl ?_
      refine r_wldC (i := k) cd_44_18 rfl rfl rfl (by omega) rfl ?_
      show RU _ _ _ (_, _, aC (4 + k) :: _, _, _, _)
      refine r_cget (v := aC (cwdA k)) cd_44_19 rfl (by show (if 4 ≤ 4 + k ∧ 4 + k < 19 then _ else _) = _; rw [if_pos (by omega), show 4 + k - 4 = k by omega]) ?_
      refine r_cI (k_71 hN hT i hi vl hO hB (cwdA k) (cw_at (by omega)).1 (cw_at (by omega)).2.1) cd_44_22 rfl rfl rfl (rc0 hO rfl) rfl rfl rfl ?_
      refine r_if51b cd_44_25 rfl (fun n2 => ?_) (fun n2 => ?_)
      · exact Bool.noConfusion (n2.symm.trans hw)
      · refine r_cst cd_44_28 rfl ?_
        refine r_ild cd_44_31 rfl rfl ?_
        refine r_wldC (i := k) cd_44_32 rfl rfl rfl (by omega) rfl ?_
        show RU _ _ _ (_, _, aC (4 + k) :: _, _, _, _)
        exact r_ret cd_44_33 (by show ¬ 4 + k = 1; omega) (rfl)
    · exact absurd n1 (by omega)
  | succ m ih =>
    intro k hm
    have hw : saysB tx N i (sT (cwdA k)) = false := by rw [(cw_at (by omega)).2.2.1]; exact hn k (by omega)
    refine r_ild cd_44_2 rfl rfl ?_
    refine r_cst cd_44_3 rfl ?_
    refine r_lenC cd_44_6 rfl (by decide) rfl ?_
    refine r_ic64 cd_44_7 rfl ⟨by omega, by omega⟩ ⟨by omega, by omega⟩ (fun n1 => ?_) (fun n1 => ?_)
    · refine r_aldR cd_44_10 rfl rfl ?_
      refine r_get cd_44_11 rfl hS rfl ?_
      refine r_cst cd_44_14 rfl ?_
      refine r_ild cd_44_17 rfl rfl ?_
      refine r_wldC (i := k) cd_44_18 rfl rfl rfl (by omega) rfl ?_
      show RU _ _ _ (_, _, aC (4 + k) :: _, _, _, _)
      refine r_cget (v := aC (cwdA k)) cd_44_19 rfl (by show (if 4 ≤ 4 + k ∧ 4 + k < 19 then _ else _) = _; rw [if_pos (by omega), show 4 + k - 4 = k by omega]) ?_
      refine r_cI (k_71 hN hT i hi vl hO hB (cwdA k) (cw_at (by omega)).1 (cw_at (by omega)).2.1) cd_44_22 rfl rfl rfl (rc0 hO rfl) rfl rfl rfl ?_
      refine r_if51b cd_44_25 rfl (fun n2 => ?_) (fun n2 => ?_)
      · refine r_inc (v := ((k + 1 : Nat) : Int)) cd_44_34 rfl rfl rfl (by omega) (L' := [aR 201, aI ((k + 1 : Nat) : Int)]) rfl ?_
        refine r_goto cd_44_37 ?_
        exact ih (k + 1) (by omega)
      · exact Bool.noConfusion (n2.symm.trans hw)
    · exact absurd n1 (by omega)
theorem lk_44b {h : aH} {tx tb : Nat → Int} {N : Nat} (hN : N ≤ 600) (hT : ∀ k, k < N → BT (tx k) (tb k)) (dp ex ek eo : Int) (hS : h.2.2 201 = SO dp ex ek eo) (i : Nat) (hi : i ≤ N) (vl : Int) (hO : h.2.2 202 = TO N ((tOff tx N i : Nat) : Int) ((tEnd tx N i : Nat) : Int) (kM (tKnd tx N i)) vl) (hB : h.2.2 203 = .inl (1, 600, .inl tb)) (hn : ∀ k, k < 15 → saysB tx N i (sT (36 + k)) = false) : ∀ (m k : Nat), k + m = 15 → RU 6 44 (.inl (some (aN)), h) (2, [aR 201, aI ((k : Nat) : Int)], [], 0, 0, h) := by
  intro m
  induction m with
  | zero =>
    intro k hm
    refine r_ild cd_44_2 rfl rfl ?_
    refine r_cst cd_44_3 rfl ?_
    refine r_lenC cd_44_6 rfl (by decide) rfl ?_
    refine r_ic64 cd_44_7 rfl ⟨by omega, by omega⟩ ⟨by omega, by omega⟩ (fun n1 => ?_) (fun n1 => ?_)
    · exact absurd n1 (by omega)
    · refine r_nul cd_44_40 rfl ?_
      exact r_ret cd_44_41 True.intro (rfl)
  | succ m ih =>
    intro k hm
    have hw : saysB tx N i (sT (cwdA k)) = false := by rw [(cw_at (by omega)).2.2.1]; exact hn k (by omega)
    refine r_ild cd_44_2 rfl rfl ?_
    refine r_cst cd_44_3 rfl ?_
    refine r_lenC cd_44_6 rfl (by decide) rfl ?_
    refine r_ic64 cd_44_7 rfl ⟨by omega, by omega⟩ ⟨by omega, by omega⟩ (fun n1 => ?_) (fun n1 => ?_)
    · refine r_aldR cd_44_10 rfl rfl ?_
      refine r_get cd_44_11 rfl hS rfl ?_
      refine r_cst cd_44_14 rfl ?_
      refine r_ild cd_44_17 rfl rfl ?_
      refine r_wldC (i := k) cd_44_18 rfl rfl rfl (by omega) rfl ?_
      show RU _ _ _ (_, _, aC (4 + k) :: _, _, _, _)
      refine r_cget (v := aC (cwdA k)) cd_44_19 rfl (by show (if 4 ≤ 4 + k ∧ 4 + k < 19 then _ else _) = _; rw [if_pos (by omega), show 4 + k - 4 = k by omega]) ?_
      refine r_cI (k_71 hN hT i hi vl hO hB (cwdA k) (cw_at (by omega)).1 (cw_at (by omega)).2.1) cd_44_22 rfl rfl rfl (rc0 hO rfl) rfl rfl rfl ?_
      refine r_if51b cd_44_25 rfl (fun n2 => ?_) (fun n2 => ?_)
      · refine r_inc (v := ((k + 1 : Nat) : Int)) cd_44_34 rfl rfl rfl (by omega) (L' := [aR 201, aI ((k + 1 : Nat) : Int)]) rfl ?_
        refine r_goto cd_44_37 ?_
        exact ih (k + 1) (by omega)
      · exact Bool.noConfusion (n2.symm.trans hw)
    · exact absurd n1 (by omega)
theorem k_44a {h : aH} {tx tb : Nat → Int} {N : Nat} (hN : N ≤ 600) (hT : ∀ k, k < N → BT (tx k) (tb k)) (dp ex ek eo : Int) (hS : h.2.2 201 = SO dp ex ek eo) (i : Nat) (hi : i ≤ N) (vl : Int) (hO : h.2.2 202 = TO N ((tOff tx N i : Nat) : Int) ((tEnd tx N i : Nat) : Int) (kM (tKnd tx N i)) vl) (hB : h.2.2 203 = .inl (1, 600, .inl tb)) (j : Nat) (hj : j < 15) (hw : wordI tx N i = (j : Int)) : Ct 6 44 [aR 201] h (.inl (some (aC (4 + j))), h) := by
  obtain ⟨-, h1, h2⟩ := word_c hw
  refine Ct.of [aR 201, aU] rfl ?_
  refine r_con (v := 0) cd_44_0 rfl (by decide) ?_
  refine r_ist cd_44_1 rfl rfl (L' := [aR 201, aI 0]) rfl ?_
  exact lk_44a hN hT dp ex ek eo hS i hi vl hO hB j hj h1 h2 j 0 (by omega)
theorem k_44b {h : aH} {tx tb : Nat → Int} {N : Nat} (hN : N ≤ 600) (hT : ∀ k, k < N → BT (tx k) (tb k)) (dp ex ek eo : Int) (hS : h.2.2 201 = SO dp ex ek eo) (i : Nat) (hi : i ≤ N) (vl : Int) (hO : h.2.2 202 = TO N ((tOff tx N i : Nat) : Int) ((tEnd tx N i : Nat) : Int) (kM (tKnd tx N i)) vl) (hB : h.2.2 203 = .inl (1, 600, .inl tb)) (hw : wordI tx N i = -1) : Ct 6 44 [aR 201] h (.inl (some aN), h) := by
  have h1 := word_n hw
  refine Ct.of [aR 201, aU] rfl ?_
  refine r_con (v := 0) cd_44_0 rfl (by decide) ?_
  refine r_ist cd_44_1 rfl rfl (L' := [aR 201, aI 0]) rfl ?_
  exact lk_44b hN hT dp ex ek eo hS i hi vl hO hB (fun k hk => h1 k (by omega)) 15 0 (by omega)
theorem v_45_n {h : aH} (dp ex ek eo : Int) (hS : h.2.2 201 = SO dp ex ek eo) (N st nx kd vl : Int) (hO : h.2.2 202 = TO N st nx kd vl) : Ct 8 45 [aR 201, aN] h (.inl (some (aI 0)), sw h 201 (SO dp ex 1 st)) := by
  refine Ct.of [aR 201, aN, aU] rfl ?_
  refine r_aldN cd_45_0 rfl rfl ?_
  refine r_nnN cd_45_1 rfl ?_
  refine r_aldR cd_45_4 rfl rfl ?_
  refine r_con (v := 1) cd_45_5 rfl (by decide) ?_
  refine r_cI (k_36 dp ex ek eo hS N _ _ _ _ hO 1) cd_45_6 rfl rfl rfl (rc0 hS rfl) rfl rfl rfl ?_
  exact r_ret cd_45_9 (Or.inl rfl) (rfl)
theorem v_45_f {h : aH} (dp ex ek eo : Int) (hS : h.2.2 201 = SO dp ex ek eo) (N st nx kd vl : Int) (hO : h.2.2 202 = TO N st nx kd vl) (j : Nat) (hj : j < 15) (hx : 200 ≤ ex) (hx2 : ex ≤ 1000) : Ct 8 45 [aR 201, aC (4 + j)] h (.inl (some (aI 0)), sw h 201 (SO dp ex 5 st)) := by
  refine Ct.of [aR 201, aC (4 + j), aU] rfl ?_
  refine r_aldC cd_45_0 rfl rfl ?_
  refine r_nnC cd_45_1 ⟨by omega, by omega⟩ ?_
  refine r_aldR cd_45_10 rfl rfl ?_
  refine r_get cd_45_11 rfl hS rfl ?_
  refine r_con (v := 200) cd_45_14 rfl (by decide) ?_
  refine r_ic63 cd_45_17 rfl ⟨by omega, by omega⟩ ⟨by omega, by omega⟩ (fun n1 => ?_) (fun n1 => ?_)
  · exact absurd n1 (by omega)
  · refine r_aldR cd_45_20 rfl rfl ?_
    refine r_con (v := 5) cd_45_21 rfl (by decide) ?_
    refine r_cI (k_36 dp ex ek eo hS N _ _ _ _ hO 5) cd_45_22 rfl rfl rfl (rc0 hS rfl) rfl rfl rfl ?_
    exact r_ret cd_45_25 (Or.inl rfl) (rfl)
