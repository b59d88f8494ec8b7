/-! THE CLASS: reading a token; words; the text (written by wip/whole/gen60.py) -/
theorem v_64 {h : aH} {tx tb : Nat → Int} {N : Nat} (hN : N ≤ 600) (hT : ∀ k, k < N → BT (tx k) (tb k)) (st kd vl : Int) (i : Nat) (hi : i ≤ N) (hO : h.2.2 202 = TO N st ((i : Nat) : Int) kd vl) (hB : h.2.2 203 = .inl (1, 600, .inl tb)) : ∃ vl', Ct 3 64 [aR 202] h (.inl none, sw h 202 (TO N ((tOff tx N i : Nat) : Int) ((tEnd tx N i : Nat) : Int) (kM (tKnd tx N i)) vl')) ∧ (tKnd tx N i = 3 → vl' = tVal tx N i) := by
  have ho := tOff_b (tx := tx) hi
  obtain ⟨o, hoo⟩ : ∃ o, o = tOff tx N i := ⟨_, rfl⟩
  rw [← hoo] at ho
  have hk1 : ∀ res, RU 3 64 res (39, [aR 202], [], 0, 0, sw h 202 (TO N st ((o : Nat) : Int) kd vl)) → RU 3 64 res (0, [aR 202], [], 0, 0, h) := fun res hk => l1_64 hN hT st kd vl (N - i) i hO hB (by omega) (by rw [hoo] at hk; exact hk)
  by_cases hE : o = N
  · refine ⟨vl, ?_, fun e => ?_⟩
    rotate_left
    · have e2 : tKnd tx N i = 0 := by unfold tKnd; rw [← hoo, if_pos hE]
      rw [e2] at e; exact absurd e (by decide)
    rw [show tEnd tx N i = N by unfold tEnd; rw [← hoo, if_pos hE], show tKnd tx N i = 0 by unfold tKnd; rw [← hoo, if_pos hE], ← hoo]
    refine Ct.of [aR 202] rfl (hk1 _ ?_)
    refine r_aldR cd_64_39 rfl rfl ?_
    refine r_aldR cd_64_40 rfl rfl ?_
    refine r_get cd_64_41 rfl (sw_at _ _ _) rfl ?_
    refine r_put (fs' := [aR 203, aI ((N : Nat) : Int), aI ((o : Nat) : Int), aI ((o : Nat) : Int), aI kd, aI vl]) cd_64_44 rfl (sw_at _ _ _) rfl rfl ?_
    rw [sw_sw]
    refine r_aldR cd_64_47 rfl rfl ?_
    refine r_get cd_64_48 rfl (sw_at _ _ _) rfl ?_
    refine r_aldR cd_64_51 rfl rfl ?_
    refine r_get cd_64_52 rfl (sw_at _ _ _) rfl ?_
    refine r_ic63 cd_64_55 rfl ⟨by omega, by omega⟩ ⟨by omega, by omega⟩ (fun n1 => ?_) (fun n1 => ?_)
    · exact absurd n1 (by omega)
    · refine r_aldR cd_64_58 rfl rfl ?_
      refine r_con (v := 0) cd_64_59 rfl (by decide) ?_
      refine r_put (fs' := [aR 203, aI ((N : Nat) : Int), aI ((o : Nat) : Int), aI ((o : Nat) : Int), aI 0, aI vl]) cd_64_60 rfl (sw_at _ _ _) rfl rfl ?_
      rw [sw_sw]
      refine r_goto cd_64_63 ?_
      exact r_void cd_64_136 rfl (by rw [hE]; rfl)
  · have hTo := hT o (by omega)
    have hTu : BT (tx o) (tb o) := hTo
    unfold BT at hTu
    have s2 := srt_2 (c := tx o)
    have s3 := srt_3 (c := tx o)
    have eN : N - o = (N - (o + 1)) + 1 := by omega
    by_cases h2 : srt (tx o) = 2
    · have eE : tEnd tx N i = rnF tx 2 (N - o) o := by unfold tEnd; rw [← hoo, if_neg hE, if_pos (Or.inl h2), h2, eN, rn_s h2]
      have eK : tKnd tx N i = 2 := by unfold tKnd; rw [← hoo, if_neg hE, if_neg (fun e => by rw [h2] at e; exact absurd e.1 (by decide)), h2]
      refine ⟨vl, ?_, fun e => by rw [eK] at e; exact absurd e (by decide)⟩
      rw [eE, eK, ← hoo]
      have g2 := s2.mp h2
      refine Ct.of [aR 202] rfl (hk1 _ ?_)
      refine r_aldR cd_64_39 rfl rfl ?_
      refine r_aldR cd_64_40 rfl rfl ?_
      refine r_get cd_64_41 rfl (sw_at _ _ _) rfl ?_
      refine r_put (fs' := [aR 203, aI ((N : Nat) : Int), aI ((o : Nat) : Int), aI ((o : Nat) : Int), aI kd, aI vl]) cd_64_44 rfl (sw_at _ _ _) rfl rfl ?_
      rw [sw_sw]
      refine r_aldR cd_64_47 rfl rfl ?_
      refine r_get cd_64_48 rfl (sw_at _ _ _) rfl ?_
      refine r_aldR cd_64_51 rfl rfl ?_
      refine r_get cd_64_52 rfl (sw_at _ _ _) rfl ?_
      refine r_ic63 cd_64_55 rfl ⟨by omega, by omega⟩ ⟨by omega, by omega⟩ (fun n1 => ?_) (fun n1 => ?_)
      · refine r_aldR cd_64_66 rfl rfl ?_
        refine r_get cd_64_67 rfl (sw_at _ _ _) rfl ?_
        refine r_aldR cd_64_70 rfl rfl ?_
        refine r_get cd_64_71 rfl (sw_at _ _ _) rfl ?_
        refine r_arr (i := o) cd_64_74 rfl ((sw_ne (by decide)).trans hB) rfl (by omega) rfl ?_
        refine r_cI (k_66 (tb o) (hT o (by omega)).r) cd_64_75 rfl rfl rfl True.intro rfl rfl rfl ?_
        refine r_if51b cd_64_78 rfl (fun n2 => ?_) (fun n2 => ?_)
        · exact absurd (of_decide_eq_false n2) (by omega)
        · refine r_aldR cd_64_81 rfl rfl ?_
          refine r_cV (v_67 hN hT ((o : Nat) : Int) kd vl o (by omega) (sw_at _ _ _) ((sw_ne (by decide)).trans hB)) cd_64_82 rfl rfl rfl (rc0 (sw_at _ _ _) rfl) rfl rfl rfl ?_
          rw [sw_sw]
          refine r_goto cd_64_85 ?_
          exact r_void cd_64_136 rfl (rfl)
      · exact absurd n1 (by omega)
    · have g2 : ¬ (97 ≤ tx o ∧ tx o ≤ 122) := fun g => h2 (s2.mpr g)
      by_cases h3 : srt (tx o) = 3
      · have eE : tEnd tx N i = rnF tx 3 (N - o) o := by unfold tEnd; rw [← hoo, if_neg hE, if_pos (Or.inr h3), h3, eN, rn_s h3]
        have eK : kM (tKnd tx N i) = if 3 < ((rnF tx 3 (N - o) o : Nat) : Int) - ((o : Nat) : Int) then 6 else 2 := by
          unfold tKnd
          rw [← hoo, if_neg hE, eE, h3]
          by_cases e9 : 3 < ((rnF tx 3 (N - o) o : Nat) : Int) - ((o : Nat) : Int)
          · rw [if_pos ⟨rfl, e9⟩, if_pos e9]; rfl
          · rw [if_neg (fun e => e9 e.2), if_neg e9]; rfl
        refine ⟨itF (vaG tx) o (rnF tx 3 (N - o) o - o) 0, ?_, fun _ => by unfold tVal; rw [← hoo, eE]⟩
        rw [eE, eK, ← hoo]
        have g3 := s3.mp h3
        refine Ct.of [aR 202] rfl (hk1 _ ?_)
        refine r_aldR cd_64_39 rfl rfl ?_
        refine r_aldR cd_64_40 rfl rfl ?_
        refine r_get cd_64_41 rfl (sw_at _ _ _) rfl ?_
        refine r_put (fs' := [aR 203, aI ((N : Nat) : Int), aI ((o : Nat) : Int), aI ((o : Nat) : Int), aI kd, aI vl]) cd_64_44 rfl (sw_at _ _ _) rfl rfl ?_
        rw [sw_sw]
        refine r_aldR cd_64_47 rfl rfl ?_
        refine r_get cd_64_48 rfl (sw_at _ _ _) rfl ?_
        refine r_aldR cd_64_51 rfl rfl ?_
        refine r_get cd_64_52 rfl (sw_at _ _ _) rfl ?_
        refine r_ic63 cd_64_55 rfl ⟨by omega, by omega⟩ ⟨by omega, by omega⟩ (fun n1 => ?_) (fun n1 => ?_)
        · refine r_aldR cd_64_66 rfl rfl ?_
          refine r_get cd_64_67 rfl (sw_at _ _ _) rfl ?_
          refine r_aldR cd_64_70 rfl rfl ?_
          refine r_get cd_64_71 rfl (sw_at _ _ _) rfl ?_
          refine r_arr (i := o) cd_64_74 rfl ((sw_ne (by decide)).trans hB) rfl (by omega) rfl ?_
          refine r_cI (k_66 (tb o) (hT o (by omega)).r) cd_64_75 rfl rfl rfl True.intro rfl rfl rfl ?_
          refine r_if51b cd_64_78 rfl (fun n2 => ?_) (fun n2 => ?_)
          · refine r_aldR cd_64_88 rfl rfl ?_
            refine r_get cd_64_89 rfl (sw_at _ _ _) rfl ?_
            refine r_aldR cd_64_92 rfl rfl ?_
            refine r_get cd_64_93 rfl (sw_at _ _ _) rfl ?_
            refine r_arr (i := o) cd_64_96 rfl ((sw_ne (by decide)).trans hB) rfl (by omega) rfl ?_
            refine r_cI (k_68 (tb o) (hT o (by omega)).r) cd_64_97 rfl rfl rfl True.intro rfl rfl rfl ?_
            refine r_if51b cd_64_100 rfl (fun n3 => ?_) (fun n3 => ?_)
            · exact absurd (of_decide_eq_false n3) (by omega)
            · refine r_aldR cd_64_103 rfl rfl ?_
              refine r_cV (v_69 hN hT kd vl o (by omega) (sw_at _ _ _) ((sw_ne (by decide)).trans hB)) cd_64_104 rfl rfl rfl (rc0 (sw_at _ _ _) rfl) rfl rfl rfl ?_
              rw [sw_sw]
              refine r_goto cd_64_107 ?_
              exact r_void cd_64_136 rfl (rfl)
          · exact absurd (of_decide_eq_true n2) (by omega)
        · exact absurd n1 (by omega)
      · have g3 : ¬ (48 ≤ tx o ∧ tx o ≤ 57) := fun g => h3 (s3.mpr g)
        have eE : tEnd tx N i = o + 1 := by unfold tEnd; rw [← hoo, if_neg hE, if_neg (fun e => e.elim h2 h3)]
        have eK : tKnd tx N i = srt (tx o) := by unfold tKnd; rw [← hoo, if_neg hE, if_neg (fun e => h3 e.1)]
        refine ⟨vl, ?_, fun e => by rw [eK] at e; exact absurd e h3⟩
        rw [eE, eK, ← hoo]
        refine Ct.of [aR 202] rfl (hk1 _ ?_)
        refine r_aldR cd_64_39 rfl rfl ?_
        refine r_aldR cd_64_40 rfl rfl ?_
        refine r_get cd_64_41 rfl (sw_at _ _ _) rfl ?_
        refine r_put (fs' := [aR 203, aI ((N : Nat) : Int), aI ((o : Nat) : Int), aI ((o : Nat) : Int), aI kd, aI vl]) cd_64_44 rfl (sw_at _ _ _) rfl rfl ?_
        rw [sw_sw]
        refine r_aldR cd_64_47 rfl rfl ?_
        refine r_get cd_64_48 rfl (sw_at _ _ _) rfl ?_
        refine r_aldR cd_64_51 rfl rfl ?_
        refine r_get cd_64_52 rfl (sw_at _ _ _) rfl ?_
        refine r_ic63 cd_64_55 rfl ⟨by omega, by omega⟩ ⟨by omega, by omega⟩ (fun n1 => ?_) (fun n1 => ?_)
        · refine r_aldR cd_64_66 rfl rfl ?_
          refine r_get cd_64_67 rfl (sw_at _ _ _) rfl ?_
          refine r_aldR cd_64_70 rfl rfl ?_
          refine r_get cd_64_71 rfl (sw_at _ _ _) rfl ?_
          refine r_arr (i := o) cd_64_74 rfl ((sw_ne (by decide)).trans hB) rfl (by omega) rfl ?_
          refine r_cI (k_66 (tb o) (hT o (by omega)).r) cd_64_75 rfl rfl rfl True.intro rfl rfl rfl ?_
          refine r_if51b cd_64_78 rfl (fun n2 => ?_) (fun n2 => ?_)
          · refine r_aldR cd_64_88 rfl rfl ?_
            refine r_get cd_64_89 rfl (sw_at _ _ _) rfl ?_
            refine r_aldR cd_64_92 rfl rfl ?_
            refine r_get cd_64_93 rfl (sw_at _ _ _) rfl ?_
            refine r_arr (i := o) cd_64_96 rfl ((sw_ne (by decide)).trans hB) rfl (by omega) rfl ?_
            refine r_cI (k_68 (tb o) (hT o (by omega)).r) cd_64_97 rfl rfl rfl True.intro rfl rfl rfl ?_
            refine r_if51b cd_64_100 rfl (fun n3 => ?_) (fun n3 => ?_)
            · refine r_aldR cd_64_110 rfl rfl ?_
              refine r_aldR cd_64_111 rfl rfl ?_
              refine r_get cd_64_112 rfl (sw_at _ _ _) rfl ?_
              refine r_aldR cd_64_115 rfl rfl ?_
              refine r_get cd_64_116 rfl (sw_at _ _ _) rfl ?_
              refine r_arr (i := o) cd_64_119 rfl ((sw_ne (by decide)).trans hB) rfl (by omega) rfl ?_
              refine r_cI (k_70 (tb o) (hT o (by omega)).r (tx o) hTo h2 h3) cd_64_120 rfl rfl rfl True.intro rfl rfl rfl ?_
              refine r_put (fs' := [aR 203, aI ((N : Nat) : Int), aI ((o : Nat) : Int), aI ((o : Nat) : Int), aI (kM (srt (tx o))), aI vl]) cd_64_123 rfl (sw_at _ _ _) rfl rfl ?_
              rw [sw_sw]
              refine r_aldR cd_64_126 rfl rfl ?_
              refine r_dup cd_64_127 rfl rfl ?_
              refine r_get cd_64_128 rfl (sw_at _ _ _) rfl ?_
              refine r_con (v := 1) cd_64_131 rfl (by decide) ?_
              refine r_add (v := ((o + 1 : Nat) : Int)) cd_64_132 rfl (by omega) ?_
              refine r_put (fs' := [aR 203, aI ((N : Nat) : Int), aI ((o : Nat) : Int), aI ((o + 1 : Nat) : Int), aI (kM (srt (tx o))), aI vl]) cd_64_133 rfl (sw_at _ _ _) rfl rfl ?_
              rw [sw_sw]
              exact r_void cd_64_136 rfl (rfl)
            · exact absurd (of_decide_eq_true n3) (by omega)
          · exact absurd (of_decide_eq_true n2) (by omega)
        · exact absurd n1 (by omega)
theorem eq_s {tx : Nat → Int} {o : Nat} {cs : List Int} {m k : Nat} : eqF tx o cs (m + 1) k = (decide (tx (o + k) = cs.getD k 0) && eqF tx o cs m (k + 1)) := rfl
theorem lk_71 {h : aH} {tx tb : Nat → Int} {N : Nat} (hN : N ≤ 600) (hT : ∀ k, k < N → BT (tx k) (tb k)) (o e : Nat) (kd vl : Int) (hO : h.2.2 202 = TO N ((o : Nat) : Int) ((e : Nat) : Int) kd vl) (hB : h.2.2 203 = .inl (1, 600, .inl tb)) (j : Nat) (g0 : 19 ≤ j) (g1 : j < 80) (hl : o + (sT j).length ≤ N) : ∀ (m k : Nat) (r : Bool), k + m = (sT j).length → r = eqF tx o (sT j) m k → RU 5 71 (.inl (some (aI (bz r))), h) (28, [aR 202, aC j, aI ((k : Nat) : Int)], [], 0, 0, h) := by
  have hln := sT_len g0 g1
  intro m
  induction m with
  | zero =>
    intro k r hm hr
    refine r_ild cd_71_28 rfl rfl ?_
    refine r_aldC cd_71_29 rfl rfl ?_
    refine r_cI (c_378 j g0 g1) cd_71_30 rfl rfl rfl ⟨g0, g1⟩ rfl rfl rfl ?_
    refine r_ic64 cd_71_33 rfl ⟨by omega, by omega⟩ ⟨by omega, by omega⟩ (fun n1 => ?_) (fun n1 => ?_)
    · exact absurd n1 (by omega)
    · refine r_con (v := 1) cd_71_63 rfl (by decide) ?_
      exact r_ret cd_71_64 (Or.inr rfl) (rB (by rw [hr]; rfl))
  | succ m ih =>
    intro k r hm hr
    have hc := sT_ch (k := k) g0 g1
    have hTu : BT (tx (o + k)) (tb (o + k)) := hT (o + k) (by omega)
    unfold BT at hTu
    by_cases e9 : tx (o + k) = (sT j).getD k 0
    · have hr2 : r = eqF tx o (sT j) m (k + 1) := by rw [hr, eq_s, decide_eq_true e9, Bool.true_and]
      refine r_ild cd_71_28 rfl rfl ?_
      refine r_aldC cd_71_29 rfl rfl ?_
      refine r_cI (c_378 j g0 g1) cd_71_30 rfl rfl rfl ⟨g0, g1⟩ rfl rfl rfl ?_
      refine r_ic64 cd_71_33 rfl ⟨by omega, by omega⟩ ⟨by omega, by omega⟩ (fun n1 => ?_) (fun n1 => ?_)
      · refine r_aldR cd_71_36 rfl rfl ?_
        refine r_get cd_71_37 rfl hO rfl ?_
        refine r_aldR cd_71_40 rfl rfl ?_
        refine r_get cd_71_41 rfl hO rfl ?_
        refine r_ild cd_71_44 rfl rfl ?_
        refine r_add (v := ((o + k : Nat) : Int)) cd_71_45 rfl (by omega) ?_
        refine r_arr (i := o + k) cd_71_46 rfl hB rfl (by omega) rfl ?_
        refine r_aldC cd_71_47 rfl rfl ?_
        refine r_ild cd_71_48 rfl rfl ?_
        refine r_cI (c_380 j k g0 g1 (by omega)) cd_71_49 rfl rfl rfl ⟨g0, g1⟩ rfl rfl rfl ?_
        refine r_ic61 cd_71_52 rfl (hT (o + k) (by omega)).r ⟨by omega, by omega⟩ (fun n2 => ?_) (fun n2 => ?_)
        · refine r_inc (v := ((k + 1 : Nat) : Int)) cd_71_57 rfl rfl rfl (by omega) (L' := [aR 202, aC j, aI ((k + 1 : Nat) : Int)]) rfl ?_
          refine r_goto cd_71_60 ?_
          exact ih (k + 1) r (by omega) hr2
        · exact absurd (by omega) n2
      · exact absurd n1 (by omega)
    · have hr2 : r = false := by rw [hr, eq_s, decide_eq_false e9, Bool.false_and]
      refine r_ild cd_71_28 rfl rfl ?_
      refine r_aldC cd_71_29 rfl rfl ?_
      refine r_cI (c_378 j g0 g1) cd_71_30 rfl rfl rfl ⟨g0, g1⟩ rfl rfl rfl ?_
      refine r_ic64 cd_71_33 rfl ⟨by omega, by omega⟩ ⟨by omega, by omega⟩ (fun n1 => ?_) (fun n1 => ?_)
      · refine r_aldR cd_71_36 rfl rfl ?_
        refine r_get cd_71_37 rfl hO rfl ?_
        refine r_aldR cd_71_40 rfl rfl ?_
        refine r_get cd_71_41 rfl hO rfl ?_
        refine r_ild cd_71_44 rfl rfl ?_
        refine r_add (v := ((o + k : Nat) : Int)) cd_71_45 rfl (by omega) ?_
        refine r_arr (i := o + k) cd_71_46 rfl hB rfl (by omega) rfl ?_
        refine r_aldC cd_71_47 rfl rfl ?_
        refine r_ild cd_71_48 rfl rfl ?_
        refine r_cI (c_380 j k g0 g1 (by omega)) cd_71_49 rfl rfl rfl ⟨g0, g1⟩ rfl rfl rfl ?_
        refine r_ic61 cd_71_52 rfl (hT (o + k) (by omega)).r ⟨by omega, by omega⟩ (fun n2 => ?_) (fun n2 => ?_)
        · exact absurd n2 (by omega)
        · refine r_con (v := 0) cd_71_55 rfl (by decide) ?_
          exact r_ret cd_71_56 (Or.inl rfl) (rB (by rw [hr2]; rfl))
      · exact absurd n1 (by omega)
theorem kM_2 {tx : Nat → Int} {N i : Nat} : kM (tKnd tx N i) = 1 ↔ tKnd tx N i = 2 := by
  have h := tKnd_b (tx := tx) (N := N) (i := i)
  unfold kM
  repeat' split
  all_goals omega
theorem kM_3 {tx : Nat → Int} {N i : Nat} : kM (tKnd tx N i) = 2 ↔ tKnd tx N i = 3 := by
  have h := tKnd_b (tx := tx) (N := N) (i := i)
  unfold kM
  repeat' split
  all_goals omega
theorem kM_b {k : Int} : 0 ≤ kM k ∧ kM k ≤ 6 := by
  unfold kM
  repeat' split
  all_goals omega
theorem k_71 {h : aH} {tx tb : Nat → Int} {N : Nat} (hN : N ≤ 600) (hT : ∀ k, k < N → BT (tx k) (tb k)) (i : Nat) (hi : i ≤ N) (vl : Int) (hO : h.2.2 202 = TO N ((tOff tx N i : Nat) : Int) ((tEnd tx N i : Nat) : Int) (kM (tKnd tx N i)) vl) (hB : h.2.2 203 = .inl (1, 600, .inl tb)) (j : Nat) (g0 : 19 ≤ j) (g1 : j < 80) : Ct 5 71 [aR 202, aC j] h (.inl (some (aI (bz (saysB tx N i (sT j))))), h) := by
  have ho := tOff_b (tx := tx) hi
  have he := tEnd_b (tx := tx) hi
  have hln := sT_len g0 g1
  have hk2 := kM_2 (tx := tx) (N := N) (i := i)
  have hkb := kM_b (k := tKnd tx N i)
  refine Ct.of [aR 202, aC j, aU] rfl ?_
  refine r_aldR cd_71_0 rfl rfl ?_
  refine r_get cd_71_1 rfl hO rfl ?_
  refine r_con (v := 1) cd_71_4 rfl (by decide) ?_
  refine r_ic62 cd_71_5 rfl ⟨by omega, by omega⟩ ⟨by omega, by omega⟩ (fun n1 => ?_) (fun n1 => ?_)
  · refine r_aldR cd_71_8 rfl rfl ?_
    refine r_get cd_71_9 rfl hO rfl ?_
    refine r_aldR cd_71_12 rfl rfl ?_
    refine r_get cd_71_13 rfl hO rfl ?_
    refine r_sub (v := ((tEnd tx N i : Nat) : Int) - ((tOff tx N i : Nat) : Int)) cd_71_16 rfl (by rfl) ?_
    refine r_aldC cd_71_17 rfl rfl ?_
    refine r_cI (c_378 j g0 g1) cd_71_18 rfl rfl rfl ⟨g0, g1⟩ rfl rfl rfl ?_
    refine r_ic61 cd_71_21 rfl ⟨by omega, by omega⟩ ⟨by omega, by omega⟩ (fun n2 => ?_) (fun n2 => ?_)
    · refine r_con (v := 0) cd_71_26 rfl (by decide) ?_
      refine r_ist cd_71_27 rfl rfl (L' := [aR 202, aC j, aI 0]) rfl ?_
      exact lk_71 hN hT (tOff tx N i) (tEnd tx N i) (kM (tKnd tx N i)) vl hO hB j g0 g1 (by omega) (sT j).length 0 _ (by omega) (by unfold saysB; rw [decide_eq_true (hk2.mp n1), decide_eq_true (show ((tEnd tx N i : Nat) : Int) - ((tOff tx N i : Nat) : Int) = ((sT j).length : Int) from n2), Bool.true_and, Bool.true_and])
    · refine r_con (v := 0) cd_71_24 rfl (by decide) ?_
      exact r_ret cd_71_25 (Or.inl rfl) (rB (by unfold saysB; rw [decide_eq_false (show ¬ ((tEnd tx N i : Nat) : Int) - ((tOff tx N i : Nat) : Int) = ((sT j).length : Int) from fun e => n2 e), Bool.false_and, Bool.and_false]; rfl))
  · refine r_con (v := 0) cd_71_24 rfl (by decide) ?_
    exact r_ret cd_71_25 (Or.inl rfl) (rB (by unfold saysB; rw [decide_eq_false (fun e => n1 (hk2.mpr e)), Bool.false_and]; rfl))
theorem k_62 {h : aH} {N : Nat} (st nx kd vl : Int) (hO : h.2.2 202 = TO N st nx kd vl) (n : Nat) (hn : n ≤ 20) (hN : N ≤ 600) : Ct 1 62 [aR 202, aI ((n : Nat) : Int)] h (.inl (some (aI (bz (decide (N + n ≤ 600))))), h) := by
  refine Ct.of [aR 202, aI ((n : Nat) : Int)] rfl ?_
  refine r_aldR cd_62_0 rfl rfl ?_
  refine r_get cd_62_1 rfl hO rfl ?_
  refine r_ild cd_62_4 rfl rfl ?_
  refine r_add (v := ((N + n : Nat) : Int)) cd_62_5 rfl (by omega) ?_
  refine r_con (v := 600) cd_62_6 rfl (by decide) ?_
  refine r_ic65 cd_62_9 rfl ⟨by omega, by omega⟩ ⟨by omega, by omega⟩ (fun n1 => ?_) (fun n1 => ?_)
  · refine r_con (v := 0) cd_62_16 rfl (by decide) ?_
    exact r_ret cd_62_17 (Or.inl rfl) (rB (by rw [decide_eq_false (by omega)]; rfl))
  · refine r_con (v := 1) cd_62_12 rfl (by decide) ?_
    refine r_goto cd_62_13 ?_
    exact r_ret cd_62_17 (Or.inr rfl) (rB (by rw [decide_eq_true (by omega)]; rfl))
theorem by_by {v : Int} : byI (byI v) = byI v := by
  show ((i32 ((i32 v).toInt8.toInt32).toInt).toInt8.toInt32).toInt = _
  rw [i32_to, Int8.toInt8_toInt32]
  rfl
theorem v_61 {h : aH} {tb : Nat → Int} {N : Nat} (st nx kd vl : Int) (hO : h.2.2 202 = TO N st nx kd vl) (hB : h.2.2 203 = .inl (1, 600, .inl tb)) (v : Int) (hN : N < 600) : Ct 2 61 [aR 202, aI v] h (.inl none, sw (sw h 203 (.inl (1, 600, .inl (va_up tb N (byI v))))) 202 (TO ((N + 1 : Nat) : Int) st nx kd vl)) := by
  refine Ct.of [aR 202, aI v] rfl ?_
  refine r_aldR cd_61_0 rfl rfl ?_
  refine r_con (v := 1) cd_61_1 rfl (by decide) ?_
  refine r_cI (k_62 st nx kd vl hO 1 (by decide) (by omega)) cd_61_2 rfl rfl rfl (rc0 hO rfl) rfl rfl rfl ?_
  refine r_if51b cd_61_5 rfl (fun n1 => ?_) (fun n1 => ?_)
  · exact absurd (of_decide_eq_false n1) (by omega)
  · refine r_aldR cd_61_8 rfl rfl ?_
    refine r_get cd_61_9 rfl hO rfl ?_
    refine r_aldR cd_61_12 rfl rfl ?_
    refine r_get cd_61_13 rfl hO rfl ?_
    refine r_ild cd_61_16 rfl rfl ?_
    refine r_i2b cd_61_17 rfl ?_
    refine r_arsB (i := N) cd_61_18 rfl rfl hB rfl (by omega) rfl ?_
    rw [by_by]
    refine r_aldR cd_61_19 rfl rfl ?_
    refine r_dup cd_61_20 rfl rfl ?_
    refine r_get cd_61_21 rfl ((sw_ne (by decide)).trans hO) rfl ?_
    refine r_con (v := 1) cd_61_24 rfl (by decide) ?_
    refine r_add (v := ((N + 1 : Nat) : Int)) cd_61_25 rfl (by omega) ?_
    refine r_put (fs' := [aR 203, aI ((N + 1 : Nat) : Int), aI st, aI nx, aI kd, aI vl]) cd_61_26 rfl ((sw_ne (by decide)).trans hO) rfl rfl ?_
    exact r_void cd_61_29 rfl (rfl)
theorem v_63 {h : aH} {N : Nat} (st nx kd vl : Int) (hO : h.2.2 202 = TO N st nx kd vl) (v : Int) : Ct 1 63 [aR 202, aI v] h (.inl none, sw h 202 (TO N st v kd vl)) := by
  refine Ct.of [aR 202, aI v] rfl ?_
  refine r_aldR cd_63_0 rfl rfl ?_
  refine r_ild cd_63_1 rfl rfl ?_
  refine r_put (fs' := [aR 203, aI ((N : Nat) : Int), aI st, aI v, aI kd, aI vl]) cd_63_2 rfl hO rfl rfl ?_
  exact r_void cd_63_5 rfl (rfl)
theorem v_72 {h : aH} {N : Nat} (st nx kd vl : Int) (hO : h.2.2 202 = TO N st nx kd vl) (v : Int) : Ct 1 72 [aR 202, aI v] h (.inl none, sw h 202 (TO v st nx kd vl)) := by
  refine Ct.of [aR 202, aI v] rfl ?_
  refine r_aldR cd_72_0 rfl rfl ?_
  refine r_ild cd_72_1 rfl rfl ?_
  refine r_put (fs' := [aR 203, aI v, aI st, aI nx, aI kd, aI vl]) cd_72_2 rfl hO rfl rfl ?_
  exact r_void cd_72_5 rfl (rfl)
def fbF (l : List Int) (k m : Nat) (d : Nat → Int) : Nat → Int := itF (fun k d => va_up d k (byI (l.getD k 0))) k m d
theorem fbF_at {l : List Int} : ∀ {m k : Nat} {d : Nat → Int} {j : Nat}, fbF l k m d j = if k ≤ j ∧ j < k + m then byI (l.getD j 0) else d j
  | 0, k, d, j => by
    rw [if_neg (by omega)]
    rfl
  | m + 1, k, d, j => by
    have e : fbF l k (m + 1) d = fbF l (k + 1) m (va_up d k (byI (l.getD k 0))) := rfl
    rw [e, fbF_at]
    by_cases h1 : k + 1 ≤ j ∧ j < k + 1 + m
    · rw [if_pos h1, if_pos (by omega)]
    · rw [if_neg h1]
      by_cases h2 : j = k
      · rw [if_pos (by omega), h2, vu_at]
      · rw [vu_ne h2, if_neg (by omega)]
theorem lp_60 (st nx kd vl : Int) (j : Nat) (g0 : 19 ≤ j) (g1 : j < 80) : ∀ (m k : Nat) {h : aH} {tb : Nat → Int}, h.2.2 202 = TO ((k : Nat) : Int) st nx kd vl → h.2.2 203 = .inl (1, 600, .inl tb) → k + m = (sT j).length → RU 5 60 (.inl none, sw (sw h 203 (.inl (1, 600, .inl (fbF (sT j) k m tb)))) 202 (TO ((k + m : Nat) : Int) st nx kd vl)) (7, [aR 202, aC j, aI ((k : Nat) : Int)], [], 0, 0, h) := by
  have hln := sT_len g0 g1
  intro m
  induction m with
  | zero =>
    intro k h tb hO hB hm
    refine r_ild cd_60_7 rfl rfl ?_
    refine r_aldC cd_60_8 rfl rfl ?_
    refine r_cI (c_378 j g0 g1) cd_60_9 rfl rfl rfl ⟨g0, g1⟩ rfl rfl rfl ?_
    refine r_ic64 cd_60_12 rfl ⟨by omega, by omega⟩ ⟨by omega, by omega⟩ (fun n1 => ?_) (fun n1 => ?_)
    · exact absurd n1 (by omega)
    · exact r_void cd_60_30 rfl (by rw [show fbF (sT j) k 0 tb = tb from rfl, sw_id hB, Nat.add_zero, sw_id hO])
  | succ m ih =>
    intro k h tb hO hB hm
    have e9 := ih (k + 1) (h := sw (sw h 203 (.inl (1, 600, .inl (va_up tb k (byI ((sT j).getD k 0)))))) 202 (TO ((k + 1 : Nat) : Int) st nx kd vl)) (sw_at _ _ _) ((sw_ne (by decide)).trans (sw_at _ _ _)) (by omega)
    rw [sw_cm (a := 202) (q := 203) _ _ _ (by decide), sw_sw, sw_sw, show k + 1 + m = k + (m + 1) by omega] at e9
    refine r_ild cd_60_7 rfl rfl ?_
    refine r_aldC cd_60_8 rfl rfl ?_
    refine r_cI (c_378 j g0 g1) cd_60_9 rfl rfl rfl ⟨g0, g1⟩ rfl rfl rfl ?_
    refine r_ic64 cd_60_12 rfl ⟨by omega, by omega⟩ ⟨by omega, by omega⟩ (fun n1 => ?_) (fun n1 => ?_)
    · refine r_aldR cd_60_15 rfl rfl ?_
      refine r_aldC cd_60_16 rfl rfl ?_
      refine r_ild cd_60_17 rfl rfl ?_
      refine r_cI (c_380 j k g0 g1 (by omega)) cd_60_18 rfl rfl rfl ⟨g0, g1⟩ rfl rfl rfl ?_
      refine r_cV (v_61 (N := k) st nx kd vl hO hB ((sT j).getD k 0) (by omega)) cd_60_21 rfl rfl rfl (rc0 hO rfl) rfl rfl rfl ?_
      refine r_inc (v := ((k + 1 : Nat) : Int)) cd_60_24 rfl rfl rfl (by omega) (L' := [aR 202, aC j, aI ((k + 1 : Nat) : Int)]) rfl ?_
      refine r_goto cd_60_27 ?_
      exact e9
    · exact absurd n1 (by omega)
theorem v_60 {h : aH} {tb : Nat → Int} {N : Nat} (st nx kd vl : Int) (hO : h.2.2 202 = TO N st nx kd vl) (hB : h.2.2 203 = .inl (1, 600, .inl tb)) (j : Nat) (g0 : 19 ≤ j) (g1 : j < 80) : Ct 5 60 [aR 202, aC j] h (.inl none, sw (sw h 203 (.inl (1, 600, .inl (fbF (sT j) 0 (sT j).length tb)))) 202 (TO (((sT j).length : Nat) : Int) st nx kd vl)) := by
  have e9 := lp_60 st nx kd vl j g0 g1 (sT j).length 0 (h := sw h 202 (TO ((0 : Nat) : Int) st nx kd vl)) (sw_at _ _ _) ((sw_ne (by decide)).trans hB) (by omega)
  rw [sw_cm (a := 202) (q := 203) _ _ _ (by decide), sw_sw, Nat.zero_add] at e9
  refine Ct.of [aR 202, aC j, aU] rfl ?_
  refine r_aldR cd_60_0 rfl rfl ?_
  refine r_con (v := 0) cd_60_1 rfl (by decide) ?_
  refine r_put (fs' := [aR 203, aI 0, aI st, aI nx, aI kd, aI vl]) cd_60_2 rfl hO rfl rfl ?_
  refine r_con (v := 0) cd_60_5 rfl (by decide) ?_
  refine r_ist cd_60_6 rfl rfl (L' := [aR 202, aC j, aI 0]) rfl ?_
  exact e9
