/-! THE CLASS: tokens (written by wip/whole/gen59.py) -/
/-- a sign c of the text and the byte b that stands for it -/
def BT (c b : Int) : Prop := (0 ≤ c ∧ c < 128 ∧ b = c) ∨ (128 ≤ c ∧ c ≤ 255 ∧ b = c - 256)
theorem BT.r {c b : Int} (h : BT c b) : inR b := by
  unfold BT at h
  exact ⟨by omega, by omega⟩
/-- the reader of tokens: how far the text goes, where the token begins and ends, its kind, its value -/
def TO (N st nx kd vl : Int) : aCell := .inr (5, [aR 203, aI N, aI st, aI nx, aI kd, aI vl])
def kM (k : Int) : Int := if k = 0 then 0 else if k = 1 then 5 else if k = 2 then 1 else if k = 3 then 2 else if k = 4 then 3 else if k = 5 then 4 else 6
theorem rn_s {tx : Nat → Int} {k : Int} {m i : Nat} (h : srt (tx i) = k) : rnF tx k (m + 1) i = rnF tx k m (i + 1) := if_pos h
theorem rn_n {tx : Nat → Int} {k : Int} {m i : Nat} (h : ¬ srt (tx i) = k) : rnF tx k (m + 1) i = i := if_neg h
theorem srt_2 {c : Int} : srt c = 2 ↔ 97 ≤ c ∧ c ≤ 122 := by
  unfold srt
  repeat' split
  all_goals omega
theorem srt_3 {c : Int} : srt c = 3 ↔ 48 ≤ c ∧ c ≤ 57 := by
  unfold srt
  repeat' split
  all_goals omega
theorem k_65 {h : aH} (x : Int) (hx : inR x) : Ct 1 65 [aI x] h (.inl (some (aI (bz (decide (x = 32 ∨ x = 10))))), h) := by
  refine Ct.of [aI x] rfl ?_
  refine r_ild cd_65_0 rfl rfl ?_
  refine r_con (v := 32) cd_65_1 rfl (by decide) ?_
  refine r_ic61 cd_65_3 rfl hx ⟨by omega, by omega⟩ (fun n1 => ?_) (fun n1 => ?_)
  · refine r_con (v := 1) cd_65_12 rfl (by decide) ?_
    refine r_goto cd_65_13 ?_
    exact r_ret cd_65_17 (Or.inr rfl) (rB (by first | rfl | (simp [bz, n1]; done) | (simp [bz, n1]; omega) | (exact bz_t (by simp only [Bool.and_eq_true, Bool.or_eq_true, Bool.not_eq_true', decide_eq_true_eq, decide_eq_false_iff_not]; omega))))
  · refine r_ild cd_65_6 rfl rfl ?_
    refine r_con (v := 10) cd_65_7 rfl (by decide) ?_
    refine r_ic62 cd_65_9 rfl hx ⟨by omega, by omega⟩ (fun n2 => ?_) (fun n2 => ?_)
    · refine r_con (v := 1) cd_65_12 rfl (by decide) ?_
      refine r_goto cd_65_13 ?_
      exact r_ret cd_65_17 (Or.inr rfl) (rB (by first | rfl | (simp [bz, n1, n2]; done) | (simp [bz, n1, n2]; omega) | (exact bz_t (by simp only [Bool.and_eq_true, Bool.or_eq_true, Bool.not_eq_true', decide_eq_true_eq, decide_eq_false_iff_not]; omega))))
    · refine r_con (v := 0) cd_65_16 rfl (by decide) ?_
      exact r_ret cd_65_17 (Or.inl rfl) (rB (by first | rfl | (simp [bz, n1, n2]; done) | (simp [bz, n1, n2]; omega) | (exact bz_f (by simp only [Bool.and_eq_true, Bool.or_eq_true, Bool.not_eq_true', decide_eq_true_eq, decide_eq_false_iff_not]; omega))))
theorem k_66 {h : aH} (x : Int) (hx : inR x) : Ct 1 66 [aI x] h (.inl (some (aI (bz (decide (97 ≤ x ∧ x ≤ 122))))), h) := by
  refine Ct.of [aI x] rfl ?_
  refine r_ild cd_66_0 rfl rfl ?_
  refine r_con (v := 97) cd_66_1 rfl (by decide) ?_
  refine r_ic63 cd_66_3 rfl hx ⟨by omega, by omega⟩ (fun n1 => ?_) (fun n1 => ?_)
  · refine r_con (v := 0) cd_66_16 rfl (by decide) ?_
    exact r_ret cd_66_17 (Or.inl rfl) (rB (by first | rfl | (simp [bz, n1]; done) | (simp [bz, n1]; omega) | (exact bz_f (by simp only [Bool.and_eq_true, Bool.or_eq_true, Bool.not_eq_true', decide_eq_true_eq, decide_eq_false_iff_not]; omega))))
  · refine r_ild cd_66_6 rfl rfl ?_
    refine r_con (v := 122) cd_66_7 rfl (by decide) ?_
    refine r_ic65 cd_66_9 rfl hx ⟨by omega, by omega⟩ (fun n2 => ?_) (fun n2 => ?_)
    · refine r_con (v := 0) cd_66_16 rfl (by decide) ?_
      exact r_ret cd_66_17 (Or.inl rfl) (rB (by first | rfl | (simp [bz, n1, n2]; done) | (simp [bz, n1, n2]; omega) | (exact bz_f (by simp only [Bool.and_eq_true, Bool.or_eq_true, Bool.not_eq_true', decide_eq_true_eq, decide_eq_false_iff_not]; omega))))
    · refine r_con (v := 1) cd_66_12 rfl (by decide) ?_
      refine r_goto cd_66_13 ?_
      exact r_ret cd_66_17 (Or.inr rfl) (rB (by first | rfl | (simp [bz, n1, n2]; done) | (simp [bz, n1, n2]; omega) | (exact bz_t (by simp only [Bool.and_eq_true, Bool.or_eq_true, Bool.not_eq_true', decide_eq_true_eq, decide_eq_false_iff_not]; omega))))
theorem k_68 {h : aH} (x : Int) (hx : inR x) : Ct 1 68 [aI x] h (.inl (some (aI (bz (decide (48 ≤ x ∧ x ≤ 57))))), h) := by
  refine Ct.of [aI x] rfl ?_
  refine r_ild cd_68_0 rfl rfl ?_
  refine r_con (v := 48) cd_68_1 rfl (by decide) ?_
  refine r_ic63 cd_68_3 rfl hx ⟨by omega, by omega⟩ (fun n1 => ?_) (fun n1 => ?_)
  · refine r_con (v := 0) cd_68_16 rfl (by decide) ?_
    exact r_ret cd_68_17 (Or.inl rfl) (rB (by first | rfl | (simp [bz, n1]; done) | (simp [bz, n1]; omega) | (exact bz_f (by simp only [Bool.and_eq_true, Bool.or_eq_true, Bool.not_eq_true', decide_eq_true_eq, decide_eq_false_iff_not]; omega))))
  · refine r_ild cd_68_6 rfl rfl ?_
    refine r_con (v := 57) cd_68_7 rfl (by decide) ?_
    refine r_ic65 cd_68_9 rfl hx ⟨by omega, by omega⟩ (fun n2 => ?_) (fun n2 => ?_)
    · refine r_con (v := 0) cd_68_16 rfl (by decide) ?_
      exact r_ret cd_68_17 (Or.inl rfl) (rB (by first | rfl | (simp [bz, n1, n2]; done) | (simp [bz, n1, n2]; omega) | (exact bz_f (by simp only [Bool.and_eq_true, Bool.or_eq_true, Bool.not_eq_true', decide_eq_true_eq, decide_eq_false_iff_not]; omega))))
    · refine r_con (v := 1) cd_68_12 rfl (by decide) ?_
      refine r_goto cd_68_13 ?_
      exact r_ret cd_68_17 (Or.inr rfl) (rB (by first | rfl | (simp [bz, n1, n2]; done) | (simp [bz, n1, n2]; omega) | (exact bz_t (by simp only [Bool.and_eq_true, Bool.or_eq_true, Bool.not_eq_true', decide_eq_true_eq, decide_eq_false_iff_not]; omega))))
theorem k_70 {h : aH} (x : Int) (hx : inR x) (c : Int) (hc : BT c x) (h2 : ¬ srt c = 2) (h3 : ¬ srt c = 3) : Ct 1 70 [aI x] h (.inl (some (aI (kM (srt c)))), h) := by
  rw [srt_2] at h2
  rw [srt_3] at h3
  unfold BT at hc
  refine Ct.of [aI x] rfl ?_
  refine r_ild cd_70_0 rfl rfl ?_
  by_cases e1 : x = 40
  · subst e1
    refine r_lsw (t := 36) cd_70_1 hx (by decide) ?_
    refine r_con (v := 3) cd_70_36 rfl (by decide) ?_
    exact r_ret cd_70_37 True.intro (rI (by rw [show c = 40 by omega]; decide))
  · by_cases e2 : x = 41
    · subst e2
      refine r_lsw (t := 38) cd_70_1 hx (by decide) ?_
      refine r_con (v := 4) cd_70_38 rfl (by decide) ?_
      exact r_ret cd_70_39 True.intro (rI (by rw [show c = 41 by omega]; decide))
    · by_cases e3 : x = 59
      · subst e3
        refine r_lsw (t := 40) cd_70_1 hx (by decide) ?_
        refine r_con (v := 5) cd_70_40 rfl (by decide) ?_
        exact r_ret cd_70_41 True.intro (rI (by rw [show c = 59 by omega]; decide))
      · have es : srt c = 6 := by unfold srt; rw [if_neg (by omega), if_neg h2, if_neg h3, if_neg (by omega), if_neg (by omega)]
        have el : swLook (swtA 2) x 42 = 42 := by
          show swLook [40, 36, 41, 38, 59, 40] x 42 = 42
          unfold swLook; rw [if_neg (by omega)]
          unfold swLook; rw [if_neg (by omega)]
          unfold swLook; rw [if_neg (by omega)]
          rfl
        refine r_lsw (t := 42) cd_70_1 hx el ?_
        refine r_con (v := 6) cd_70_42 rfl (by decide) ?_
        exact r_ret cd_70_44 True.intro (rI (by rw [es]; decide))
theorem l1_64 {tx tb : Nat → Int} {N : Nat} (hN : N ≤ 600) (hT : ∀ k, k < N → BT (tx k) (tb k)) {res : aRes} (st kd vl : Int) : ∀ (m i : Nat) {h : aH}, h.2.2 202 = TO N st ((i : Nat) : Int) kd vl → h.2.2 203 = .inl (1, 600, .inl tb) → i + m = N → RU 3 64 res (39, [aR 202], [], 0, 0, sw h 202 (TO N st ((skF tx m i : Nat) : Int) kd vl)) → RU 3 64 res (0, [aR 202], [], 0, 0, h) := by
  intro m
  induction m with
  | zero =>
    intro i h hO hB hm hk
    rw [show skF tx 0 i = i from rfl, sw_id hO] at hk
    refine r_aldR cd_64_0 rfl rfl ?_
    refine r_get cd_64_1 rfl hO rfl ?_
    refine r_aldR cd_64_4 rfl rfl ?_
    refine r_get cd_64_5 rfl hO rfl ?_
    refine r_ic64 cd_64_8 rfl ⟨by omega, by omega⟩ ⟨by omega, by omega⟩ (fun n1 => ?_) (fun n1 => ?_)
    · exact absurd n1 (by omega)
    · exact hk
  | succ m ih =>
    intro i h hO hB hm hk
    have hTi := hT i (by omega)
    have hTu : BT (tx i) (tb i) := hTi
    unfold BT at hTu
    by_cases e : tx i = 32 ∨ tx i = 10
    · rw [show skF tx (m + 1) i = skF tx m (i + 1) from if_pos e] at hk
      have k2 := ih (i + 1) (h := sw h 202 (TO N st ((i + 1 : Nat) : Int) kd vl)) (sw_at _ _ _) ((sw_ne (by decide)).trans hB) (by omega)
      rw [sw_sw] at k2
      refine r_aldR cd_64_0 rfl rfl ?_
      refine r_get cd_64_1 rfl hO rfl ?_
      refine r_aldR cd_64_4 rfl rfl ?_
      refine r_get cd_64_5 rfl hO rfl ?_
      refine r_ic64 cd_64_8 rfl ⟨by omega, by omega⟩ ⟨by omega, by omega⟩ (fun n1 => ?_) (fun n1 => ?_)
      · refine r_aldR cd_64_11 rfl rfl ?_
        refine r_get cd_64_12 rfl hO rfl ?_
        refine r_aldR cd_64_15 rfl rfl ?_
        refine r_get cd_64_16 rfl hO rfl ?_
        refine r_arr (i := i) cd_64_19 rfl hB rfl (by omega) rfl ?_
        refine r_cI (k_65 (tb i) (hT i (by omega)).r) cd_64_20 rfl rfl rfl True.intro rfl rfl rfl ?_
        refine r_if51b cd_64_23 rfl (fun n2 => ?_) (fun n2 => ?_)
        · exact absurd (of_decide_eq_false n2) (by omega)
        · refine r_aldR cd_64_26 rfl rfl ?_
          refine r_dup cd_64_27 rfl rfl ?_
          refine r_get cd_64_28 rfl hO rfl ?_
          refine r_con (v := 1) cd_64_31 rfl (by decide) ?_
          refine r_add (v := ((i + 1 : Nat) : Int)) cd_64_32 rfl (by omega) ?_
          refine r_put (fs' := [aR 203, aI ((N : Nat) : Int), aI st, aI ((i + 1 : Nat) : Int), aI kd, aI vl]) cd_64_33 rfl hO rfl rfl ?_
          refine r_goto cd_64_36 ?_
          exact k2 hk
      · exact absurd n1 (by omega)
    · rw [show skF tx (m + 1) i = i from if_neg e, sw_id hO] at hk
      refine r_aldR cd_64_0 rfl rfl ?_
      refine r_get cd_64_1 rfl hO rfl ?_
      refine r_aldR cd_64_4 rfl rfl ?_
      refine r_get cd_64_5 rfl hO rfl ?_
      refine r_ic64 cd_64_8 rfl ⟨by omega, by omega⟩ ⟨by omega, by omega⟩ (fun n1 => ?_) (fun n1 => ?_)
      · refine r_aldR cd_64_11 rfl rfl ?_
        refine r_get cd_64_12 rfl hO rfl ?_
        refine r_aldR cd_64_15 rfl rfl ?_
        refine r_get cd_64_16 rfl hO rfl ?_
        refine r_arr (i := i) cd_64_19 rfl hB rfl (by omega) rfl ?_
        refine r_cI (k_65 (tb i) (hT i (by omega)).r) cd_64_20 rfl rfl rfl True.intro rfl rfl rfl ?_
        refine r_if51b cd_64_23 rfl (fun n2 => ?_) (fun n2 => ?_)
        · exact hk
        · exact absurd (of_decide_eq_true n2) (by omega)
      · exact absurd n1 (by omega)
theorem l2_67 {tx tb : Nat → Int} {N : Nat} (hN : N ≤ 600) (hT : ∀ k, k < N → BT (tx k) (tb k)) {res : aRes} (st kd vl : Int) : ∀ (m i : Nat) {h : aH}, h.2.2 202 = TO N st ((i : Nat) : Int) kd vl → h.2.2 203 = .inl (1, 600, .inl tb) → i + m = N → RU 2 67 res (39, [aR 202], [], 0, 0, sw h 202 (TO N st ((rnF tx 2 m i : Nat) : Int) kd vl)) → RU 2 67 res (0, [aR 202], [], 0, 0, h) := by
  intro m
  induction m with
  | zero =>
    intro i h hO hB hm hk
    rw [show rnF tx 2 0 i = i from rfl, sw_id hO] at hk
    refine r_aldR cd_67_0 rfl rfl ?_
    refine r_get cd_67_1 rfl hO rfl ?_
    refine r_aldR cd_67_4 rfl rfl ?_
    refine r_get cd_67_5 rfl hO rfl ?_
    refine r_ic64 cd_67_8 rfl ⟨by omega, by omega⟩ ⟨by omega, by omega⟩ (fun n1 => ?_) (fun n1 => ?_)
    · exact absurd n1 (by omega)
    · exact hk
  | succ m ih =>
    intro i h hO hB hm hk
    have hTi := hT i (by omega)
    have hTu : BT (tx i) (tb i) := hTi
    unfold BT at hTu
    have hs := srt_2 (c := tx i)
    by_cases e : srt (tx i) = 2
    · have e9 := hs.mp e
      rw [rn_s e] at hk
      have k2 := ih (i + 1) (h := sw h 202 (TO N st ((i + 1 : Nat) : Int) kd vl)) (sw_at _ _ _) ((sw_ne (by decide)).trans hB) (by omega)
      rw [sw_sw] at k2
      refine r_aldR cd_67_0 rfl rfl ?_
      refine r_get cd_67_1 rfl hO rfl ?_
      refine r_aldR cd_67_4 rfl rfl ?_
      refine r_get cd_67_5 rfl hO rfl ?_
      refine r_ic64 cd_67_8 rfl ⟨by omega, by omega⟩ ⟨by omega, by omega⟩ (fun n1 => ?_) (fun n1 => ?_)
      · refine r_aldR cd_67_11 rfl rfl ?_
        refine r_get cd_67_12 rfl hO rfl ?_
        refine r_aldR cd_67_15 rfl rfl ?_
        refine r_get cd_67_16 rfl hO rfl ?_
        refine r_arr (i := i) cd_67_19 rfl hB rfl (by omega) rfl ?_
        refine r_cI (k_66 (tb i) (hT i (by omega)).r) cd_67_20 rfl rfl rfl True.intro rfl rfl rfl ?_
        refine r_if51b cd_67_23 rfl (fun n2 => ?_) (fun n2 => ?_)
        · exact absurd (of_decide_eq_false n2) (by omega)
        · refine r_aldR cd_67_26 rfl rfl ?_
          refine r_dup cd_67_27 rfl rfl ?_
          refine r_get cd_67_28 rfl hO rfl ?_
          refine r_con (v := 1) cd_67_31 rfl (by decide) ?_
          refine r_add (v := ((i + 1 : Nat) : Int)) cd_67_32 rfl (by omega) ?_
          refine r_put (fs' := [aR 203, aI ((N : Nat) : Int), aI st, aI ((i + 1 : Nat) : Int), aI kd, aI vl]) cd_67_33 rfl hO rfl rfl ?_
          refine r_goto cd_67_36 ?_
          exact k2 hk
      · exact absurd n1 (by omega)
    · have e9 : ¬ (97 ≤ tx i ∧ tx i ≤ 122) := fun g => e (hs.mpr g)
      rw [rn_n e, sw_id hO] at hk
      refine r_aldR cd_67_0 rfl rfl ?_
      refine r_get cd_67_1 rfl hO rfl ?_
      refine r_aldR cd_67_4 rfl rfl ?_
      refine r_get cd_67_5 rfl hO rfl ?_
      refine r_ic64 cd_67_8 rfl ⟨by omega, by omega⟩ ⟨by omega, by omega⟩ (fun n1 => ?_) (fun n1 => ?_)
      · refine r_aldR cd_67_11 rfl rfl ?_
        refine r_get cd_67_12 rfl hO rfl ?_
        refine r_aldR cd_67_15 rfl rfl ?_
        refine r_get cd_67_16 rfl hO rfl ?_
        refine r_arr (i := i) cd_67_19 rfl hB rfl (by omega) rfl ?_
        refine r_cI (k_66 (tb i) (hT i (by omega)).r) cd_67_20 rfl rfl rfl True.intro rfl rfl rfl ?_
        refine r_if51b cd_67_23 rfl (fun n2 => ?_) (fun n2 => ?_)
        · exact hk
        · exact absurd (of_decide_eq_true n2) (by omega)
      · exact absurd n1 (by omega)
theorem v_67 {h : aH} {tx tb : Nat → Int} {N : Nat} (hN : N ≤ 600) (hT : ∀ k, k < N → BT (tx k) (tb k)) (st kd vl : Int) (i : Nat) (hi : i ≤ N) (hO : h.2.2 202 = TO N st ((i : Nat) : Int) kd vl) (hB : h.2.2 203 = .inl (1, 600, .inl tb)) : Ct 2 67 [aR 202] h (.inl none, sw h 202 (TO N st ((rnF tx 2 (N - i) i : Nat) : Int) 1 vl)) := by
  refine Ct.of [aR 202] rfl ?_
  refine l2_67 hN hT st kd vl (N - i) i hO hB (by omega) ?_
  refine r_aldR cd_67_39 rfl rfl ?_
  refine r_con (v := 1) cd_67_40 rfl (by decide) ?_
  refine r_put (fs' := [aR 203, aI ((N : Nat) : Int), aI st, aI ((rnF tx 2 (N - i) i : Nat) : Int), aI 1, aI vl]) cd_67_41 rfl (sw_at _ _ _) rfl rfl ?_
  rw [sw_sw]
  exact r_void cd_67_44 rfl (rfl)
theorem l3_69 {tx tb : Nat → Int} {N : Nat} (hN : N ≤ 600) (hT : ∀ k, k < N → BT (tx k) (tb k)) {res : aRes} (st kd : Int) : ∀ (m i : Nat) (vl : Int) {h : aH}, h.2.2 202 = TO N st ((i : Nat) : Int) kd vl → h.2.2 203 = .inl (1, 600, .inl tb) → i + m = N → RU 2 69 res (68, [aR 202], [], 0, 0, sw h 202 (TO N st ((rnF tx 3 m i : Nat) : Int) kd (itF (vaG tx) i (rnF tx 3 m i - i) vl))) → RU 2 69 res (5, [aR 202], [], 0, 0, h) := by
  intro m
  induction m with
  | zero =>
    intro i vl h hO hB hm hk
    rw [show rnF tx 3 0 i = i from rfl, Nat.sub_self, show itF (vaG tx) i 0 vl = vl from rfl, sw_id hO] at hk
    refine r_aldR cd_69_5 rfl rfl ?_
    refine r_get cd_69_6 rfl hO rfl ?_
    refine r_aldR cd_69_9 rfl rfl ?_
    refine r_get cd_69_10 rfl hO rfl ?_
    refine r_ic64 cd_69_13 rfl ⟨by omega, by omega⟩ ⟨by omega, by omega⟩ (fun n1 => ?_) (fun n1 => ?_)
    · exact absurd n1 (by omega)
    · exact hk
  | succ m ih =>
    intro i vl h hO hB hm hk
    have hTi := hT i (by omega)
    have hTu : BT (tx i) (tb i) := hTi
    unfold BT at hTu
    have hs := srt_3 (c := tx i)
    by_cases e : srt (tx i) = 3
    · have e9 := hs.mp e
      have hg := rnF_b tx 3 m (i + 1)
      rw [rn_s e, show rnF tx 3 m (i + 1) - i = (rnF tx 3 m (i + 1) - (i + 1)) + 1 by omega, show itF (vaG tx) i ((rnF tx 3 m (i + 1) - (i + 1)) + 1) vl = itF (vaG tx) (i + 1) (rnF tx 3 m (i + 1) - (i + 1)) (vaG tx i vl) from rfl] at hk
      have k2 := ih (i + 1) (vaG tx i vl) (h := sw h 202 (TO N st ((i + 1 : Nat) : Int) kd (vaG tx i vl))) (sw_at _ _ _) ((sw_ne (by decide)).trans hB) (by omega)
      rw [sw_sw] at k2
      refine r_aldR cd_69_5 rfl rfl ?_
      refine r_get cd_69_6 rfl hO rfl ?_
      refine r_aldR cd_69_9 rfl rfl ?_
      refine r_get cd_69_10 rfl hO rfl ?_
      refine r_ic64 cd_69_13 rfl ⟨by omega, by omega⟩ ⟨by omega, by omega⟩ (fun n1 => ?_) (fun n1 => ?_)
      · refine r_aldR cd_69_16 rfl rfl ?_
        refine r_get cd_69_17 rfl hO rfl ?_
        refine r_aldR cd_69_20 rfl rfl ?_
        refine r_get cd_69_21 rfl hO rfl ?_
        refine r_arr (i := i) cd_69_24 rfl hB rfl (by omega) rfl ?_
        refine r_cI (k_68 (tb i) (hT i (by omega)).r) cd_69_25 rfl rfl rfl True.intro rfl rfl rfl ?_
        refine r_if51b cd_69_28 rfl (fun n2 => ?_) (fun n2 => ?_)
        · exact absurd (of_decide_eq_false n2) (by omega)
        · refine r_aldR cd_69_31 rfl rfl ?_
          refine r_aldR cd_69_32 rfl rfl ?_
          refine r_get cd_69_33 rfl hO rfl ?_
          refine r_con (v := 10) cd_69_36 rfl (by decide) ?_
          refine r_mul (v := vl * 10) cd_69_38 rfl (by rfl) ?_
          refine r_aldR cd_69_39 rfl rfl ?_
          refine r_get cd_69_40 rfl hO rfl ?_
          refine r_aldR cd_69_43 rfl rfl ?_
          refine r_get cd_69_44 rfl hO rfl ?_
          refine r_arr (i := i) cd_69_47 rfl hB rfl (by omega) rfl ?_
          refine r_add (v := (vl * 10) + (tb i)) cd_69_48 rfl (by rfl) ?_
          refine r_con (v := 48) cd_69_49 rfl (by decide) ?_
          refine r_sub (v := vaG tx i vl) cd_69_51 rfl (by unfold vaG; omega) ?_
          refine r_put (fs' := [aR 203, aI ((N : Nat) : Int), aI st, aI ((i : Nat) : Int), aI kd, aI (vaG tx i vl)]) cd_69_52 rfl hO rfl rfl ?_
          refine r_aldR cd_69_55 rfl rfl ?_
          refine r_dup cd_69_56 rfl rfl ?_
          refine r_get cd_69_57 rfl (sw_at _ _ _) rfl ?_
          refine r_con (v := 1) cd_69_60 rfl (by decide) ?_
          refine r_add (v := ((i + 1 : Nat) : Int)) cd_69_61 rfl (by omega) ?_
          refine r_put (fs' := [aR 203, aI ((N : Nat) : Int), aI st, aI ((i + 1 : Nat) : Int), aI kd, aI (vaG tx i vl)]) cd_69_62 rfl (sw_at _ _ _) rfl rfl ?_
          rw [sw_sw]
          refine r_goto cd_69_65 ?_
          exact k2 hk
      · exact absurd n1 (by omega)
    · have e9 : ¬ (48 ≤ tx i ∧ tx i ≤ 57) := fun g => e (hs.mpr g)
      rw [rn_n e, Nat.sub_self, show itF (vaG tx) i 0 vl = vl from rfl, sw_id hO] at hk
      refine r_aldR cd_69_5 rfl rfl ?_
      refine r_get cd_69_6 rfl hO rfl ?_
      refine r_aldR cd_69_9 rfl rfl ?_
      refine r_get cd_69_10 rfl hO rfl ?_
      refine r_ic64 cd_69_13 rfl ⟨by omega, by omega⟩ ⟨by omega, by omega⟩ (fun n1 => ?_) (fun n1 => ?_)
      · refine r_aldR cd_69_16 rfl rfl ?_
        refine r_get cd_69_17 rfl hO rfl ?_
        refine r_aldR cd_69_20 rfl rfl ?_
        refine r_get cd_69_21 rfl hO rfl ?_
        refine r_arr (i := i) cd_69_24 rfl hB rfl (by omega) rfl ?_
        refine r_cI (k_68 (tb i) (hT i (by omega)).r) cd_69_25 rfl rfl rfl True.intro rfl rfl rfl ?_
        refine r_if51b cd_69_28 rfl (fun n2 => ?_) (fun n2 => ?_)
        · exact hk
        · exact absurd (of_decide_eq_true n2) (by omega)
      · exact absurd n1 (by omega)
theorem v_69 {h : aH} {tx tb : Nat → Int} {N : Nat} (hN : N ≤ 600) (hT : ∀ k, k < N → BT (tx k) (tb k)) (kd vl : Int) (i : Nat) (hi : i ≤ N) (hO : h.2.2 202 = TO N ((i : Nat) : Int) ((i : Nat) : Int) kd vl) (hB : h.2.2 203 = .inl (1, 600, .inl tb)) : Ct 2 69 [aR 202] h (.inl none, sw h 202 (TO N ((i : Nat) : Int) ((rnF tx 3 (N - i) i : Nat) : Int) (if 3 < ((rnF tx 3 (N - i) i : Nat) : Int) - ((i : Nat) : Int) then 6 else 2) (itF (vaG tx) i (rnF tx 3 (N - i) i - i) 0))) := by
  refine Ct.of [aR 202] rfl ?_
  have hg := rnF_b tx 3 (N - i) i
  refine r_aldR cd_69_0 rfl rfl ?_
  refine r_con (v := 0) cd_69_1 rfl (by decide) ?_
  refine r_put (fs' := [aR 203, aI ((N : Nat) : Int), aI ((i : Nat) : Int), aI ((i : Nat) : Int), aI kd, aI 0]) cd_69_2 rfl hO rfl rfl ?_
  refine l3_69 hN hT ((i : Nat) : Int) kd (N - i) i 0 (sw_at _ _ _) ((sw_ne (by decide)).trans hB) (by omega) ?_
  rw [sw_sw]
  refine r_aldR cd_69_68 rfl rfl ?_
  refine r_aldR cd_69_69 rfl rfl ?_
  refine r_get cd_69_70 rfl (sw_at _ _ _) rfl ?_
  refine r_aldR cd_69_73 rfl rfl ?_
  refine r_get cd_69_74 rfl (sw_at _ _ _) rfl ?_
  refine r_sub (v := ((rnF tx 3 (N - i) i : Nat) : Int) - ((i : Nat) : Int)) cd_69_77 rfl (by rfl) ?_
  refine r_con (v := 3) cd_69_78 rfl (by decide) ?_
  refine r_ic66 cd_69_79 rfl ⟨by omega, by omega⟩ ⟨by omega, by omega⟩ (fun n1 => ?_) (fun n1 => ?_)
  · refine r_con (v := 6) cd_69_82 rfl (by decide) ?_
    refine r_goto cd_69_84 ?_
    refine r_put (fs' := [aR 203, aI ((N : Nat) : Int), aI ((i : Nat) : Int), aI ((rnF tx 3 (N - i) i : Nat) : Int), aI 6, aI (itF (vaG tx) i (rnF tx 3 (N - i) i - i) 0)]) cd_69_88 rfl (sw_at _ _ _) rfl rfl ?_
    rw [sw_sw]
    exact r_void cd_69_91 rfl (by rw [if_pos (by omega)]; rfl)
  · refine r_con (v := 2) cd_69_87 rfl (by decide) ?_
    refine r_put (fs' := [aR 203, aI ((N : Nat) : Int), aI ((i : Nat) : Int), aI ((rnF tx 3 (N - i) i : Nat) : Int), aI 2, aI (itF (vaG tx) i (rnF tx 3 (N - i) i - i) 0)]) cd_69_88 rfl (sw_at _ _ _) rfl rfl ?_
    rw [sw_sw]
    exact r_void cd_69_91 rfl (by rw [if_neg (by omega)]; rfl)
