/-! THE REFERENCE: tokens (written by wip/whole/gen28.py) -/
def TxB (tx : Nat → Int) : Prop := ∀ k, 0 ≤ tx k ∧ tx k ≤ 255
def TokAt (s tx : Nat → Int) (N i : Nat) : Prop := s 16 = tKnd tx N i ∧ s 17 = ((tOff tx N i : Nat) : Int) ∧ s 18 = ((tEnd tx N i : Nat) : Int) ∧ (tKnd tx N i = 3 → s 19 = tVal tx N i)
def erS (s : Nat → Int) (k : Int) : Nat → Int := va_up (va_up s 11 k) 12 (s 17)
theorem vu_id (s : Nat → Int) (k : Nat) : va_up s k (s k) = s := by
  funext j
  unfold va_up
  split
  · rename_i e; rw [e]
  · rfl
theorem c_180 {h : aH} (x : Int) (hx : inR x) : Ct 1 180 [aI x] h (.inl (some (aI (srt x))), h) := by
  refine Ct.of [aI x] rfl ?_
  refine r_ild cd_180_0 rfl rfl ?_
  refine r_con (v := 59) cd_180_1 rfl (by decide) ?_
  refine r_ic62 cd_180_3 rfl hx ⟨by omega, by omega⟩ (fun n1 => ?_) (fun n1 => ?_)
  · refine r_con (v := 1) cd_180_6 rfl (by decide) ?_
    refine r_goto cd_180_7 ?_
    exact r_ret cd_180_64 True.intro (rI (by unfold srt; repeat' split; all_goals omega))
  · refine r_ild cd_180_10 rfl rfl ?_
    refine r_con (v := 97) cd_180_11 rfl (by decide) ?_
    refine r_ic63 cd_180_13 rfl hx ⟨by omega, by omega⟩ (fun n2 => ?_) (fun n2 => ?_)
    · refine r_ild cd_180_26 rfl rfl ?_
      refine r_con (v := 48) cd_180_27 rfl (by decide) ?_
      refine r_ic63 cd_180_29 rfl hx ⟨by omega, by omega⟩ (fun n3 => ?_) (fun n3 => ?_)
      · refine r_ild cd_180_42 rfl rfl ?_
        refine r_con (v := 40) cd_180_43 rfl (by decide) ?_
        refine r_ic62 cd_180_45 rfl hx ⟨by omega, by omega⟩ (fun n4 => ?_) (fun n4 => ?_)
        · refine r_con (v := 4) cd_180_48 rfl (by decide) ?_
          refine r_goto cd_180_49 ?_
          exact r_ret cd_180_64 True.intro (rI (by unfold srt; repeat' split; all_goals omega))
        · refine r_ild cd_180_52 rfl rfl ?_
          refine r_con (v := 41) cd_180_53 rfl (by decide) ?_
          refine r_ic62 cd_180_55 rfl hx ⟨by omega, by omega⟩ (fun n5 => ?_) (fun n5 => ?_)
          · refine r_con (v := 5) cd_180_58 rfl (by decide) ?_
            refine r_goto cd_180_59 ?_
            exact r_ret cd_180_64 True.intro (rI (by unfold srt; repeat' split; all_goals omega))
          · refine r_con (v := 6) cd_180_62 rfl (by decide) ?_
            exact r_ret cd_180_64 True.intro (rI (by unfold srt; repeat' split; all_goals omega))
      · refine r_ild cd_180_32 rfl rfl ?_
        refine r_con (v := 57) cd_180_33 rfl (by decide) ?_
        refine r_ic65 cd_180_35 rfl hx ⟨by omega, by omega⟩ (fun n6 => ?_) (fun n6 => ?_)
        · refine r_ild cd_180_42 rfl rfl ?_
          refine r_con (v := 40) cd_180_43 rfl (by decide) ?_
          refine r_ic62 cd_180_45 rfl hx ⟨by omega, by omega⟩ (fun n7 => ?_) (fun n7 => ?_)
          · refine r_con (v := 4) cd_180_48 rfl (by decide) ?_
            refine r_goto cd_180_49 ?_
            exact r_ret cd_180_64 True.intro (rI (by unfold srt; repeat' split; all_goals omega))
          · refine r_ild cd_180_52 rfl rfl ?_
            refine r_con (v := 41) cd_180_53 rfl (by decide) ?_
            refine r_ic62 cd_180_55 rfl hx ⟨by omega, by omega⟩ (fun n8 => ?_) (fun n8 => ?_)
            · refine r_con (v := 5) cd_180_58 rfl (by decide) ?_
              refine r_goto cd_180_59 ?_
              exact r_ret cd_180_64 True.intro (rI (by unfold srt; repeat' split; all_goals omega))
            · refine r_con (v := 6) cd_180_62 rfl (by decide) ?_
              exact r_ret cd_180_64 True.intro (rI (by unfold srt; repeat' split; all_goals omega))
        · refine r_con (v := 3) cd_180_38 rfl (by decide) ?_
          refine r_goto cd_180_39 ?_
          exact r_ret cd_180_64 True.intro (rI (by unfold srt; repeat' split; all_goals omega))
    · refine r_ild cd_180_16 rfl rfl ?_
      refine r_con (v := 122) cd_180_17 rfl (by decide) ?_
      refine r_ic65 cd_180_19 rfl hx ⟨by omega, by omega⟩ (fun n9 => ?_) (fun n9 => ?_)
      · refine r_ild cd_180_26 rfl rfl ?_
        refine r_con (v := 48) cd_180_27 rfl (by decide) ?_
        refine r_ic63 cd_180_29 rfl hx ⟨by omega, by omega⟩ (fun n10 => ?_) (fun n10 => ?_)
        · refine r_ild cd_180_42 rfl rfl ?_
          refine r_con (v := 40) cd_180_43 rfl (by decide) ?_
          refine r_ic62 cd_180_45 rfl hx ⟨by omega, by omega⟩ (fun n11 => ?_) (fun n11 => ?_)
          · refine r_con (v := 4) cd_180_48 rfl (by decide) ?_
            refine r_goto cd_180_49 ?_
            exact r_ret cd_180_64 True.intro (rI (by unfold srt; repeat' split; all_goals omega))
          · refine r_ild cd_180_52 rfl rfl ?_
            refine r_con (v := 41) cd_180_53 rfl (by decide) ?_
            refine r_ic62 cd_180_55 rfl hx ⟨by omega, by omega⟩ (fun n12 => ?_) (fun n12 => ?_)
            · refine r_con (v := 5) cd_180_58 rfl (by decide) ?_
              refine r_goto cd_180_59 ?_
              exact r_ret cd_180_64 True.intro (rI (by unfold srt; repeat' split; all_goals omega))
            · refine r_con (v := 6) cd_180_62 rfl (by decide) ?_
              exact r_ret cd_180_64 True.intro (rI (by unfold srt; repeat' split; all_goals omega))
        · refine r_ild cd_180_32 rfl rfl ?_
          refine r_con (v := 57) cd_180_33 rfl (by decide) ?_
          refine r_ic65 cd_180_35 rfl hx ⟨by omega, by omega⟩ (fun n13 => ?_) (fun n13 => ?_)
          · refine r_ild cd_180_42 rfl rfl ?_
            refine r_con (v := 40) cd_180_43 rfl (by decide) ?_
            refine r_ic62 cd_180_45 rfl hx ⟨by omega, by omega⟩ (fun n14 => ?_) (fun n14 => ?_)
            · refine r_con (v := 4) cd_180_48 rfl (by decide) ?_
              refine r_goto cd_180_49 ?_
              exact r_ret cd_180_64 True.intro (rI (by unfold srt; repeat' split; all_goals omega))
            · refine r_ild cd_180_52 rfl rfl ?_
              refine r_con (v := 41) cd_180_53 rfl (by decide) ?_
              refine r_ic62 cd_180_55 rfl hx ⟨by omega, by omega⟩ (fun n15 => ?_) (fun n15 => ?_)
              · refine r_con (v := 5) cd_180_58 rfl (by decide) ?_
                refine r_goto cd_180_59 ?_
                exact r_ret cd_180_64 True.intro (rI (by unfold srt; repeat' split; all_goals omega))
              · refine r_con (v := 6) cd_180_62 rfl (by decide) ?_
                exact r_ret cd_180_64 True.intro (rI (by unfold srt; repeat' split; all_goals omega))
          · refine r_con (v := 3) cd_180_38 rfl (by decide) ?_
            refine r_goto cd_180_39 ?_
            exact r_ret cd_180_64 True.intro (rI (by unfold srt; repeat' split; all_goals omega))
      · refine r_con (v := 2) cd_180_22 rfl (by decide) ?_
        refine r_goto cd_180_23 ?_
        exact r_ret cd_180_64 True.intro (rI (by unfold srt; repeat' split; all_goals omega))
theorem l1_179 {res : aRes} {tx : Nat → Int} {N : Nat} (hN6 : N ≤ 600) (hb : TxB tx) : ∀ (m i : Nat) {h : aH} {s : Nat → Int}, h.2.2 226 = .inr (8, Mo s) → h.2.2 233 = .inl (0, 600, .inl tx) → s 17 = ((i : Nat) : Int) → s 10 = ((N : Nat) : Int) → i + m = N → RU 2 179 res (60, [aR 226, aU], [], 0, 0, sw h 226 (.inr (8, Mo (va_up s 17 ((skF tx m i : Nat) : Int))))) → RU 2 179 res (8, [aR 226, aU], [], 0, 0, h) := by
  intro m
  induction m with
  | zero =>
    intro i h s hM htx h17 h10 hm hk
    refine r_aldR cd_179_8 rfl rfl ?_
    refine r_get (v := aI ((i : Nat) : Int)) cd_179_9 rfl hM (by rw [← h17]; rfl) ?_
    refine r_aldR cd_179_12 rfl rfl ?_
    refine r_get (v := aI ((N : Nat) : Int)) cd_179_13 rfl hM (by rw [← h10]; rfl) ?_
    refine r_ic64 cd_179_16 rfl ⟨by omega, by omega⟩ ⟨by omega, by omega⟩ (fun n1 => ?_) (fun n1 => ?_)
    · exact absurd n1 (by omega)
    · rw [show skF tx 0 i = i from rfl, show va_up s 17 ((i : Nat) : Int) = s by (rw [← h17]; exact vu_id s 17), sw_id hM] at hk
      exact hk
  | succ m ih =>
    intro i h s hM htx h17 h10 hm hk
    refine r_aldR cd_179_8 rfl rfl ?_
    refine r_get (v := aI ((i : Nat) : Int)) cd_179_9 rfl hM (by rw [← h17]; rfl) ?_
    refine r_aldR cd_179_12 rfl rfl ?_
    refine r_get (v := aI ((N : Nat) : Int)) cd_179_13 rfl hM (by rw [← h10]; rfl) ?_
    refine r_ic64 cd_179_16 rfl ⟨by omega, by omega⟩ ⟨by omega, by omega⟩ (fun n1 => ?_) (fun n1 => ?_)
    · refine r_aldR cd_179_19 rfl rfl ?_
      refine r_get cd_179_20 rfl hM rfl ?_
      refine r_aldR cd_179_23 rfl rfl ?_
      refine r_get (v := aI ((i : Nat) : Int)) cd_179_24 rfl hM (by rw [← h17]; rfl) ?_
      refine r_arr (i := i) cd_179_27 rfl htx rfl (by omega) rfl ?_
      refine r_con (v := 32) cd_179_28 rfl (by decide) ?_
      refine r_ic61 cd_179_30 rfl ⟨by have := hb (i); omega, by have := hb (i); omega⟩ ⟨by omega, by omega⟩ (fun n2 => ?_) (fun n2 => ?_)
      · refine r_aldR cd_179_47 rfl rfl ?_
        refine r_dup cd_179_48 rfl rfl ?_
        refine r_get (v := aI ((i : Nat) : Int)) cd_179_49 rfl hM (by rw [← h17]; rfl) ?_
        refine r_con (v := 1) cd_179_52 rfl (by decide) ?_
        refine r_add (v := ((i + 1 : Nat) : Int)) cd_179_53 rfl (by omega) ?_
        refine r_put (fs' := Mo (va_up s 17 ((i + 1 : Nat) : Int))) cd_179_54 rfl hM rfl rfl ?_
        refine r_goto cd_179_57 ?_
        have e9 : skF tx (m + 1) i = skF tx m (i + 1) := by rw [skF, if_pos (by omega)]
        refine ih (i + 1) (h := sw h 226 (.inr (8, Mo (va_up s 17 ((i + 1 : Nat) : Int))))) (s := (va_up s 17 ((i + 1 : Nat) : Int))) (sw_at _ _ _) ((sw_ne (by decide)).trans htx) (vu_at _ _ _) ((vu_ne (by decide)).trans h10) (by omega) ?_
        rw [sw_sw, vu_vu, ← e9]
        exact hk
      · refine r_aldR cd_179_33 rfl rfl ?_
        refine r_get cd_179_34 rfl hM rfl ?_
        refine r_aldR cd_179_37 rfl rfl ?_
        refine r_get (v := aI ((i : Nat) : Int)) cd_179_38 rfl hM (by rw [← h17]; rfl) ?_
        refine r_arr (i := i) cd_179_41 rfl htx rfl (by omega) rfl ?_
        refine r_con (v := 10) cd_179_42 rfl (by decide) ?_
        refine r_ic62 cd_179_44 rfl ⟨by have := hb (i); omega, by have := hb (i); omega⟩ ⟨by omega, by omega⟩ (fun n3 => ?_) (fun n3 => ?_)
        · refine r_aldR cd_179_47 rfl rfl ?_
          refine r_dup cd_179_48 rfl rfl ?_
          refine r_get (v := aI ((i : Nat) : Int)) cd_179_49 rfl hM (by rw [← h17]; rfl) ?_
          refine r_con (v := 1) cd_179_52 rfl (by decide) ?_
          refine r_add (v := ((i + 1 : Nat) : Int)) cd_179_53 rfl (by omega) ?_
          refine r_put (fs' := Mo (va_up s 17 ((i + 1 : Nat) : Int))) cd_179_54 rfl hM rfl rfl ?_
          refine r_goto cd_179_57 ?_
          have e9 : skF tx (m + 1) i = skF tx m (i + 1) := by rw [skF, if_pos (by omega)]
          refine ih (i + 1) (h := sw h 226 (.inr (8, Mo (va_up s 17 ((i + 1 : Nat) : Int))))) (s := (va_up s 17 ((i + 1 : Nat) : Int))) (sw_at _ _ _) ((sw_ne (by decide)).trans htx) (vu_at _ _ _) ((vu_ne (by decide)).trans h10) (by omega) ?_
          rw [sw_sw, vu_vu, ← e9]
          exact hk
        · rw [show skF tx (m + 1) i = i by rw [skF, if_neg (by omega)], show va_up s 17 ((i : Nat) : Int) = s by (rw [← h17]; exact vu_id s 17), sw_id hM] at hk
          exact hk
    · exact absurd n1 (by omega)
theorem l2_179 {res : aRes} {tx : Nat → Int} {N : Nat} (hN6 : N ≤ 600) (hb : TxB tx) (q : Int) (hq : q = 2 ∨ q = 3) : ∀ (m i : Nat) {h : aH} {s : Nat → Int}, h.2.2 226 = .inr (8, Mo s) → h.2.2 233 = .inl (0, 600, .inl tx) → s 18 = ((i : Nat) : Int) → s 10 = ((N : Nat) : Int) → s 16 = q → i + m = N → RU 2 179 res (170, [aR 226, aU], [], 0, 0, sw h 226 (.inr (8, Mo (va_up s 18 ((rnF tx q m i : Nat) : Int))))) → RU 2 179 res (111, [aR 226, aU], [], 0, 0, h) := by
  intro m
  induction m with
  | zero =>
    intro i h s hM htx h18 h10 h16 hm hk
    refine r_aldR cd_179_111 rfl rfl ?_
    refine r_get (v := aI q) cd_179_112 rfl hM (by rw [← h16]; rfl) ?_
    refine r_con (v := 2) cd_179_115 rfl (by decide) ?_
    refine r_ic61 cd_179_116 rfl ⟨by omega, by omega⟩ ⟨by omega, by omega⟩ (fun n1 => ?_) (fun n1 => ?_)
    · refine r_aldR cd_179_127 rfl rfl ?_
      refine r_get (v := aI ((i : Nat) : Int)) cd_179_128 rfl hM (by rw [← h18]; rfl) ?_
      refine r_aldR cd_179_131 rfl rfl ?_
      refine r_get (v := aI ((N : Nat) : Int)) cd_179_132 rfl hM (by rw [← h10]; rfl) ?_
      refine r_ic64 cd_179_135 rfl ⟨by omega, by omega⟩ ⟨by omega, by omega⟩ (fun n2 => ?_) (fun n2 => ?_)
      · exact absurd n2 (by omega)
      · rw [show rnF tx q 0 i = i from rfl, show va_up s 18 ((i : Nat) : Int) = s by (rw [← h18]; exact vu_id s 18), sw_id hM] at hk
        exact hk
    · refine r_aldR cd_179_119 rfl rfl ?_
      refine r_get (v := aI q) cd_179_120 rfl hM (by rw [← h16]; rfl) ?_
      refine r_con (v := 3) cd_179_123 rfl (by decide) ?_
      refine r_ic62 cd_179_124 rfl ⟨by omega, by omega⟩ ⟨by omega, by omega⟩ (fun n3 => ?_) (fun n3 => ?_)
      · refine r_aldR cd_179_127 rfl rfl ?_
        refine r_get (v := aI ((i : Nat) : Int)) cd_179_128 rfl hM (by rw [← h18]; rfl) ?_
        refine r_aldR cd_179_131 rfl rfl ?_
        refine r_get (v := aI ((N : Nat) : Int)) cd_179_132 rfl hM (by rw [← h10]; rfl) ?_
        refine r_ic64 cd_179_135 rfl ⟨by omega, by omega⟩ ⟨by omega, by omega⟩ (fun n4 => ?_) (fun n4 => ?_)
        · exact absurd n4 (by omega)
        · rw [show rnF tx q 0 i = i from rfl, show va_up s 18 ((i : Nat) : Int) = s by (rw [← h18]; exact vu_id s 18), sw_id hM] at hk
          exact hk
      · exact absurd n3 (by omega)
  | succ m ih =>
    intro i h s hM htx h18 h10 h16 hm hk
    refine r_aldR cd_179_111 rfl rfl ?_
    refine r_get (v := aI q) cd_179_112 rfl hM (by rw [← h16]; rfl) ?_
    refine r_con (v := 2) cd_179_115 rfl (by decide) ?_
    refine r_ic61 cd_179_116 rfl ⟨by omega, by omega⟩ ⟨by omega, by omega⟩ (fun n1 => ?_) (fun n1 => ?_)
    · refine r_aldR cd_179_127 rfl rfl ?_
      refine r_get (v := aI ((i : Nat) : Int)) cd_179_128 rfl hM (by rw [← h18]; rfl) ?_
      refine r_aldR cd_179_131 rfl rfl ?_
      refine r_get (v := aI ((N : Nat) : Int)) cd_179_132 rfl hM (by rw [← h10]; rfl) ?_
      refine r_ic64 cd_179_135 rfl ⟨by omega, by omega⟩ ⟨by omega, by omega⟩ (fun n2 => ?_) (fun n2 => ?_)
      · refine r_aldR cd_179_138 rfl rfl ?_
        refine r_get cd_179_139 rfl hM rfl ?_
        refine r_aldR cd_179_142 rfl rfl ?_
        refine r_get (v := aI ((i : Nat) : Int)) cd_179_143 rfl hM (by rw [← h18]; rfl) ?_
        refine r_arr (i := i) cd_179_146 rfl htx rfl (by omega) rfl ?_
        refine r_cI (c_180 (tx i) ⟨by have := hb (i); omega, by have := hb (i); omega⟩) cd_179_147 rfl rfl rfl True.intro rfl rfl rfl ?_
        refine r_aldR cd_179_150 rfl rfl ?_
        refine r_get (v := aI q) cd_179_151 rfl hM (by rw [← h16]; rfl) ?_
        refine r_ic62 cd_179_154 rfl (inR_of (srt_b (tx i)) (by decide) (by decide)) ⟨by omega, by omega⟩ (fun n3 => ?_) (fun n3 => ?_)
        · refine r_aldR cd_179_157 rfl rfl ?_
          refine r_dup cd_179_158 rfl rfl ?_
          refine r_get (v := aI ((i : Nat) : Int)) cd_179_159 rfl hM (by rw [← h18]; rfl) ?_
          refine r_con (v := 1) cd_179_162 rfl (by decide) ?_
          refine r_add (v := ((i + 1 : Nat) : Int)) cd_179_163 rfl (by omega) ?_
          refine r_put (fs' := Mo (va_up s 18 ((i + 1 : Nat) : Int))) cd_179_164 rfl hM rfl rfl ?_
          refine r_goto cd_179_167 ?_
          have e9 : rnF tx q (m + 1) i = rnF tx q m (i + 1) := by rw [rnF, if_pos (by omega)]
          refine ih (i + 1) (h := sw h 226 (.inr (8, Mo (va_up s 18 ((i + 1 : Nat) : Int))))) (s := (va_up s 18 ((i + 1 : Nat) : Int))) (sw_at _ _ _) ((sw_ne (by decide)).trans htx) (vu_at _ _ _) ((vu_ne (by decide)).trans h10) ((vu_ne (by decide)).trans h16) (by omega) ?_
          rw [sw_sw, vu_vu, ← e9]
          exact hk
        · rw [show rnF tx q (m + 1) i = i by rw [rnF, if_neg (by omega)], show va_up s 18 ((i : Nat) : Int) = s by (rw [← h18]; exact vu_id s 18), sw_id hM] at hk
          exact hk
      · exact absurd n2 (by omega)
    · refine r_aldR cd_179_119 rfl rfl ?_
      refine r_get (v := aI q) cd_179_120 rfl hM (by rw [← h16]; rfl) ?_
      refine r_con (v := 3) cd_179_123 rfl (by decide) ?_
      refine r_ic62 cd_179_124 rfl ⟨by omega, by omega⟩ ⟨by omega, by omega⟩ (fun n4 => ?_) (fun n4 => ?_)
      · refine r_aldR cd_179_127 rfl rfl ?_
        refine r_get (v := aI ((i : Nat) : Int)) cd_179_128 rfl hM (by rw [← h18]; rfl) ?_
        refine r_aldR cd_179_131 rfl rfl ?_
        refine r_get (v := aI ((N : Nat) : Int)) cd_179_132 rfl hM (by rw [← h10]; rfl) ?_
        refine r_ic64 cd_179_135 rfl ⟨by omega, by omega⟩ ⟨by omega, by omega⟩ (fun n5 => ?_) (fun n5 => ?_)
        · refine r_aldR cd_179_138 rfl rfl ?_
          refine r_get cd_179_139 rfl hM rfl ?_
          refine r_aldR cd_179_142 rfl rfl ?_
          refine r_get (v := aI ((i : Nat) : Int)) cd_179_143 rfl hM (by rw [← h18]; rfl) ?_
          refine r_arr (i := i) cd_179_146 rfl htx rfl (by omega) rfl ?_
          refine r_cI (c_180 (tx i) ⟨by have := hb (i); omega, by have := hb (i); omega⟩) cd_179_147 rfl rfl rfl True.intro rfl rfl rfl ?_
          refine r_aldR cd_179_150 rfl rfl ?_
          refine r_get (v := aI q) cd_179_151 rfl hM (by rw [← h16]; rfl) ?_
          refine r_ic62 cd_179_154 rfl (inR_of (srt_b (tx i)) (by decide) (by decide)) ⟨by omega, by omega⟩ (fun n6 => ?_) (fun n6 => ?_)
          · refine r_aldR cd_179_157 rfl rfl ?_
            refine r_dup cd_179_158 rfl rfl ?_
            refine r_get (v := aI ((i : Nat) : Int)) cd_179_159 rfl hM (by rw [← h18]; rfl) ?_
            refine r_con (v := 1) cd_179_162 rfl (by decide) ?_
            refine r_add (v := ((i + 1 : Nat) : Int)) cd_179_163 rfl (by omega) ?_
            refine r_put (fs' := Mo (va_up s 18 ((i + 1 : Nat) : Int))) cd_179_164 rfl hM rfl rfl ?_
            refine r_goto cd_179_167 ?_
            have e9 : rnF tx q (m + 1) i = rnF tx q m (i + 1) := by rw [rnF, if_pos (by omega)]
            refine ih (i + 1) (h := sw h 226 (.inr (8, Mo (va_up s 18 ((i + 1 : Nat) : Int))))) (s := (va_up s 18 ((i + 1 : Nat) : Int))) (sw_at _ _ _) ((sw_ne (by decide)).trans htx) (vu_at _ _ _) ((vu_ne (by decide)).trans h10) ((vu_ne (by decide)).trans h16) (by omega) ?_
            rw [sw_sw, vu_vu, ← e9]
            exact hk
          · rw [show rnF tx q (m + 1) i = i by rw [rnF, if_neg (by omega)], show va_up s 18 ((i : Nat) : Int) = s by (rw [← h18]; exact vu_id s 18), sw_id hM] at hk
            exact hk
        · exact absurd n5 (by omega)
      · exact absurd n4 (by omega)
theorem l3_179 {tx : Nat → Int} (e : Nat) (he : e ≤ 600) (hb : TxB tx) : ∀ (m i : Nat) (v : Int) {h : aH} {s : Nat → Int}, h.2.2 226 = .inr (8, Mo s) → h.2.2 233 = .inl (0, 600, .inl tx) → s 18 = ((e : Nat) : Int) → s 16 = 3 → s 19 = v → i + m = e → RU 2 179 (.inl none, sw h 226 (.inr (8, Mo (va_up s 19 (itF (vaG tx) i m v))))) (207, [aR 226, aI ((i : Nat) : Int)], [], 0, 0, h) := by
  intro m
  induction m with
  | zero =>
    intro i v h s hM htx h18 h16 h19 hm
    refine r_ild cd_179_207 rfl rfl ?_
    refine r_aldR cd_179_208 rfl rfl ?_
    refine r_get (v := aI ((e : Nat) : Int)) cd_179_209 rfl hM (by rw [← h18]; rfl) ?_
    refine r_ic64 cd_179_212 rfl ⟨by omega, by omega⟩ ⟨by omega, by omega⟩ (fun n1 => ?_) (fun n1 => ?_)
    · exact absurd n1 (by omega)
    · exact r_void cd_179_250 rfl (by rw [show va_up s 19 (itF (vaG tx) i 0 v) = s by (rw [show itF (vaG tx) i 0 v = s 19 from h19.symm]; exact vu_id s 19), sw_id hM])
  | succ m ih =>
    intro i v h s hM htx h18 h16 h19 hm
    refine r_ild cd_179_207 rfl rfl ?_
    refine r_aldR cd_179_208 rfl rfl ?_
    refine r_get (v := aI ((e : Nat) : Int)) cd_179_209 rfl hM (by rw [← h18]; rfl) ?_
    refine r_ic64 cd_179_212 rfl ⟨by omega, by omega⟩ ⟨by omega, by omega⟩ (fun n1 => ?_) (fun n1 => ?_)
    · refine r_aldR cd_179_215 rfl rfl ?_
      refine r_get (v := aI 3) cd_179_216 rfl hM (by rw [← h16]; rfl) ?_
      refine r_con (v := 3) cd_179_219 rfl (by decide) ?_
      refine r_ic62 cd_179_220 rfl ⟨by omega, by omega⟩ ⟨by omega, by omega⟩ (fun n2 => ?_) (fun n2 => ?_)
      · refine r_aldR cd_179_223 rfl rfl ?_
        refine r_con (v := 10) cd_179_224 rfl (by decide) ?_
        refine r_aldR cd_179_226 rfl rfl ?_
        refine r_get (v := aI v) cd_179_227 rfl hM (by rw [← h19]; rfl) ?_
        refine r_mul (v := 10 * v) cd_179_230 rfl (by rfl) ?_
        refine r_aldR cd_179_231 rfl rfl ?_
        refine r_get cd_179_232 rfl hM rfl ?_
        refine r_ild cd_179_235 rfl rfl ?_
        refine r_arr (i := i) cd_179_236 rfl htx rfl (by omega) rfl ?_
        refine r_add (v := (10 * v) + (tx i)) cd_179_237 rfl (by rfl) ?_
        refine r_con (v := 48) cd_179_238 rfl (by decide) ?_
        refine r_sub (v := ((10 * v) + (tx i)) - 48) cd_179_240 rfl (by rfl) ?_
        refine r_put (fs' := Mo (va_up s 19 (((10 * v) + (tx i)) - 48))) cd_179_241 rfl hM rfl rfl ?_
        refine r_inc (v := ((i + 1 : Nat) : Int)) cd_179_244 rfl rfl rfl (by omega) (L' := [aR 226, aI ((i + 1 : Nat) : Int)]) rfl ?_
        refine r_goto cd_179_247 ?_
        refine RU.res ?_ (ih (i + 1) (vaG tx i v) (h := sw h 226 (.inr (8, Mo (va_up s 19 (vaG tx i v))))) (s := (va_up s 19 (vaG tx i v))) (sw_at _ _ _) ((sw_ne (by decide)).trans htx) ((vu_ne (by decide)).trans h18) ((vu_ne (by decide)).trans h16) (vu_at _ _ _) (by omega))
        rw [sw_sw, vu_vu]
        rfl
      · exact absurd rfl n2
    · exact absurd n1 (by omega)
theorem n_179a {h : aH} {s tx : Nat → Int} {N i : Nat} (hM : h.2.2 226 = .inr (8, Mo s)) (htx : h.2.2 233 = .inl (0, 600, .inl tx)) (hb : TxB tx) (h10 : s 10 = ((N : Nat) : Int)) (hN6 : N ≤ 600) (h18 : s 18 = ((i : Nat) : Int)) (hi : i ≤ N) (ho : tOff tx N i = N) : Ct 2 179 [aR 226] h (.inl none, sw h 226 (.inr (8, Mo (va_up (va_up (va_up s 17 ((tOff tx N i : Nat) : Int)) 18 ((tOff tx N i : Nat) : Int)) 16 0)))) := by
  have hob := tOff_b (tx := tx) (N := N) hi
  have heb := tEnd_b (tx := tx) (N := N) hi
  have hsb := srt_b (tx (tOff tx N i))
  refine Ct.of [aR 226, aU] rfl ?_
  refine r_aldR cd_179_0 rfl rfl ?_
  refine r_aldR cd_179_1 rfl rfl ?_
  refine r_get (v := aI ((i : Nat) : Int)) cd_179_2 rfl hM (by rw [← h18]; rfl) ?_
  refine r_put (fs' := Mo (va_up s 17 ((i : Nat) : Int))) cd_179_5 rfl hM rfl rfl ?_
  refine l1_179 hN6 hb (N - i) i (sw_at _ _ _) ((sw_ne (by decide)).trans htx) (vu_at _ _ _) ((vu_ne (by decide)).trans h10) (by omega) ?_
  rw [sw_sw, vu_vu]
  show RU _ _ _ (_, _, _, _, _, sw h 226 (.inr (8, Mo (va_up s 17 ((tOff tx N i : Nat) : Int)))))
  refine r_aldR cd_179_60 rfl rfl ?_
  refine r_aldR cd_179_61 rfl rfl ?_
  refine r_get (v := aI ((tOff tx N i : Nat) : Int)) cd_179_62 rfl (sw_at _ _ _) (rfl) ?_
  refine r_put (fs' := Mo (va_up (va_up s 17 ((tOff tx N i : Nat) : Int)) 18 ((tOff tx N i : Nat) : Int))) cd_179_65 rfl (sw_at _ _ _) rfl rfl ?_
  rw [sw_sw]
  refine r_aldR cd_179_68 rfl rfl ?_
  refine r_get (v := aI ((tOff tx N i : Nat) : Int)) cd_179_69 rfl (sw_at _ _ _) (rfl) ?_
  refine r_aldR cd_179_72 rfl rfl ?_
  refine r_get (v := aI ((N : Nat) : Int)) cd_179_73 rfl (sw_at _ _ _) (by rw [← h10]; rfl) ?_
  refine r_ic62 cd_179_76 rfl ⟨by omega, by omega⟩ ⟨by omega, by omega⟩ (fun n1 => ?_) (fun n1 => ?_)
  · refine r_aldR cd_179_79 rfl rfl ?_
    refine r_con (v := 0) cd_179_80 rfl (by decide) ?_
    refine r_put (fs' := Mo (va_up (va_up (va_up s 17 ((tOff tx N i : Nat) : Int)) 18 ((tOff tx N i : Nat) : Int)) 16 0)) cd_179_81 rfl (sw_at _ _ _) rfl rfl ?_
    rw [sw_sw]
    exact r_void cd_179_84 rfl (rfl)
  · exact absurd n1 (by omega)
theorem n_179b {h : aH} {s tx : Nat → Int} {N i : Nat} (hM : h.2.2 226 = .inr (8, Mo s)) (htx : h.2.2 233 = .inl (0, 600, .inl tx)) (hb : TxB tx) (h10 : s 10 = ((N : Nat) : Int)) (hN6 : N ≤ 600) (h18 : s 18 = ((i : Nat) : Int)) (hi : i ≤ N) (ho : ¬ tOff tx N i = N) (hs : ¬ (srt (tx (tOff tx N i))) = 2 ∧ ¬ (srt (tx (tOff tx N i))) = 3) : Ct 2 179 [aR 226] h (.inl none, sw h 226 (.inr (8, Mo (va_up (va_up (va_up (va_up (va_up s 17 ((tOff tx N i : Nat) : Int)) 18 ((tOff tx N i : Nat) : Int)) 16 (srt (tx (tOff tx N i)))) 18 ((tOff tx N i + 1 : Nat) : Int)) 19 0)))) := by
  have hob := tOff_b (tx := tx) (N := N) hi
  have heb := tEnd_b (tx := tx) (N := N) hi
  have hsb := srt_b (tx (tOff tx N i))
  refine Ct.of [aR 226, aU] rfl ?_
  refine r_aldR cd_179_0 rfl rfl ?_
  refine r_aldR cd_179_1 rfl rfl ?_
  refine r_get (v := aI ((i : Nat) : Int)) cd_179_2 rfl hM (by rw [← h18]; rfl) ?_
  refine r_put (fs' := Mo (va_up s 17 ((i : Nat) : Int))) cd_179_5 rfl hM rfl rfl ?_
  refine l1_179 hN6 hb (N - i) i (sw_at _ _ _) ((sw_ne (by decide)).trans htx) (vu_at _ _ _) ((vu_ne (by decide)).trans h10) (by omega) ?_
  rw [sw_sw, vu_vu]
  show RU _ _ _ (_, _, _, _, _, sw h 226 (.inr (8, Mo (va_up s 17 ((tOff tx N i : Nat) : Int)))))
  refine r_aldR cd_179_60 rfl rfl ?_
  refine r_aldR cd_179_61 rfl rfl ?_
  refine r_get (v := aI ((tOff tx N i : Nat) : Int)) cd_179_62 rfl (sw_at _ _ _) (rfl) ?_
  refine r_put (fs' := Mo (va_up (va_up s 17 ((tOff tx N i : Nat) : Int)) 18 ((tOff tx N i : Nat) : Int))) cd_179_65 rfl (sw_at _ _ _) rfl rfl ?_
  rw [sw_sw]
  refine r_aldR cd_179_68 rfl rfl ?_
  refine r_get (v := aI ((tOff tx N i : Nat) : Int)) cd_179_69 rfl (sw_at _ _ _) (rfl) ?_
  refine r_aldR cd_179_72 rfl rfl ?_
  refine r_get (v := aI ((N : Nat) : Int)) cd_179_73 rfl (sw_at _ _ _) (by rw [← h10]; rfl) ?_
  refine r_ic62 cd_179_76 rfl ⟨by omega, by omega⟩ ⟨by omega, by omega⟩ (fun n1 => ?_) (fun n1 => ?_)
  · exact absurd n1 (by omega)
  · refine r_aldR cd_179_85 rfl rfl ?_
    refine r_aldR cd_179_86 rfl rfl ?_
    refine r_get cd_179_87 rfl (sw_at _ _ _) rfl ?_
    refine r_aldR cd_179_90 rfl rfl ?_
    refine r_get (v := aI ((tOff tx N i : Nat) : Int)) cd_179_91 rfl (sw_at _ _ _) (rfl) ?_
    refine r_arr (i := tOff tx N i) cd_179_94 rfl ((sw_ne (by decide)).trans htx) rfl (by omega) rfl ?_
    refine r_cI (c_180 (tx (tOff tx N i)) ⟨by have := hb (tOff tx N i); omega, by have := hb (tOff tx N i); omega⟩) cd_179_95 rfl rfl rfl True.intro rfl rfl rfl ?_
    refine r_put (fs' := Mo (va_up (va_up (va_up s 17 ((tOff tx N i : Nat) : Int)) 18 ((tOff tx N i : Nat) : Int)) 16 (srt (tx (tOff tx N i))))) cd_179_98 rfl (sw_at _ _ _) rfl rfl ?_
    rw [sw_sw]
    refine r_aldR cd_179_101 rfl rfl ?_
    refine r_dup cd_179_102 rfl rfl ?_
    refine r_get (v := aI ((tOff tx N i : Nat) : Int)) cd_179_103 rfl (sw_at _ _ _) (rfl) ?_
    refine r_con (v := 1) cd_179_106 rfl (by decide) ?_
    refine r_add (v := ((tOff tx N i + 1 : Nat) : Int)) cd_179_107 rfl (by omega) ?_
    refine r_put (fs' := Mo (va_up (va_up (va_up (va_up s 17 ((tOff tx N i : Nat) : Int)) 18 ((tOff tx N i : Nat) : Int)) 16 (srt (tx (tOff tx N i)))) 18 ((tOff tx N i + 1 : Nat) : Int))) cd_179_108 rfl (sw_at _ _ _) rfl rfl ?_
    rw [sw_sw]
    refine r_aldR cd_179_111 rfl rfl ?_
    refine r_get (v := aI (srt (tx (tOff tx N i)))) cd_179_112 rfl (sw_at _ _ _) (rfl) ?_
    refine r_con (v := 2) cd_179_115 rfl (by decide) ?_
    refine r_ic61 cd_179_116 rfl (inR_of hsb (by decide) (by decide)) ⟨by omega, by omega⟩ (fun n2 => ?_) (fun n2 => ?_)
    · exact absurd n2 hs.1
    · refine r_aldR cd_179_119 rfl rfl ?_
      refine r_get (v := aI (srt (tx (tOff tx N i)))) cd_179_120 rfl (sw_at _ _ _) (rfl) ?_
      refine r_con (v := 3) cd_179_123 rfl (by decide) ?_
      refine r_ic62 cd_179_124 rfl (inR_of hsb (by decide) (by decide)) ⟨by omega, by omega⟩ (fun n3 => ?_) (fun n3 => ?_)
      · exact absurd n3 hs.2
      · refine r_aldR cd_179_170 rfl rfl ?_
        refine r_get (v := aI (srt (tx (tOff tx N i)))) cd_179_171 rfl (sw_at _ _ _) (rfl) ?_
        refine r_con (v := 3) cd_179_174 rfl (by decide) ?_
        refine r_ic62 cd_179_175 rfl (inR_of hsb (by decide) (by decide)) ⟨by omega, by omega⟩ (fun n4 => ?_) (fun n4 => ?_)
        · exact absurd n4 (by omega)
        · refine r_aldR cd_179_197 rfl rfl ?_
          refine r_con (v := 0) cd_179_198 rfl (by decide) ?_
          refine r_put (fs' := Mo (va_up (va_up (va_up (va_up (va_up s 17 ((tOff tx N i : Nat) : Int)) 18 ((tOff tx N i : Nat) : Int)) 16 (srt (tx (tOff tx N i)))) 18 ((tOff tx N i + 1 : Nat) : Int)) 19 0)) cd_179_199 rfl (sw_at _ _ _) rfl rfl ?_
          rw [sw_sw]
          refine r_aldR cd_179_202 rfl rfl ?_
          refine r_get (v := aI ((tOff tx N i : Nat) : Int)) cd_179_203 rfl (sw_at _ _ _) (rfl) ?_
          refine r_ist cd_179_206 rfl rfl (L' := [aR 226, aI ((tOff tx N i : Nat) : Int)]) rfl ?_
          refine r_ild cd_179_207 rfl rfl ?_
          refine r_aldR cd_179_208 rfl rfl ?_
          refine r_get (v := aI ((tOff tx N i + 1 : Nat) : Int)) cd_179_209 rfl (sw_at _ _ _) (rfl) ?_
          refine r_ic64 cd_179_212 rfl ⟨by omega, by omega⟩ ⟨by omega, by omega⟩ (fun n5 => ?_) (fun n5 => ?_)
          · refine r_aldR cd_179_215 rfl rfl ?_
            refine r_get (v := aI (srt (tx (tOff tx N i)))) cd_179_216 rfl (sw_at _ _ _) (rfl) ?_
            refine r_con (v := 3) cd_179_219 rfl (by decide) ?_
            refine r_ic62 cd_179_220 rfl (inR_of hsb (by decide) (by decide)) ⟨by omega, by omega⟩ (fun n6 => ?_) (fun n6 => ?_)
            · exact absurd n6 (by omega)
            · exact r_void cd_179_250 rfl (rfl)
          · exact r_void cd_179_250 rfl (rfl)
theorem n_179c {h : aH} {s tx : Nat → Int} {N i : Nat} (hM : h.2.2 226 = .inr (8, Mo s)) (htx : h.2.2 233 = .inl (0, 600, .inl tx)) (hb : TxB tx) (h10 : s 10 = ((N : Nat) : Int)) (hN6 : N ≤ 600) (h18 : s 18 = ((i : Nat) : Int)) (hi : i ≤ N) (ho : ¬ tOff tx N i = N) (hs : (srt (tx (tOff tx N i))) = 2) : Ct 2 179 [aR 226] h (.inl none, sw h 226 (.inr (8, Mo (va_up (va_up (va_up (va_up (va_up (va_up s 17 ((tOff tx N i : Nat) : Int)) 18 ((tOff tx N i : Nat) : Int)) 16 (srt (tx (tOff tx N i)))) 18 ((tOff tx N i + 1 : Nat) : Int)) 18 ((tEnd tx N i : Nat) : Int)) 19 0)))) := by
  have hob := tOff_b (tx := tx) (N := N) hi
  have heb := tEnd_b (tx := tx) (N := N) hi
  have hsb := srt_b (tx (tOff tx N i))
  refine Ct.of [aR 226, aU] rfl ?_
  refine r_aldR cd_179_0 rfl rfl ?_
  refine r_aldR cd_179_1 rfl rfl ?_
  refine r_get (v := aI ((i : Nat) : Int)) cd_179_2 rfl hM (by rw [← h18]; rfl) ?_
  refine r_put (fs' := Mo (va_up s 17 ((i : Nat) : Int))) cd_179_5 rfl hM rfl rfl ?_
  refine l1_179 hN6 hb (N - i) i (sw_at _ _ _) ((sw_ne (by decide)).trans htx) (vu_at _ _ _) ((vu_ne (by decide)).trans h10) (by omega) ?_
  rw [sw_sw, vu_vu]
  show RU _ _ _ (_, _, _, _, _, sw h 226 (.inr (8, Mo (va_up s 17 ((tOff tx N i : Nat) : Int)))))
  refine r_aldR cd_179_60 rfl rfl ?_
  refine r_aldR cd_179_61 rfl rfl ?_
  refine r_get (v := aI ((tOff tx N i : Nat) : Int)) cd_179_62 rfl (sw_at _ _ _) (rfl) ?_
  refine r_put (fs' := Mo (va_up (va_up s 17 ((tOff tx N i : Nat) : Int)) 18 ((tOff tx N i : Nat) : Int))) cd_179_65 rfl (sw_at _ _ _) rfl rfl ?_
  rw [sw_sw]
  refine r_aldR cd_179_68 rfl rfl ?_
  refine r_get (v := aI ((tOff tx N i : Nat) : Int)) cd_179_69 rfl (sw_at _ _ _) (rfl) ?_
  refine r_aldR cd_179_72 rfl rfl ?_
  refine r_get (v := aI ((N : Nat) : Int)) cd_179_73 rfl (sw_at _ _ _) (by rw [← h10]; rfl) ?_
  refine r_ic62 cd_179_76 rfl ⟨by omega, by omega⟩ ⟨by omega, by omega⟩ (fun n1 => ?_) (fun n1 => ?_)
  · exact absurd n1 (by omega)
  · refine r_aldR cd_179_85 rfl rfl ?_
    refine r_aldR cd_179_86 rfl rfl ?_
    refine r_get cd_179_87 rfl (sw_at _ _ _) rfl ?_
    refine r_aldR cd_179_90 rfl rfl ?_
    refine r_get (v := aI ((tOff tx N i : Nat) : Int)) cd_179_91 rfl (sw_at _ _ _) (rfl) ?_
    refine r_arr (i := tOff tx N i) cd_179_94 rfl ((sw_ne (by decide)).trans htx) rfl (by omega) rfl ?_
    refine r_cI (c_180 (tx (tOff tx N i)) ⟨by have := hb (tOff tx N i); omega, by have := hb (tOff tx N i); omega⟩) cd_179_95 rfl rfl rfl True.intro rfl rfl rfl ?_
    refine r_put (fs' := Mo (va_up (va_up (va_up s 17 ((tOff tx N i : Nat) : Int)) 18 ((tOff tx N i : Nat) : Int)) 16 (srt (tx (tOff tx N i))))) cd_179_98 rfl (sw_at _ _ _) rfl rfl ?_
    rw [sw_sw]
    refine r_aldR cd_179_101 rfl rfl ?_
    refine r_dup cd_179_102 rfl rfl ?_
    refine r_get (v := aI ((tOff tx N i : Nat) : Int)) cd_179_103 rfl (sw_at _ _ _) (rfl) ?_
    refine r_con (v := 1) cd_179_106 rfl (by decide) ?_
    refine r_add (v := ((tOff tx N i + 1 : Nat) : Int)) cd_179_107 rfl (by omega) ?_
    refine r_put (fs' := Mo (va_up (va_up (va_up (va_up s 17 ((tOff tx N i : Nat) : Int)) 18 ((tOff tx N i : Nat) : Int)) 16 (srt (tx (tOff tx N i)))) 18 ((tOff tx N i + 1 : Nat) : Int))) cd_179_108 rfl (sw_at _ _ _) rfl rfl ?_
    rw [sw_sw]
    have ee : rnF tx 2 (N - (tOff tx N i + 1)) (tOff tx N i + 1) = tEnd tx N i := by unfold tEnd; rw [if_neg ho, if_pos (by omega), hs]
    refine l2_179 hN6 hb 2 (by decide) (N - (tOff tx N i + 1)) (tOff tx N i + 1) (sw_at _ _ _) ((sw_ne (by decide)).trans htx) rfl (by rw [← h10]; rfl) (by rw [← hs]; rfl) (by omega) ?_
    rw [ee, sw_sw]
    refine r_aldR cd_179_170 rfl rfl ?_
    refine r_get (v := aI (srt (tx (tOff tx N i)))) cd_179_171 rfl (sw_at _ _ _) (rfl) ?_
    refine r_con (v := 3) cd_179_174 rfl (by decide) ?_
    refine r_ic62 cd_179_175 rfl (inR_of hsb (by decide) (by decide)) ⟨by omega, by omega⟩ (fun n2 => ?_) (fun n2 => ?_)
    · exact absurd n2 (by omega)
    · refine r_aldR cd_179_197 rfl rfl ?_
      refine r_con (v := 0) cd_179_198 rfl (by decide) ?_
      refine r_put (fs' := Mo (va_up (va_up (va_up (va_up (va_up (va_up s 17 ((tOff tx N i : Nat) : Int)) 18 ((tOff tx N i : Nat) : Int)) 16 (srt (tx (tOff tx N i)))) 18 ((tOff tx N i + 1 : Nat) : Int)) 18 ((tEnd tx N i : Nat) : Int)) 19 0)) cd_179_199 rfl (sw_at _ _ _) rfl rfl ?_
      rw [sw_sw]
      refine r_aldR cd_179_202 rfl rfl ?_
      refine r_get (v := aI ((tOff tx N i : Nat) : Int)) cd_179_203 rfl (sw_at _ _ _) (rfl) ?_
      refine r_ist cd_179_206 rfl rfl (L' := [aR 226, aI ((tOff tx N i : Nat) : Int)]) rfl ?_
      refine r_ild cd_179_207 rfl rfl ?_
      refine r_aldR cd_179_208 rfl rfl ?_
      refine r_get (v := aI ((tEnd tx N i : Nat) : Int)) cd_179_209 rfl (sw_at _ _ _) (rfl) ?_
      refine r_ic64 cd_179_212 rfl ⟨by omega, by omega⟩ ⟨by omega, by omega⟩ (fun n3 => ?_) (fun n3 => ?_)
      · refine r_aldR cd_179_215 rfl rfl ?_
        refine r_get (v := aI (srt (tx (tOff tx N i)))) cd_179_216 rfl (sw_at _ _ _) (rfl) ?_
        refine r_con (v := 3) cd_179_219 rfl (by decide) ?_
        refine r_ic62 cd_179_220 rfl (inR_of hsb (by decide) (by decide)) ⟨by omega, by omega⟩ (fun n4 => ?_) (fun n4 => ?_)
        · exact absurd n4 (by omega)
        · exact r_void cd_179_250 rfl (rfl)
      · exact r_void cd_179_250 rfl (rfl)
theorem n_179d {h : aH} {s tx : Nat → Int} {N i : Nat} (hM : h.2.2 226 = .inr (8, Mo s)) (htx : h.2.2 233 = .inl (0, 600, .inl tx)) (hb : TxB tx) (h10 : s 10 = ((N : Nat) : Int)) (hN6 : N ≤ 600) (h18 : s 18 = ((i : Nat) : Int)) (hi : i ≤ N) (ho : ¬ tOff tx N i = N) (hs : (srt (tx (tOff tx N i))) = 3) (hl : ((tEnd tx N i : Nat) : Int) - ((tOff tx N i : Nat) : Int) ≤ 3) : Ct 2 179 [aR 226] h (.inl none, sw h 226 (.inr (8, Mo (va_up (va_up (va_up (va_up (va_up (va_up (va_up s 17 ((tOff tx N i : Nat) : Int)) 18 ((tOff tx N i : Nat) : Int)) 16 (srt (tx (tOff tx N i)))) 18 ((tOff tx N i + 1 : Nat) : Int)) 18 ((tEnd tx N i : Nat) : Int)) 19 0) 19 (tVal tx N i))))) := by
  have hob := tOff_b (tx := tx) (N := N) hi
  have heb := tEnd_b (tx := tx) (N := N) hi
  have hsb := srt_b (tx (tOff tx N i))
  refine Ct.of [aR 226, aU] rfl ?_
  refine r_aldR cd_179_0 rfl rfl ?_
  refine r_aldR cd_179_1 rfl rfl ?_
  refine r_get (v := aI ((i : Nat) : Int)) cd_179_2 rfl hM (by rw [← h18]; rfl) ?_
  refine r_put (fs' := Mo (va_up s 17 ((i : Nat) : Int))) cd_179_5 rfl hM rfl rfl ?_
  refine l1_179 hN6 hb (N - i) i (sw_at _ _ _) ((sw_ne (by decide)).trans htx) (vu_at _ _ _) ((vu_ne (by decide)).trans h10) (by omega) ?_
  rw [sw_sw, vu_vu]
  show RU _ _ _ (_, _, _, _, _, sw h 226 (.inr (8, Mo (va_up s 17 ((tOff tx N i : Nat) : Int)))))
  refine r_aldR cd_179_60 rfl rfl ?_
  refine r_aldR cd_179_61 rfl rfl ?_
  refine r_get (v := aI ((tOff tx N i : Nat) : Int)) cd_179_62 rfl (sw_at _ _ _) (rfl) ?_
  refine r_put (fs' := Mo (va_up (va_up s 17 ((tOff tx N i : Nat) : Int)) 18 ((tOff tx N i : Nat) : Int))) cd_179_65 rfl (sw_at _ _ _) rfl rfl ?_
  rw [sw_sw]
  refine r_aldR cd_179_68 rfl rfl ?_
  refine r_get (v := aI ((tOff tx N i : Nat) : Int)) cd_179_69 rfl (sw_at _ _ _) (rfl) ?_
  refine r_aldR cd_179_72 rfl rfl ?_
  refine r_get (v := aI ((N : Nat) : Int)) cd_179_73 rfl (sw_at _ _ _) (by rw [← h10]; rfl) ?_
  refine r_ic62 cd_179_76 rfl ⟨by omega, by omega⟩ ⟨by omega, by omega⟩ (fun n1 => ?_) (fun n1 => ?_)
  · exact absurd n1 (by omega)
  · refine r_aldR cd_179_85 rfl rfl ?_
    refine r_aldR cd_179_86 rfl rfl ?_
    refine r_get cd_179_87 rfl (sw_at _ _ _) rfl ?_
    refine r_aldR cd_179_90 rfl rfl ?_
    refine r_get (v := aI ((tOff tx N i : Nat) : Int)) cd_179_91 rfl (sw_at _ _ _) (rfl) ?_
    refine r_arr (i := tOff tx N i) cd_179_94 rfl ((sw_ne (by decide)).trans htx) rfl (by omega) rfl ?_
    refine r_cI (c_180 (tx (tOff tx N i)) ⟨by have := hb (tOff tx N i); omega, by have := hb (tOff tx N i); omega⟩) cd_179_95 rfl rfl rfl True.intro rfl rfl rfl ?_
    refine r_put (fs' := Mo (va_up (va_up (va_up s 17 ((tOff tx N i : Nat) : Int)) 18 ((tOff tx N i : Nat) : Int)) 16 (srt (tx (tOff tx N i))))) cd_179_98 rfl (sw_at _ _ _) rfl rfl ?_
    rw [sw_sw]
    refine r_aldR cd_179_101 rfl rfl ?_
    refine r_dup cd_179_102 rfl rfl ?_
    refine r_get (v := aI ((tOff tx N i : Nat) : Int)) cd_179_103 rfl (sw_at _ _ _) (rfl) ?_
    refine r_con (v := 1) cd_179_106 rfl (by decide) ?_
    refine r_add (v := ((tOff tx N i + 1 : Nat) : Int)) cd_179_107 rfl (by omega) ?_
    refine r_put (fs' := Mo (va_up (va_up (va_up (va_up s 17 ((tOff tx N i : Nat) : Int)) 18 ((tOff tx N i : Nat) : Int)) 16 (srt (tx (tOff tx N i)))) 18 ((tOff tx N i + 1 : Nat) : Int))) cd_179_108 rfl (sw_at _ _ _) rfl rfl ?_
    rw [sw_sw]
    have ee : rnF tx 3 (N - (tOff tx N i + 1)) (tOff tx N i + 1) = tEnd tx N i := by unfold tEnd; rw [if_neg ho, if_pos (by omega), hs]
    refine l2_179 hN6 hb 3 (by decide) (N - (tOff tx N i + 1)) (tOff tx N i + 1) (sw_at _ _ _) ((sw_ne (by decide)).trans htx) rfl (by rw [← h10]; rfl) (by rw [← hs]; rfl) (by omega) ?_
    rw [ee, sw_sw]
    refine r_aldR cd_179_170 rfl rfl ?_
    refine r_get (v := aI (srt (tx (tOff tx N i)))) cd_179_171 rfl (sw_at _ _ _) (rfl) ?_
    refine r_con (v := 3) cd_179_174 rfl (by decide) ?_
    refine r_ic62 cd_179_175 rfl (inR_of hsb (by decide) (by decide)) ⟨by omega, by omega⟩ (fun n2 => ?_) (fun n2 => ?_)
    · refine r_aldR cd_179_178 rfl rfl ?_
      refine r_get (v := aI ((tEnd tx N i : Nat) : Int)) cd_179_179 rfl (sw_at _ _ _) (rfl) ?_
      refine r_aldR cd_179_182 rfl rfl ?_
      refine r_get (v := aI ((tOff tx N i : Nat) : Int)) cd_179_183 rfl (sw_at _ _ _) (rfl) ?_
      refine r_sub (v := ((tEnd tx N i : Nat) : Int) - ((tOff tx N i : Nat) : Int)) cd_179_186 rfl (by omega) ?_
      refine r_con (v := 3) cd_179_187 rfl (by decide) ?_
      refine r_ic66 cd_179_188 rfl ⟨by omega, by omega⟩ ⟨by omega, by omega⟩ (fun n3 => ?_) (fun n3 => ?_)
      · exact absurd n3 (by omega)
      · refine r_aldR cd_179_197 rfl rfl ?_
        refine r_con (v := 0) cd_179_198 rfl (by decide) ?_
        refine r_put (fs' := Mo (va_up (va_up (va_up (va_up (va_up (va_up s 17 ((tOff tx N i : Nat) : Int)) 18 ((tOff tx N i : Nat) : Int)) 16 (srt (tx (tOff tx N i)))) 18 ((tOff tx N i + 1 : Nat) : Int)) 18 ((tEnd tx N i : Nat) : Int)) 19 0)) cd_179_199 rfl (sw_at _ _ _) rfl rfl ?_
        rw [sw_sw]
        refine r_aldR cd_179_202 rfl rfl ?_
        refine r_get (v := aI ((tOff tx N i : Nat) : Int)) cd_179_203 rfl (sw_at _ _ _) (rfl) ?_
        refine r_ist cd_179_206 rfl rfl (L' := [aR 226, aI ((tOff tx N i : Nat) : Int)]) rfl ?_
        refine RU.res ?_ (l3_179 (tEnd tx N i) (by omega) hb (tEnd tx N i - tOff tx N i) (tOff tx N i) 0 (s := (va_up (va_up (va_up (va_up (va_up (va_up s 17 ((tOff tx N i : Nat) : Int)) 18 ((tOff tx N i : Nat) : Int)) 16 (srt (tx (tOff tx N i)))) 18 ((tOff tx N i + 1 : Nat) : Int)) 18 ((tEnd tx N i : Nat) : Int)) 19 0)) (sw_at _ _ _) ((sw_ne (by decide)).trans htx) rfl (by rw [← hs]; rfl) rfl (by omega))
        rw [sw_sw]
        rfl
    · exact absurd hs n2
theorem n_179e {h : aH} {s tx : Nat → Int} {N i : Nat} (hM : h.2.2 226 = .inr (8, Mo s)) (htx : h.2.2 233 = .inl (0, 600, .inl tx)) (hb : TxB tx) (h10 : s 10 = ((N : Nat) : Int)) (hN6 : N ≤ 600) (h18 : s 18 = ((i : Nat) : Int)) (hi : i ≤ N) (ho : ¬ tOff tx N i = N) (hs : (srt (tx (tOff tx N i))) = 3) (hl : 3 < ((tEnd tx N i : Nat) : Int) - ((tOff tx N i : Nat) : Int)) : Ct 2 179 [aR 226] h (.inl none, sw h 226 (.inr (8, Mo (va_up (va_up (va_up (va_up (va_up (va_up (va_up s 17 ((tOff tx N i : Nat) : Int)) 18 ((tOff tx N i : Nat) : Int)) 16 (srt (tx (tOff tx N i)))) 18 ((tOff tx N i + 1 : Nat) : Int)) 18 ((tEnd tx N i : Nat) : Int)) 16 6) 19 0)))) := by
  have hob := tOff_b (tx := tx) (N := N) hi
  have heb := tEnd_b (tx := tx) (N := N) hi
  have hsb := srt_b (tx (tOff tx N i))
  refine Ct.of [aR 226, aU] rfl ?_
  refine r_aldR cd_179_0 rfl rfl ?_
  refine r_aldR cd_179_1 rfl rfl ?_
  refine r_get (v := aI ((i : Nat) : Int)) cd_179_2 rfl hM (by rw [← h18]; rfl) ?_
  refine r_put (fs' := Mo (va_up s 17 ((i : Nat) : Int))) cd_179_5 rfl hM rfl rfl ?_
  refine l1_179 hN6 hb (N - i) i (sw_at _ _ _) ((sw_ne (by decide)).trans htx) (vu_at _ _ _) ((vu_ne (by decide)).trans h10) (by omega) ?_
  rw [sw_sw, vu_vu]
  show RU _ _ _ (_, _, _, _, _, sw h 226 (.inr (8, Mo (va_up s 17 ((tOff tx N i : Nat) : Int)))))
  refine r_aldR cd_179_60 rfl rfl ?_
  refine r_aldR cd_179_61 rfl rfl ?_
  refine r_get (v := aI ((tOff tx N i : Nat) : Int)) cd_179_62 rfl (sw_at _ _ _) (rfl) ?_
  refine r_put (fs' := Mo (va_up (va_up s 17 ((tOff tx N i : Nat) : Int)) 18 ((tOff tx N i : Nat) : Int))) cd_179_65 rfl (sw_at _ _ _) rfl rfl ?_
  rw [sw_sw]
  refine r_aldR cd_179_68 rfl rfl ?_
  refine r_get (v := aI ((tOff tx N i : Nat) : Int)) cd_179_69 rfl (sw_at _ _ _) (rfl) ?_
  refine r_aldR cd_179_72 rfl rfl ?_
  refine r_get (v := aI ((N : Nat) : Int)) cd_179_73 rfl (sw_at _ _ _) (by rw [← h10]; rfl) ?_
  refine r_ic62 cd_179_76 rfl ⟨by omega, by omega⟩ ⟨by omega, by omega⟩ (fun n1 => ?_) (fun n1 => ?_)
  · exact absurd n1 (by omega)
  · refine r_aldR cd_179_85 rfl rfl ?_
    refine r_aldR cd_179_86 rfl rfl ?_
    refine r_get cd_179_87 rfl (sw_at _ _ _) rfl ?_
    refine r_aldR cd_179_90 rfl rfl ?_
    refine r_get (v := aI ((tOff tx N i : Nat) : Int)) cd_179_91 rfl (sw_at _ _ _) (rfl) ?_
    refine r_arr (i := tOff tx N i) cd_179_94 rfl ((sw_ne (by decide)).trans htx) rfl (by omega) rfl ?_
    refine r_cI (c_180 (tx (tOff tx N i)) ⟨by have := hb (tOff tx N i); omega, by have := hb (tOff tx N i); omega⟩) cd_179_95 rfl rfl rfl True.intro rfl rfl rfl ?_
    refine r_put (fs' := Mo (va_up (va_up (va_up s 17 ((tOff tx N i : Nat) : Int)) 18 ((tOff tx N i : Nat) : Int)) 16 (srt (tx (tOff tx N i))))) cd_179_98 rfl (sw_at _ _ _) rfl rfl ?_
    rw [sw_sw]
    refine r_aldR cd_179_101 rfl rfl ?_
    refine r_dup cd_179_102 rfl rfl ?_
    refine r_get (v := aI ((tOff tx N i : Nat) : Int)) cd_179_103 rfl (sw_at _ _ _) (rfl) ?_
    refine r_con (v := 1) cd_179_106 rfl (by decide) ?_
    refine r_add (v := ((tOff tx N i + 1 : Nat) : Int)) cd_179_107 rfl (by omega) ?_
    refine r_put (fs' := Mo (va_up (va_up (va_up (va_up s 17 ((tOff tx N i : Nat) : Int)) 18 ((tOff tx N i : Nat) : Int)) 16 (srt (tx (tOff tx N i)))) 18 ((tOff tx N i + 1 : Nat) : Int))) cd_179_108 rfl (sw_at _ _ _) rfl rfl ?_
    rw [sw_sw]
    have ee : rnF tx 3 (N - (tOff tx N i + 1)) (tOff tx N i + 1) = tEnd tx N i := by unfold tEnd; rw [if_neg ho, if_pos (by omega), hs]
    refine l2_179 hN6 hb 3 (by decide) (N - (tOff tx N i + 1)) (tOff tx N i + 1) (sw_at _ _ _) ((sw_ne (by decide)).trans htx) rfl (by rw [← h10]; rfl) (by rw [← hs]; rfl) (by omega) ?_
    rw [ee, sw_sw]
    refine r_aldR cd_179_170 rfl rfl ?_
    refine r_get (v := aI (srt (tx (tOff tx N i)))) cd_179_171 rfl (sw_at _ _ _) (rfl) ?_
    refine r_con (v := 3) cd_179_174 rfl (by decide) ?_
    refine r_ic62 cd_179_175 rfl (inR_of hsb (by decide) (by decide)) ⟨by omega, by omega⟩ (fun n2 => ?_) (fun n2 => ?_)
    · refine r_aldR cd_179_178 rfl rfl ?_
      refine r_get (v := aI ((tEnd tx N i : Nat) : Int)) cd_179_179 rfl (sw_at _ _ _) (rfl) ?_
      refine r_aldR cd_179_182 rfl rfl ?_
      refine r_get (v := aI ((tOff tx N i : Nat) : Int)) cd_179_183 rfl (sw_at _ _ _) (rfl) ?_
      refine r_sub (v := ((tEnd tx N i : Nat) : Int) - ((tOff tx N i : Nat) : Int)) cd_179_186 rfl (by omega) ?_
      refine r_con (v := 3) cd_179_187 rfl (by decide) ?_
      refine r_ic66 cd_179_188 rfl ⟨by omega, by omega⟩ ⟨by omega, by omega⟩ (fun n3 => ?_) (fun n3 => ?_)
      · refine r_aldR cd_179_191 rfl rfl ?_
        refine r_con (v := 6) cd_179_192 rfl (by decide) ?_
        refine r_put (fs' := Mo (va_up (va_up (va_up (va_up (va_up (va_up s 17 ((tOff tx N i : Nat) : Int)) 18 ((tOff tx N i : Nat) : Int)) 16 (srt (tx (tOff tx N i)))) 18 ((tOff tx N i + 1 : Nat) : Int)) 18 ((tEnd tx N i : Nat) : Int)) 16 6)) cd_179_194 rfl (sw_at _ _ _) rfl rfl ?_
        rw [sw_sw]
        refine r_aldR cd_179_197 rfl rfl ?_
        refine r_con (v := 0) cd_179_198 rfl (by decide) ?_
        refine r_put (fs' := Mo (va_up (va_up (va_up (va_up (va_up (va_up (va_up s 17 ((tOff tx N i : Nat) : Int)) 18 ((tOff tx N i : Nat) : Int)) 16 (srt (tx (tOff tx N i)))) 18 ((tOff tx N i + 1 : Nat) : Int)) 18 ((tEnd tx N i : Nat) : Int)) 16 6) 19 0)) cd_179_199 rfl (sw_at _ _ _) rfl rfl ?_
        rw [sw_sw]
        refine r_aldR cd_179_202 rfl rfl ?_
        refine r_get (v := aI ((tOff tx N i : Nat) : Int)) cd_179_203 rfl (sw_at _ _ _) (rfl) ?_
        refine r_ist cd_179_206 rfl rfl (L' := [aR 226, aI ((tOff tx N i : Nat) : Int)]) rfl ?_
        refine r_ild cd_179_207 rfl rfl ?_
        refine r_aldR cd_179_208 rfl rfl ?_
        refine r_get (v := aI ((tEnd tx N i : Nat) : Int)) cd_179_209 rfl (sw_at _ _ _) (rfl) ?_
        refine r_ic64 cd_179_212 rfl ⟨by omega, by omega⟩ ⟨by omega, by omega⟩ (fun n4 => ?_) (fun n4 => ?_)
        · refine r_aldR cd_179_215 rfl rfl ?_
          refine r_get (v := aI 6) cd_179_216 rfl (sw_at _ _ _) (rfl) ?_
          refine r_con (v := 3) cd_179_219 rfl (by decide) ?_
          refine r_ic62 cd_179_220 rfl ⟨by omega, by omega⟩ ⟨by omega, by omega⟩ (fun n5 => ?_) (fun n5 => ?_)
          · exact absurd n5 (by decide)
          · exact r_void cd_179_250 rfl (rfl)
        · exact r_void cd_179_250 rfl (rfl)
      · exact absurd hl n3
    · exact absurd hs n2
theorem c_179 {h : aH} {s tx : Nat → Int} {N i : Nat} (hM : h.2.2 226 = .inr (8, Mo s)) (htx : h.2.2 233 = .inl (0, 600, .inl tx)) (hb : TxB tx) (h10 : s 10 = ((N : Nat) : Int)) (hN6 : N ≤ 600) (h18 : s 18 = ((i : Nat) : Int)) (hi : i ≤ N) : ∃ s', Ct 2 179 [aR 226] h (.inl none, sw h 226 (.inr (8, Mo s'))) ∧ TokAt s' tx N i ∧ ∀ j, j < 16 ∨ 20 ≤ j → s' j = s j := by
  have hfr : ∀ (u : Nat → Int) (k : Nat) (v : Int), 16 ≤ k → k < 20 → (∀ j, j < 16 ∨ 20 ≤ j → u j = s j) → ∀ j, j < 16 ∨ 20 ≤ j → va_up u k v j = s j := fun u k v h1 h2 h3 j hj => by rw [vu_ne (by omega)]; exact h3 j hj
  have h0 : ∀ j, j < 16 ∨ 20 ≤ j → s j = s j := fun _ _ => rfl
  have hsb := srt_b (tx (tOff tx N i))
  by_cases ho : tOff tx N i = N
  · have ee : tEnd tx N i = tOff tx N i := by unfold tEnd; rw [if_pos ho, ho]
    have ek : tKnd tx N i = 0 := by unfold tKnd; rw [if_pos ho]
    exact ⟨_, n_179a hM htx hb h10 hN6 h18 hi ho, ⟨by rw [ek]; rfl, rfl, by rw [ee]; rfl, fun h => by rw [ek] at h; exact absurd h (by decide)⟩, by repeat' first | exact h0 | refine hfr _ _ _ (by decide) (by decide) ?_⟩
  · by_cases h2 : srt (tx (tOff tx N i)) = 2
    · have ek : tKnd tx N i = srt (tx (tOff tx N i)) := by unfold tKnd; rw [if_neg ho, if_neg (by omega)]
      exact ⟨_, n_179c hM htx hb h10 hN6 h18 hi ho h2, ⟨by rw [ek]; rfl, rfl, rfl, fun h => by rw [ek] at h; omega⟩, by repeat' first | exact h0 | refine hfr _ _ _ (by decide) (by decide) ?_⟩
    · by_cases h3 : srt (tx (tOff tx N i)) = 3
      · by_cases hl : 3 < ((tEnd tx N i : Nat) : Int) - ((tOff tx N i : Nat) : Int)
        · have ek : tKnd tx N i = 6 := by unfold tKnd; rw [if_neg ho, if_pos ⟨h3, hl⟩]
          exact ⟨_, n_179e hM htx hb h10 hN6 h18 hi ho h3 hl, ⟨by rw [ek]; rfl, rfl, rfl, fun h => by rw [ek] at h; omega⟩, by repeat' first | exact h0 | refine hfr _ _ _ (by decide) (by decide) ?_⟩
        · have ek : tKnd tx N i = srt (tx (tOff tx N i)) := by unfold tKnd; rw [if_neg ho, if_neg (by omega)]
          exact ⟨_, n_179d hM htx hb h10 hN6 h18 hi ho h3 (by omega), ⟨by rw [ek]; rfl, rfl, rfl, fun _ => rfl⟩, by repeat' first | exact h0 | refine hfr _ _ _ (by decide) (by decide) ?_⟩
      · have ek : tKnd tx N i = srt (tx (tOff tx N i)) := by unfold tKnd; rw [if_neg ho, if_neg (by omega)]
        have ee : tEnd tx N i = tOff tx N i + 1 := by unfold tEnd; rw [if_neg ho, if_neg (by omega)]
        exact ⟨_, n_179b hM htx hb h10 hN6 h18 hi ho ⟨h2, h3⟩, ⟨by rw [ek]; rfl, rfl, by rw [ee]; rfl, fun h => by rw [ek] at h; omega⟩, by repeat' first | exact h0 | refine hfr _ _ _ (by decide) (by decide) ?_⟩
