/-! THE CLASS: what is made (written by wip/whole/gen58.py) -/
theorem Ex.mv {h h' : aH} {B : Nat} (X : Ex h B) (e : ∀ a, B ≤ a → a < B + 18 → h'.2.2 a = h.2.2 a) : Ex h' B := by
  obtain ⟨v, d, o0, o1, o2, o3, o4, o5, o6, o7, o8, o9, o10, o11, o12, o13, o14, o15, o16, o17⟩ := X
  exact ⟨v, d, (e _ (by omega) (by omega)).trans o0, (e _ (by omega) (by omega)).trans o1, (e _ (by omega) (by omega)).trans o2, (e _ (by omega) (by omega)).trans o3, (e _ (by omega) (by omega)).trans o4, (e _ (by omega) (by omega)).trans o5, (e _ (by omega) (by omega)).trans o6, (e _ (by omega) (by omega)).trans o7, (e _ (by omega) (by omega)).trans o8, (e _ (by omega) (by omega)).trans o9, (e _ (by omega) (by omega)).trans o10, (e _ (by omega) (by omega)).trans o11, (e _ (by omega) (by omega)).trans o12, (e _ (by omega) (by omega)).trans o13, (e _ (by omega) (by omega)).trans o14, (e _ (by omega) (by omega)).trans o15, (e _ (by omega) (by omega)).trans o16, (e _ (by omega) (by omega)).trans o17⟩
theorem Rp.mv {h h' : aH} {B : Nat} {w : Nat → Int} (X : Rp h B w) (e : ∀ a, B ≤ a → a < B + 18 → h'.2.2 a = h.2.2 a) : Rp h' B w := by
  obtain ⟨c, ⟨o0, o1, o2, o3, o4, o5, o6, o7, o8, o9, o10, o11, o12, o13, o14, o15, o16, o17⟩, A⟩ := X
  exact ⟨c, ⟨(e _ (by omega) (by omega)).trans o0, (e _ (by omega) (by omega)).trans o1, (e _ (by omega) (by omega)).trans o2, (e _ (by omega) (by omega)).trans o3, (e _ (by omega) (by omega)).trans o4, (e _ (by omega) (by omega)).trans o5, (e _ (by omega) (by omega)).trans o6, (e _ (by omega) (by omega)).trans o7, (e _ (by omega) (by omega)).trans o8, (e _ (by omega) (by omega)).trans o9, (e _ (by omega) (by omega)).trans o10, (e _ (by omega) (by omega)).trans o11, (e _ (by omega) (by omega)).trans o12, (e _ (by omega) (by omega)).trans o13, (e _ (by omega) (by omega)).trans o14, (e _ (by omega) (by omega)).trans o15, (e _ (by omega) (by omega)).trans o16, (e _ (by omega) (by omega)).trans o17⟩, A⟩
theorem i_48 {h : aH} {q p : Nat} (hq : h.2.2 q = newF 4) (hp : h.2.1 = p) (hl : q < p) : ∃ h', Ct 1 48 [aR q] h (.inl none, h') ∧ (h'.2.2 q = .inr (4, [aR p, aR (p + 1), aR (p + 2), aI 0, aI 0, aI 3]) ∧ h'.2.2 p = .inl (0, 30, .inl (fun _ => 0)) ∧ h'.2.2 (p + 1) = .inl (0, 30, .inl (fun _ => 0)) ∧ h'.2.2 (p + 2) = .inl (0, 12, .inl (fun _ => 0))) ∧ (∀ a, a < p → ¬ a = q → h'.2.2 a = h.2.2 a) ∧ h'.1 = h.1 ∧ h'.2.1 = p + 3 := by
  apply Exists.intro
  apply And.intro
  · refine Ct.of [aR q] rfl ?_
    refine r_aldR cd_48_0 rfl rfl ?_
    refine r_oini cd_48_1 rfl rfl ?_
    refine r_aldR cd_48_4 rfl rfl ?_
    refine r_con (v := 30) cd_48_5 rfl (by decide) ?_
    refine r_newa (q := p) (i := 30) cd_48_7 rfl rfl rfl hp rfl rfl rfl ?_
    rw [pw_eq (q := p) hp]
    refine r_put (fs' := [aR p, aN, aN, aI 0, aI 0, aI 0]) cd_48_9 rfl ((pz_ne (by omega)).trans hq) rfl rfl ?_
    refine r_aldR cd_48_12 rfl rfl ?_
    refine r_con (v := 30) cd_48_13 rfl (by decide) ?_
    refine r_newa (q := p + 1) (i := 30) cd_48_15 rfl rfl rfl (sw_f2.trans pz_f2) rfl rfl rfl ?_
    rw [pw_eq (q := p + 1) (sw_f2.trans pz_f2)]
    refine r_put (fs' := [aR p, aR (p + 1), aN, aI 0, aI 0, aI 0]) cd_48_17 rfl ((pz_ne (by omega)).trans (sw_at _ _ _)) rfl rfl ?_
    refine r_aldR cd_48_20 rfl rfl ?_
    refine r_con (v := 12) cd_48_21 rfl (by decide) ?_
    refine r_newa (q := p + 2) (i := 12) cd_48_23 rfl rfl rfl (sw_f2.trans pz_f2) rfl rfl rfl ?_
    rw [pw_eq (q := p + 2) (sw_f2.trans pz_f2)]
    refine r_put (fs' := [aR p, aR (p + 1), aR (p + 2), aI 0, aI 0, aI 0]) cd_48_25 rfl ((pz_ne (by omega)).trans (sw_at _ _ _)) rfl rfl ?_
    refine r_aldR cd_48_28 rfl rfl ?_
    refine r_con (v := 0) cd_48_29 rfl (by decide) ?_
    refine r_put (fs' := [aR p, aR (p + 1), aR (p + 2), aI 0, aI 0, aI 0]) cd_48_30 rfl (sw_at _ _ _) rfl rfl ?_
    refine r_aldR cd_48_33 rfl rfl ?_
    refine r_con (v := 0) cd_48_34 rfl (by decide) ?_
    refine r_put (fs' := [aR p, aR (p + 1), aR (p + 2), aI 0, aI 0, aI 0]) cd_48_35 rfl (sw_at _ _ _) rfl rfl ?_
    refine r_aldR cd_48_38 rfl rfl ?_
    refine r_con (v := 3) cd_48_39 rfl (by decide) ?_
    refine r_put (fs' := [aR p, aR (p + 1), aR (p + 2), aI 0, aI 0, aI 3]) cd_48_40 rfl (sw_at _ _ _) rfl rfl ?_
    exact r_void cd_48_43 rfl (rfl)
  · exact ⟨⟨(sw_at _ _ _), ((sw_ne (by omega)).trans ((sw_ne (by omega)).trans ((sw_ne (by omega)).trans ((sw_ne (by omega)).trans ((pz_ne (by omega)).trans ((sw_ne (by omega)).trans ((pz_ne (by omega)).trans ((sw_ne (by omega)).trans (pz_at _ _ _))))))))), ((sw_ne (by omega)).trans ((sw_ne (by omega)).trans ((sw_ne (by omega)).trans ((sw_ne (by omega)).trans ((pz_ne (by omega)).trans ((sw_ne (by omega)).trans (pz_at _ _ _))))))), ((sw_ne (by omega)).trans ((sw_ne (by omega)).trans ((sw_ne (by omega)).trans ((sw_ne (by omega)).trans (pz_at _ _ _)))))⟩, fun a ha hn => (sw_ne (by omega)).trans ((sw_ne (by omega)).trans ((sw_ne (by omega)).trans ((sw_ne (by omega)).trans ((pz_ne (by omega)).trans ((sw_ne (by omega)).trans ((pz_ne (by omega)).trans ((sw_ne (by omega)).trans ((pz_ne (by omega)).trans (rfl))))))))), rfl, (sw_f2.trans (sw_f2.trans (sw_f2.trans (sw_f2.trans pz_f2))))⟩
theorem i_0 {h : aH} {q p : Nat} (hq : h.2.2 q = newF 0) (hp : h.2.1 = p) (hl : q < p) : ∃ h', Ct 1 0 [aR q] h (.inl none, h') ∧ (h'.2.2 q = .inr (0, [aR p, aR (p + 1), aR (p + 2), aR (p + 3), aI 0]) ∧ h'.2.2 p = .inl (0, 8, .inl (fun _ => 0)) ∧ h'.2.2 (p + 1) = .inl (0, 8, .inl (fun _ => 0)) ∧ h'.2.2 (p + 2) = .inl (0, 8, .inl (fun _ => 0)) ∧ h'.2.2 (p + 3) = .inl (0, 8, .inl (fun _ => 0))) ∧ (∀ a, a < p → ¬ a = q → h'.2.2 a = h.2.2 a) ∧ h'.1 = h.1 ∧ h'.2.1 = p + 4 := by
  apply Exists.intro
  apply And.intro
  · refine Ct.of [aR q] rfl ?_
    refine r_aldR cd_0_0 rfl rfl ?_
    refine r_oini cd_0_1 rfl rfl ?_
    refine r_aldR cd_0_4 rfl rfl ?_
    refine r_con (v := 8) cd_0_5 rfl (by decide) ?_
    refine r_newa (q := p) (i := 8) cd_0_7 rfl rfl rfl hp rfl rfl rfl ?_
    rw [pw_eq (q := p) hp]
    refine r_put (fs' := [aR p, aN, aN, aN, aI 0]) cd_0_9 rfl ((pz_ne (by omega)).trans hq) rfl rfl ?_
    refine r_aldR cd_0_12 rfl rfl ?_
    refine r_con (v := 8) cd_0_13 rfl (by decide) ?_
    refine r_newa (q := p + 1) (i := 8) cd_0_15 rfl rfl rfl (sw_f2.trans pz_f2) rfl rfl rfl ?_
    rw [pw_eq (q := p + 1) (sw_f2.trans pz_f2)]
    refine r_put (fs' := [aR p, aR (p + 1), aN, aN, aI 0]) cd_0_17 rfl ((pz_ne (by omega)).trans (sw_at _ _ _)) rfl rfl ?_
    refine r_aldR cd_0_20 rfl rfl ?_
    refine r_con (v := 8) cd_0_21 rfl (by decide) ?_
    refine r_newa (q := p + 2) (i := 8) cd_0_23 rfl rfl rfl (sw_f2.trans pz_f2) rfl rfl rfl ?_
    rw [pw_eq (q := p + 2) (sw_f2.trans pz_f2)]
    refine r_put (fs' := [aR p, aR (p + 1), aR (p + 2), aN, aI 0]) cd_0_25 rfl ((pz_ne (by omega)).trans (sw_at _ _ _)) rfl rfl ?_
    refine r_aldR cd_0_28 rfl rfl ?_
    refine r_con (v := 8) cd_0_29 rfl (by decide) ?_
    refine r_newa (q := p + 3) (i := 8) cd_0_31 rfl rfl rfl (sw_f2.trans pz_f2) rfl rfl rfl ?_
    rw [pw_eq (q := p + 3) (sw_f2.trans pz_f2)]
    refine r_put (fs' := [aR p, aR (p + 1), aR (p + 2), aR (p + 3), aI 0]) cd_0_33 rfl ((pz_ne (by omega)).trans (sw_at _ _ _)) rfl rfl ?_
    refine r_aldR cd_0_36 rfl rfl ?_
    refine r_con (v := 0) cd_0_37 rfl (by decide) ?_
    refine r_put (fs' := [aR p, aR (p + 1), aR (p + 2), aR (p + 3), aI 0]) cd_0_38 rfl (sw_at _ _ _) rfl rfl ?_
    exact r_void cd_0_41 rfl (rfl)
  · exact ⟨⟨(sw_at _ _ _), ((sw_ne (by omega)).trans ((sw_ne (by omega)).trans ((pz_ne (by omega)).trans ((sw_ne (by omega)).trans ((pz_ne (by omega)).trans ((sw_ne (by omega)).trans ((pz_ne (by omega)).trans ((sw_ne (by omega)).trans (pz_at _ _ _))))))))), ((sw_ne (by omega)).trans ((sw_ne (by omega)).trans ((pz_ne (by omega)).trans ((sw_ne (by omega)).trans ((pz_ne (by omega)).trans ((sw_ne (by omega)).trans (pz_at _ _ _))))))), ((sw_ne (by omega)).trans ((sw_ne (by omega)).trans ((pz_ne (by omega)).trans ((sw_ne (by omega)).trans (pz_at _ _ _))))), ((sw_ne (by omega)).trans ((sw_ne (by omega)).trans (pz_at _ _ _)))⟩, fun a ha hn => (sw_ne (by omega)).trans ((sw_ne (by omega)).trans ((pz_ne (by omega)).trans ((sw_ne (by omega)).trans ((pz_ne (by omega)).trans ((sw_ne (by omega)).trans ((pz_ne (by omega)).trans ((sw_ne (by omega)).trans ((pz_ne (by omega)).trans (rfl))))))))), rfl, (sw_f2.trans (sw_f2.trans pz_f2))⟩
theorem i_15 {h : aH} {q p : Nat} (hq : h.2.2 q = newF 2) (hp : h.2.1 = p) (hl : q < p) : ∃ h', Ct 1 15 [aR q] h (.inl none, h') ∧ (h'.2.2 q = .inr (2, [aR p, aR (p + 1), aR (p + 2), aR (p + 3), aR (p + 4), aR (p + 5), aR (p + 6), aI 0]) ∧ h'.2.2 p = .inl (0, 16, .inl (fun _ => 0)) ∧ h'.2.2 (p + 1) = .inl (0, 16, .inl (fun _ => 0)) ∧ h'.2.2 (p + 2) = .inl (0, 16, .inl (fun _ => 0)) ∧ h'.2.2 (p + 3) = .inl (0, 16, .inl (fun _ => 0)) ∧ h'.2.2 (p + 4) = .inl (0, 16, .inl (fun _ => 0)) ∧ h'.2.2 (p + 5) = .inl (0, 16, .inl (fun _ => 0)) ∧ h'.2.2 (p + 6) = .inl (0, 16, .inl (fun _ => 0))) ∧ (∀ a, a < p → ¬ a = q → h'.2.2 a = h.2.2 a) ∧ h'.1 = h.1 ∧ h'.2.1 = p + 7 := by
  apply Exists.intro
  apply And.intro
  · refine Ct.of [aR q] rfl ?_
    refine r_aldR cd_15_0 rfl rfl ?_
    refine r_oini cd_15_1 rfl rfl ?_
    refine r_aldR cd_15_4 rfl rfl ?_
    refine r_con (v := 16) cd_15_5 rfl (by decide) ?_
    refine r_newa (q := p) (i := 16) cd_15_7 rfl rfl rfl hp rfl rfl rfl ?_
    rw [pw_eq (q := p) hp]
    refine r_put (fs' := [aR p, aN, aN, aN, aN, aN, aN, aI 0]) cd_15_9 rfl ((pz_ne (by omega)).trans hq) rfl rfl ?_
    refine r_aldR cd_15_12 rfl rfl ?_
    refine r_con (v := 16) cd_15_13 rfl (by decide) ?_
    refine r_newa (q := p + 1) (i := 16) cd_15_15 rfl rfl rfl (sw_f2.trans pz_f2) rfl rfl rfl ?_
    rw [pw_eq (q := p + 1) (sw_f2.trans pz_f2)]
    refine r_put (fs' := [aR p, aR (p + 1), aN, aN, aN, aN, aN, aI 0]) cd_15_17 rfl ((pz_ne (by omega)).trans (sw_at _ _ _)) rfl rfl ?_
    refine r_aldR cd_15_20 rfl rfl ?_
    refine r_con (v := 16) cd_15_21 rfl (by decide) ?_
    refine r_newa (q := p + 2) (i := 16) cd_15_23 rfl rfl rfl (sw_f2.trans pz_f2) rfl rfl rfl ?_
    rw [pw_eq (q := p + 2) (sw_f2.trans pz_f2)]
    refine r_put (fs' := [aR p, aR (p + 1), aR (p + 2), aN, aN, aN, aN, aI 0]) cd_15_25 rfl ((pz_ne (by omega)).trans (sw_at _ _ _)) rfl rfl ?_
    refine r_aldR cd_15_28 rfl rfl ?_
    refine r_con (v := 16) cd_15_29 rfl (by decide) ?_
    refine r_newa (q := p + 3) (i := 16) cd_15_31 rfl rfl rfl (sw_f2.trans pz_f2) rfl rfl rfl ?_
    rw [pw_eq (q := p + 3) (sw_f2.trans pz_f2)]
    refine r_put (fs' := [aR p, aR (p + 1), aR (p + 2), aR (p + 3), aN, aN, aN, aI 0]) cd_15_33 rfl ((pz_ne (by omega)).trans (sw_at _ _ _)) rfl rfl ?_
    refine r_aldR cd_15_36 rfl rfl ?_
    refine r_con (v := 16) cd_15_37 rfl (by decide) ?_
    refine r_newa (q := p + 4) (i := 16) cd_15_39 rfl rfl rfl (sw_f2.trans pz_f2) rfl rfl rfl ?_
    rw [pw_eq (q := p + 4) (sw_f2.trans pz_f2)]
    refine r_put (fs' := [aR p, aR (p + 1), aR (p + 2), aR (p + 3), aR (p + 4), aN, aN, aI 0]) cd_15_41 rfl ((pz_ne (by omega)).trans (sw_at _ _ _)) rfl rfl ?_
    refine r_aldR cd_15_44 rfl rfl ?_
    refine r_con (v := 16) cd_15_45 rfl (by decide) ?_
    refine r_newa (q := p + 5) (i := 16) cd_15_47 rfl rfl rfl (sw_f2.trans pz_f2) rfl rfl rfl ?_
    rw [pw_eq (q := p + 5) (sw_f2.trans pz_f2)]
    refine r_put (fs' := [aR p, aR (p + 1), aR (p + 2), aR (p + 3), aR (p + 4), aR (p + 5), aN, aI 0]) cd_15_49 rfl ((pz_ne (by omega)).trans (sw_at _ _ _)) rfl rfl ?_
    refine r_aldR cd_15_52 rfl rfl ?_
    refine r_con (v := 16) cd_15_53 rfl (by decide) ?_
    refine r_newa (q := p + 6) (i := 16) cd_15_55 rfl rfl rfl (sw_f2.trans pz_f2) rfl rfl rfl ?_
    rw [pw_eq (q := p + 6) (sw_f2.trans pz_f2)]
    refine r_put (fs' := [aR p, aR (p + 1), aR (p + 2), aR (p + 3), aR (p + 4), aR (p + 5), aR (p + 6), aI 0]) cd_15_57 rfl ((pz_ne (by omega)).trans (sw_at _ _ _)) rfl rfl ?_
    refine r_aldR cd_15_60 rfl rfl ?_
    refine r_con (v := 0) cd_15_61 rfl (by decide) ?_
    refine r_put (fs' := [aR p, aR (p + 1), aR (p + 2), aR (p + 3), aR (p + 4), aR (p + 5), aR (p + 6), aI 0]) cd_15_62 rfl (sw_at _ _ _) rfl rfl ?_
    exact r_void cd_15_65 rfl (rfl)
  · exact ⟨⟨(sw_at _ _ _), ((sw_ne (by omega)).trans ((sw_ne (by omega)).trans ((pz_ne (by omega)).trans ((sw_ne (by omega)).trans ((pz_ne (by omega)).trans ((sw_ne (by omega)).trans ((pz_ne (by omega)).trans ((sw_ne (by omega)).trans ((pz_ne (by omega)).trans ((sw_ne (by omega)).trans ((pz_ne (by omega)).trans ((sw_ne (by omega)).trans ((pz_ne (by omega)).trans ((sw_ne (by omega)).trans (pz_at _ _ _))))))))))))))), ((sw_ne (by omega)).trans ((sw_ne (by omega)).trans ((pz_ne (by omega)).trans ((sw_ne (by omega)).trans ((pz_ne (by omega)).trans ((sw_ne (by omega)).trans ((pz_ne (by omega)).trans ((sw_ne (by omega)).trans ((pz_ne (by omega)).trans ((sw_ne (by omega)).trans ((pz_ne (by omega)).trans ((sw_ne (by omega)).trans (pz_at _ _ _))))))))))))), ((sw_ne (by omega)).trans ((sw_ne (by omega)).trans ((pz_ne (by omega)).trans ((sw_ne (by omega)).trans ((pz_ne (by omega)).trans ((sw_ne (by omega)).trans ((pz_ne (by omega)).trans ((sw_ne (by omega)).trans ((pz_ne (by omega)).trans ((sw_ne (by omega)).trans (pz_at _ _ _))))))))))), ((sw_ne (by omega)).trans ((sw_ne (by omega)).trans ((pz_ne (by omega)).trans ((sw_ne (by omega)).trans ((pz_ne (by omega)).trans ((sw_ne (by omega)).trans ((pz_ne (by omega)).trans ((sw_ne (by omega)).trans (pz_at _ _ _))))))))), ((sw_ne (by omega)).trans ((sw_ne (by omega)).trans ((pz_ne (by omega)).trans ((sw_ne (by omega)).trans ((pz_ne (by omega)).trans ((sw_ne (by omega)).trans (pz_at _ _ _))))))), ((sw_ne (by omega)).trans ((sw_ne (by omega)).trans ((pz_ne (by omega)).trans ((sw_ne (by omega)).trans (pz_at _ _ _))))), ((sw_ne (by omega)).trans ((sw_ne (by omega)).trans (pz_at _ _ _)))⟩, fun a ha hn => (sw_ne (by omega)).trans ((sw_ne (by omega)).trans ((pz_ne (by omega)).trans ((sw_ne (by omega)).trans ((pz_ne (by omega)).trans ((sw_ne (by omega)).trans ((pz_ne (by omega)).trans ((sw_ne (by omega)).trans ((pz_ne (by omega)).trans ((sw_ne (by omega)).trans ((pz_ne (by omega)).trans ((sw_ne (by omega)).trans ((pz_ne (by omega)).trans ((sw_ne (by omega)).trans ((pz_ne (by omega)).trans (rfl))))))))))))))), rfl, (sw_f2.trans (sw_f2.trans pz_f2))⟩
theorem i_59 {h : aH} {q p : Nat} (hq : h.2.2 q = newF 5) (hp : h.2.1 = p) (hl : q < p) : ∃ h', Ct 1 59 [aR q] h (.inl none, h') ∧ (h'.2.2 q = .inr (5, [aR p, aI 0, aI 0, aI 0, aI 0, aI 0]) ∧ h'.2.2 p = .inl (1, 600, .inl (fun _ => 0))) ∧ (∀ a, a < p → ¬ a = q → h'.2.2 a = h.2.2 a) ∧ h'.1 = h.1 ∧ h'.2.1 = p + 1 := by
  apply Exists.intro
  apply And.intro
  · refine Ct.of [aR q] rfl ?_
    refine r_aldR cd_59_0 rfl rfl ?_
    refine r_oini cd_59_1 rfl rfl ?_
    refine r_aldR cd_59_4 rfl rfl ?_
    refine r_con (v := 600) cd_59_5 rfl (by decide) ?_
    refine r_newa (q := p) (i := 600) cd_59_8 rfl rfl rfl hp rfl rfl rfl ?_
    rw [pw_eq (q := p) hp]
    refine r_put (fs' := [aR p, aI 0, aI 0, aI 0, aI 0, aI 0]) cd_59_10 rfl ((pz_ne (by omega)).trans hq) rfl rfl ?_
    refine r_aldR cd_59_13 rfl rfl ?_
    refine r_con (v := 0) cd_59_14 rfl (by decide) ?_
    refine r_put (fs' := [aR p, aI 0, aI 0, aI 0, aI 0, aI 0]) cd_59_15 rfl (sw_at _ _ _) rfl rfl ?_
    refine r_aldR cd_59_18 rfl rfl ?_
    refine r_con (v := 0) cd_59_19 rfl (by decide) ?_
    refine r_put (fs' := [aR p, aI 0, aI 0, aI 0, aI 0, aI 0]) cd_59_20 rfl (sw_at _ _ _) rfl rfl ?_
    refine r_aldR cd_59_23 rfl rfl ?_
    refine r_con (v := 0) cd_59_24 rfl (by decide) ?_
    refine r_put (fs' := [aR p, aI 0, aI 0, aI 0, aI 0, aI 0]) cd_59_25 rfl (sw_at _ _ _) rfl rfl ?_
    refine r_aldR cd_59_28 rfl rfl ?_
    refine r_con (v := 0) cd_59_29 rfl (by decide) ?_
    refine r_put (fs' := [aR p, aI 0, aI 0, aI 0, aI 0, aI 0]) cd_59_30 rfl (sw_at _ _ _) rfl rfl ?_
    refine r_aldR cd_59_33 rfl rfl ?_
    refine r_con (v := 0) cd_59_34 rfl (by decide) ?_
    refine r_put (fs' := [aR p, aI 0, aI 0, aI 0, aI 0, aI 0]) cd_59_35 rfl (sw_at _ _ _) rfl rfl ?_
    exact r_void cd_59_38 rfl (rfl)
  · exact ⟨⟨(sw_at _ _ _), ((sw_ne (by omega)).trans ((sw_ne (by omega)).trans ((sw_ne (by omega)).trans ((sw_ne (by omega)).trans ((sw_ne (by omega)).trans ((sw_ne (by omega)).trans (pz_at _ _ _)))))))⟩, fun a ha hn => (sw_ne (by omega)).trans ((sw_ne (by omega)).trans ((sw_ne (by omega)).trans ((sw_ne (by omega)).trans ((sw_ne (by omega)).trans ((sw_ne (by omega)).trans ((pz_ne (by omega)).trans (rfl))))))), rfl, (sw_f2.trans (sw_f2.trans (sw_f2.trans (sw_f2.trans (sw_f2.trans (sw_f2.trans pz_f2))))))⟩
theorem i_74 {h : aH} {B : Nat} (hB : h.2.2 B = newF 6) (hq : h.2.1 = B + 1) : ∃ h', Ct 2 74 [aR B] h (.inl none, h') ∧ Ex h' B ∧ (∀ a, a < B → h'.2.2 a = h.2.2 a) ∧ h'.1 = h.1 ∧ h'.2.1 = B + 18 := by
  obtain ⟨h1, e1, ⟨r1_0, r1_1, r1_2, r1_3⟩, f1, g1, uq1⟩ := i_48 (h := pz h (B + 1) (newF 4)) (q := B + 1) (p := B + 2) (pz_at _ _ _) rfl (by omega)
  obtain ⟨h2, e2, ⟨r2_0, r2_1, r2_2, r2_3, r2_4⟩, f2, g2, uq2⟩ := i_0 (h := pz (sw h1 B (.inr (6, [aR (B + 1), aN, aN, aI 0, aI 0, aI 0, aI 0, aI 0, aI 0, aI 0]))) (B + 5) (newF 0)) (q := B + 5) (p := B + 6) (pz_at _ _ _) rfl (by omega)
  obtain ⟨h3, e3, ⟨r3_0, r3_1, r3_2, r3_3, r3_4, r3_5, r3_6, r3_7⟩, f3, g3, uq3⟩ := i_15 (h := pz (sw h2 B (.inr (6, [aR (B + 1), aR (B + 5), aN, aI 0, aI 0, aI 0, aI 0, aI 0, aI 0, aI 0]))) (B + 10) (newF 2)) (q := B + 10) (p := B + 11) (pz_at _ _ _) rfl (by omega)
  have Wn : Wo (sw h3 B (.inr (6, [aR (B + 1), aR (B + 5), aR (B + 10), aI 0, aI 50, aI 0, aI 0, aI 0, aI 0, aI 0]))) B (iniW 0) (fun _ _ => 0) := ⟨(sw_at _ _ _), ((sw_ne (by omega)).trans ((f3 _ (by omega) (by omega)).trans ((pz_ne (by omega)).trans ((sw_ne (by omega)).trans ((f2 _ (by omega) (by omega)).trans ((pz_ne (by omega)).trans ((sw_ne (by omega)).trans r1_0))))))), ((sw_ne (by omega)).trans ((f3 _ (by omega) (by omega)).trans ((pz_ne (by omega)).trans ((sw_ne (by omega)).trans ((f2 _ (by omega) (by omega)).trans ((pz_ne (by omega)).trans ((sw_ne (by omega)).trans r1_1))))))), ((sw_ne (by omega)).trans ((f3 _ (by omega) (by omega)).trans ((pz_ne (by omega)).trans ((sw_ne (by omega)).trans ((f2 _ (by omega) (by omega)).trans ((pz_ne (by omega)).trans ((sw_ne (by omega)).trans r1_2))))))), ((sw_ne (by omega)).trans ((f3 _ (by omega) (by omega)).trans ((pz_ne (by omega)).trans ((sw_ne (by omega)).trans ((f2 _ (by omega) (by omega)).trans ((pz_ne (by omega)).trans ((sw_ne (by omega)).trans r1_3))))))), ((sw_ne (by omega)).trans ((f3 _ (by omega) (by omega)).trans ((pz_ne (by omega)).trans ((sw_ne (by omega)).trans r2_0)))), ((sw_ne (by omega)).trans ((f3 _ (by omega) (by omega)).trans ((pz_ne (by omega)).trans ((sw_ne (by omega)).trans r2_1)))), ((sw_ne (by omega)).trans ((f3 _ (by omega) (by omega)).trans ((pz_ne (by omega)).trans ((sw_ne (by omega)).trans r2_2)))), ((sw_ne (by omega)).trans ((f3 _ (by omega) (by omega)).trans ((pz_ne (by omega)).trans ((sw_ne (by omega)).trans r2_3)))), ((sw_ne (by omega)).trans ((f3 _ (by omega) (by omega)).trans ((pz_ne (by omega)).trans ((sw_ne (by omega)).trans r2_4)))), ((sw_ne (by omega)).trans r3_0), ((sw_ne (by omega)).trans r3_1), ((sw_ne (by omega)).trans r3_2), ((sw_ne (by omega)).trans r3_3), ((sw_ne (by omega)).trans r3_4), ((sw_ne (by omega)).trans r3_5), ((sw_ne (by omega)).trans r3_6), ((sw_ne (by omega)).trans r3_7)⟩
  refine ⟨_, Ct.of [aR B] rfl ?_, ⟨_, _, Wn⟩, fun a ha => (sw_ne (by omega)).trans ((f3 a (by omega) (by omega)).trans ((pz_ne (by omega)).trans ((sw_ne (by omega)).trans ((f2 a (by omega) (by omega)).trans ((pz_ne (by omega)).trans ((sw_ne (by omega)).trans ((f1 a (by omega) (by omega)).trans (pz_ne (by omega))))))))), g3.trans (g2.trans g1), uq3⟩
  refine r_aldR cd_74_0 rfl rfl ?_
  refine r_oini cd_74_1 rfl rfl ?_
  refine r_aldR cd_74_4 rfl rfl ?_
  refine r_new (q := B + 1) cd_74_5 rfl hq rfl rfl rfl ?_
  rw [pw_eq (q := B + 1) hq]
  refine r_dup cd_74_8 rfl rfl ?_
  refine r_dV (k1 := 3) (k2 := 72) (kc' := 4) (ks' := 78) e1 cd_74_9 rfl rfl rfl True.intro rfl rfl rfl rfl (Nat.le_of_ble_eq_true rfl) (Nat.le_of_ble_eq_true rfl) rfl ?_
  refine r_put (fs' := [aR (B + 1), aN, aN, aI 0, aI 0, aI 0, aI 0, aI 0, aI 0, aI 0]) cd_74_12 rfl ((f1 _ (by omega) (by omega)).trans ((pz_ne (by omega)).trans hB)) rfl rfl ?_
  refine r_aldR cd_74_15 rfl rfl ?_
  refine r_new (q := B + 5) cd_74_16 rfl (sw_f2.trans uq1) rfl rfl rfl ?_
  rw [pw_eq (q := B + 5) (sw_f2.trans uq1)]
  refine r_dup cd_74_19 rfl rfl ?_
  refine r_dV (k1 := 4) (k2 := 32) (kc' := 9) (ks' := 115) e2 cd_74_20 rfl rfl rfl True.intro rfl rfl rfl rfl (Nat.le_of_ble_eq_true rfl) (Nat.le_of_ble_eq_true rfl) rfl ?_
  refine r_put (fs' := [aR (B + 1), aR (B + 5), aN, aI 0, aI 0, aI 0, aI 0, aI 0, aI 0, aI 0]) cd_74_23 rfl ((f2 _ (by omega) (by omega)).trans ((pz_ne (by omega)).trans (sw_at _ _ _))) rfl rfl ?_
  refine r_aldR cd_74_26 rfl rfl ?_
  refine r_new (q := B + 10) cd_74_27 rfl (sw_f2.trans uq2) rfl rfl rfl ?_
  rw [pw_eq (q := B + 10) (sw_f2.trans uq2)]
  refine r_dup cd_74_30 rfl rfl ?_
  refine r_dV (k1 := 7) (k2 := 112) (kc' := 17) (ks' := 235) e3 cd_74_31 rfl rfl rfl True.intro rfl rfl rfl rfl (Nat.le_of_ble_eq_true rfl) (Nat.le_of_ble_eq_true rfl) rfl ?_
  refine r_put (fs' := [aR (B + 1), aR (B + 5), aR (B + 10), aI 0, aI 0, aI 0, aI 0, aI 0, aI 0, aI 0]) cd_74_34 rfl ((f3 _ (by omega) (by omega)).trans ((pz_ne (by omega)).trans (sw_at _ _ _))) rfl rfl ?_
  refine r_aldR cd_74_37 rfl rfl ?_
  refine r_con (v := 0) cd_74_38 rfl (by decide) ?_
  refine r_put (fs' := [aR (B + 1), aR (B + 5), aR (B + 10), aI 0, aI 0, aI 0, aI 0, aI 0, aI 0, aI 0]) cd_74_39 rfl (sw_at _ _ _) rfl rfl ?_
  rw [sw_sw]
  refine r_aldR cd_74_42 rfl rfl ?_
  refine r_con (v := 50) cd_74_43 rfl (by decide) ?_
  refine r_put (fs' := [aR (B + 1), aR (B + 5), aR (B + 10), aI 0, aI 50, aI 0, aI 0, aI 0, aI 0, aI 0]) cd_74_45 rfl (sw_at _ _ _) rfl rfl ?_
  rw [sw_sw]
  refine r_aldR cd_74_48 rfl rfl ?_
  refine r_con (v := 0) cd_74_49 rfl (by decide) ?_
  refine r_put (fs' := [aR (B + 1), aR (B + 5), aR (B + 10), aI 0, aI 50, aI 0, aI 0, aI 0, aI 0, aI 0]) cd_74_50 rfl (sw_at _ _ _) rfl rfl ?_
  rw [sw_sw]
  refine r_aldR cd_74_53 rfl rfl ?_
  refine r_con (v := 0) cd_74_54 rfl (by decide) ?_
  refine r_put (fs' := [aR (B + 1), aR (B + 5), aR (B + 10), aI 0, aI 50, aI 0, aI 0, aI 0, aI 0, aI 0]) cd_74_55 rfl (sw_at _ _ _) rfl rfl ?_
  rw [sw_sw]
  refine r_aldR cd_74_58 rfl rfl ?_
  refine r_con (v := 0) cd_74_59 rfl (by decide) ?_
  refine r_put (fs' := [aR (B + 1), aR (B + 5), aR (B + 10), aI 0, aI 50, aI 0, aI 0, aI 0, aI 0, aI 0]) cd_74_60 rfl (sw_at _ _ _) rfl rfl ?_
  rw [sw_sw]
  refine r_aldR cd_74_63 rfl rfl ?_
  refine r_con (v := 0) cd_74_64 rfl (by decide) ?_
  refine r_put (fs' := [aR (B + 1), aR (B + 5), aR (B + 10), aI 0, aI 50, aI 0, aI 0, aI 0, aI 0, aI 0]) cd_74_65 rfl (sw_at _ _ _) rfl rfl ?_
  rw [sw_sw]
  refine r_aldR cd_74_68 rfl rfl ?_
  refine r_con (v := 0) cd_74_69 rfl (by decide) ?_
  refine r_put (fs' := [aR (B + 1), aR (B + 5), aR (B + 10), aI 0, aI 50, aI 0, aI 0, aI 0, aI 0, aI 0]) cd_74_70 rfl (sw_at _ _ _) rfl rfl ?_
  rw [sw_sw]
  exact r_void cd_74_73 rfl (rfl)
theorem i_11 {h : aH} (hB : h.2.2 55 = newF 1) (hq : h.2.1 = 56) : ∃ h', Ct 3 11 [aR 55] h (.inl none, h') ∧ (h'.2.2 55 = .inr (1, [aR 56, aI 0, aI 0]) ∧ (∃ f, h'.2.2 56 = .inl (4, 8, .inr (.inr f)) ∧ ∀ i, i < 8 → f i = some (57 + 18 * i)) ∧ (∀ i, i < 8 → Ex h' (57 + 18 * i))) ∧ (∀ a, a < 55 → h'.2.2 a = h.2.2 a) ∧ h'.1 = h.1 ∧ h'.2.1 = 201 := by
  obtain ⟨h0, e0, X0, f0, g0, uq0⟩ := i_74 (h := pz (sw (pz h 56 (newA 4 8)) 55 (.inr (1, [aR 56, aI 0, aI 0]))) 57 (newF 6)) (B := 57) (pz_at _ _ _) rfl
  have a0 : h0.2.2 56 = .inl (4, 8, .inr (.inr (fun _ => none))) := (f0 56 (by decide)).trans ((pz_ne (by decide)).trans ((sw_ne (by decide)).trans (pz_at _ _ _)))
  have b0 : h0.2.2 55 = .inr (1, [aR 56, aI 0, aI 0]) := (f0 55 (by decide)).trans ((pz_ne (by decide)).trans (sw_at _ _ _))
  obtain ⟨v0, d0, W0⟩ := id X0
  obtain ⟨h1, e1, X1, f1, g1, uq1⟩ := i_74 (h := pz (sw h0 56 (.inl (4, 8, .inr (.inr (va_up (fun _ => none) 0 (some 57)))))) 75 (newF 6)) (B := 75) (pz_at _ _ _) rfl
  have a1 : h1.2.2 56 = .inl (4, 8, .inr (.inr (va_up (fun _ => none) 0 (some 57)))) := (f1 56 (by decide)).trans ((pz_ne (by decide)).trans (sw_at _ _ _))
  have b1 : h1.2.2 55 = .inr (1, [aR 56, aI 0, aI 0]) := (f1 55 (by decide)).trans ((pz_ne (by decide)).trans ((sw_ne (by decide)).trans b0))
  obtain ⟨v1, d1, W1⟩ := id X1
  obtain ⟨h2, e2, X2, f2, g2, uq2⟩ := i_74 (h := pz (sw h1 56 (.inl (4, 8, .inr (.inr (va_up (va_up (fun _ => none) 0 (some 57)) 1 (some 75)))))) 93 (newF 6)) (B := 93) (pz_at _ _ _) rfl
  have a2 : h2.2.2 56 = .inl (4, 8, .inr (.inr (va_up (va_up (fun _ => none) 0 (some 57)) 1 (some 75)))) := (f2 56 (by decide)).trans ((pz_ne (by decide)).trans (sw_at _ _ _))
  have b2 : h2.2.2 55 = .inr (1, [aR 56, aI 0, aI 0]) := (f2 55 (by decide)).trans ((pz_ne (by decide)).trans ((sw_ne (by decide)).trans b1))
  obtain ⟨v2, d2, W2⟩ := id X2
  obtain ⟨h3, e3, X3, f3, g3, uq3⟩ := i_74 (h := pz (sw h2 56 (.inl (4, 8, .inr (.inr (va_up (va_up (va_up (fun _ => none) 0 (some 57)) 1 (some 75)) 2 (some 93)))))) 111 (newF 6)) (B := 111) (pz_at _ _ _) rfl
  have a3 : h3.2.2 56 = .inl (4, 8, .inr (.inr (va_up (va_up (va_up (fun _ => none) 0 (some 57)) 1 (some 75)) 2 (some 93)))) := (f3 56 (by decide)).trans ((pz_ne (by decide)).trans (sw_at _ _ _))
  have b3 : h3.2.2 55 = .inr (1, [aR 56, aI 0, aI 0]) := (f3 55 (by decide)).trans ((pz_ne (by decide)).trans ((sw_ne (by decide)).trans b2))
  obtain ⟨v3, d3, W3⟩ := id X3
  obtain ⟨h4, e4, X4, f4, g4, uq4⟩ := i_74 (h := pz (sw h3 56 (.inl (4, 8, .inr (.inr (va_up (va_up (va_up (va_up (fun _ => none) 0 (some 57)) 1 (some 75)) 2 (some 93)) 3 (some 111)))))) 129 (newF 6)) (B := 129) (pz_at _ _ _) rfl
  have a4 : h4.2.2 56 = .inl (4, 8, .inr (.inr (va_up (va_up (va_up (va_up (fun _ => none) 0 (some 57)) 1 (some 75)) 2 (some 93)) 3 (some 111)))) := (f4 56 (by decide)).trans ((pz_ne (by decide)).trans (sw_at _ _ _))
  have b4 : h4.2.2 55 = .inr (1, [aR 56, aI 0, aI 0]) := (f4 55 (by decide)).trans ((pz_ne (by decide)).trans ((sw_ne (by decide)).trans b3))
  obtain ⟨v4, d4, W4⟩ := id X4
  obtain ⟨h5, e5, X5, f5, g5, uq5⟩ := i_74 (h := pz (sw h4 56 (.inl (4, 8, .inr (.inr (va_up (va_up (va_up (va_up (va_up (fun _ => none) 0 (some 57)) 1 (some 75)) 2 (some 93)) 3 (some 111)) 4 (some 129)))))) 147 (newF 6)) (B := 147) (pz_at _ _ _) rfl
  have a5 : h5.2.2 56 = .inl (4, 8, .inr (.inr (va_up (va_up (va_up (va_up (va_up (fun _ => none) 0 (some 57)) 1 (some 75)) 2 (some 93)) 3 (some 111)) 4 (some 129)))) := (f5 56 (by decide)).trans ((pz_ne (by decide)).trans (sw_at _ _ _))
  have b5 : h5.2.2 55 = .inr (1, [aR 56, aI 0, aI 0]) := (f5 55 (by decide)).trans ((pz_ne (by decide)).trans ((sw_ne (by decide)).trans b4))
  obtain ⟨v5, d5, W5⟩ := id X5
  obtain ⟨h6, e6, X6, f6, g6, uq6⟩ := i_74 (h := pz (sw h5 56 (.inl (4, 8, .inr (.inr (va_up (va_up (va_up (va_up (va_up (va_up (fun _ => none) 0 (some 57)) 1 (some 75)) 2 (some 93)) 3 (some 111)) 4 (some 129)) 5 (some 147)))))) 165 (newF 6)) (B := 165) (pz_at _ _ _) rfl
  have a6 : h6.2.2 56 = .inl (4, 8, .inr (.inr (va_up (va_up (va_up (va_up (va_up (va_up (fun _ => none) 0 (some 57)) 1 (some 75)) 2 (some 93)) 3 (some 111)) 4 (some 129)) 5 (some 147)))) := (f6 56 (by decide)).trans ((pz_ne (by decide)).trans (sw_at _ _ _))
  have b6 : h6.2.2 55 = .inr (1, [aR 56, aI 0, aI 0]) := (f6 55 (by decide)).trans ((pz_ne (by decide)).trans ((sw_ne (by decide)).trans b5))
  obtain ⟨v6, d6, W6⟩ := id X6
  obtain ⟨h7, e7, X7, f7, g7, uq7⟩ := i_74 (h := pz (sw h6 56 (.inl (4, 8, .inr (.inr (va_up (va_up (va_up (va_up (va_up (va_up (va_up (fun _ => none) 0 (some 57)) 1 (some 75)) 2 (some 93)) 3 (some 111)) 4 (some 129)) 5 (some 147)) 6 (some 165)))))) 183 (newF 6)) (B := 183) (pz_at _ _ _) rfl
  have a7 : h7.2.2 56 = .inl (4, 8, .inr (.inr (va_up (va_up (va_up (va_up (va_up (va_up (va_up (fun _ => none) 0 (some 57)) 1 (some 75)) 2 (some 93)) 3 (some 111)) 4 (some 129)) 5 (some 147)) 6 (some 165)))) := (f7 56 (by decide)).trans ((pz_ne (by decide)).trans (sw_at _ _ _))
  have b7 : h7.2.2 55 = .inr (1, [aR 56, aI 0, aI 0]) := (f7 55 (by decide)).trans ((pz_ne (by decide)).trans ((sw_ne (by decide)).trans b6))
  obtain ⟨v7, d7, W7⟩ := id X7
  have ha : (sw h7 56 (.inl (4, 8, .inr (.inr (va_up (va_up (va_up (va_up (va_up (va_up (va_up (va_up (fun _ => none) 0 (some 57)) 1 (some 75)) 2 (some 93)) 3 (some 111)) 4 (some 129)) 5 (some 147)) 6 (some 165)) 7 (some 183)))))).2.2 56 = .inl (4, 8, .inr (.inr (va_up (va_up (va_up (va_up (va_up (va_up (va_up (va_up (fun _ => none) 0 (some 57)) 1 (some 75)) 2 (some 93)) 3 (some 111)) 4 (some 129)) 5 (some 147)) 6 (some 165)) 7 (some 183)))) := sw_at _ _ _
  have Y0 : Ex (sw h7 56 (.inl (4, 8, .inr (.inr (va_up (va_up (va_up (va_up (va_up (va_up (va_up (va_up (fun _ => none) 0 (some 57)) 1 (some 75)) 2 (some 93)) 3 (some 111)) 4 (some 129)) 5 (some 147)) 6 (some 165)) 7 (some 183)))))) 57 := X0.mv fun a h1 h2 => ((sw_ne (by omega)).trans ((f7 a (by omega)).trans ((pz_ne (by omega)).trans ((sw_ne (by omega)).trans ((f6 a (by omega)).trans ((pz_ne (by omega)).trans ((sw_ne (by omega)).trans ((f5 a (by omega)).trans ((pz_ne (by omega)).trans ((sw_ne (by omega)).trans ((f4 a (by omega)).trans ((pz_ne (by omega)).trans ((sw_ne (by omega)).trans ((f3 a (by omega)).trans ((pz_ne (by omega)).trans ((sw_ne (by omega)).trans ((f2 a (by omega)).trans ((pz_ne (by omega)).trans ((sw_ne (by omega)).trans ((f1 a (by omega)).trans ((pz_ne (by omega)).trans (sw_ne (by omega)))))))))))))))))))))))
  have Y1 : Ex (sw h7 56 (.inl (4, 8, .inr (.inr (va_up (va_up (va_up (va_up (va_up (va_up (va_up (va_up (fun _ => none) 0 (some 57)) 1 (some 75)) 2 (some 93)) 3 (some 111)) 4 (some 129)) 5 (some 147)) 6 (some 165)) 7 (some 183)))))) 75 := X1.mv fun a h1 h2 => ((sw_ne (by omega)).trans ((f7 a (by omega)).trans ((pz_ne (by omega)).trans ((sw_ne (by omega)).trans ((f6 a (by omega)).trans ((pz_ne (by omega)).trans ((sw_ne (by omega)).trans ((f5 a (by omega)).trans ((pz_ne (by omega)).trans ((sw_ne (by omega)).trans ((f4 a (by omega)).trans ((pz_ne (by omega)).trans ((sw_ne (by omega)).trans ((f3 a (by omega)).trans ((pz_ne (by omega)).trans ((sw_ne (by omega)).trans ((f2 a (by omega)).trans ((pz_ne (by omega)).trans (sw_ne (by omega))))))))))))))))))))
  have Y2 : Ex (sw h7 56 (.inl (4, 8, .inr (.inr (va_up (va_up (va_up (va_up (va_up (va_up (va_up (va_up (fun _ => none) 0 (some 57)) 1 (some 75)) 2 (some 93)) 3 (some 111)) 4 (some 129)) 5 (some 147)) 6 (some 165)) 7 (some 183)))))) 93 := X2.mv fun a h1 h2 => ((sw_ne (by omega)).trans ((f7 a (by omega)).trans ((pz_ne (by omega)).trans ((sw_ne (by omega)).trans ((f6 a (by omega)).trans ((pz_ne (by omega)).trans ((sw_ne (by omega)).trans ((f5 a (by omega)).trans ((pz_ne (by omega)).trans ((sw_ne (by omega)).trans ((f4 a (by omega)).trans ((pz_ne (by omega)).trans ((sw_ne (by omega)).trans ((f3 a (by omega)).trans ((pz_ne (by omega)).trans (sw_ne (by omega)))))))))))))))))
  have Y3 : Ex (sw h7 56 (.inl (4, 8, .inr (.inr (va_up (va_up (va_up (va_up (va_up (va_up (va_up (va_up (fun _ => none) 0 (some 57)) 1 (some 75)) 2 (some 93)) 3 (some 111)) 4 (some 129)) 5 (some 147)) 6 (some 165)) 7 (some 183)))))) 111 := X3.mv fun a h1 h2 => ((sw_ne (by omega)).trans ((f7 a (by omega)).trans ((pz_ne (by omega)).trans ((sw_ne (by omega)).trans ((f6 a (by omega)).trans ((pz_ne (by omega)).trans ((sw_ne (by omega)).trans ((f5 a (by omega)).trans ((pz_ne (by omega)).trans ((sw_ne (by omega)).trans ((f4 a (by omega)).trans ((pz_ne (by omega)).trans (sw_ne (by omega))))))))))))))
  have Y4 : Ex (sw h7 56 (.inl (4, 8, .inr (.inr (va_up (va_up (va_up (va_up (va_up (va_up (va_up (va_up (fun _ => none) 0 (some 57)) 1 (some 75)) 2 (some 93)) 3 (some 111)) 4 (some 129)) 5 (some 147)) 6 (some 165)) 7 (some 183)))))) 129 := X4.mv fun a h1 h2 => ((sw_ne (by omega)).trans ((f7 a (by omega)).trans ((pz_ne (by omega)).trans ((sw_ne (by omega)).trans ((f6 a (by omega)).trans ((pz_ne (by omega)).trans ((sw_ne (by omega)).trans ((f5 a (by omega)).trans ((pz_ne (by omega)).trans (sw_ne (by omega)))))))))))
  have Y5 : Ex (sw h7 56 (.inl (4, 8, .inr (.inr (va_up (va_up (va_up (va_up (va_up (va_up (va_up (va_up (fun _ => none) 0 (some 57)) 1 (some 75)) 2 (some 93)) 3 (some 111)) 4 (some 129)) 5 (some 147)) 6 (some 165)) 7 (some 183)))))) 147 := X5.mv fun a h1 h2 => ((sw_ne (by omega)).trans ((f7 a (by omega)).trans ((pz_ne (by omega)).trans ((sw_ne (by omega)).trans ((f6 a (by omega)).trans ((pz_ne (by omega)).trans (sw_ne (by omega))))))))
  have Y6 : Ex (sw h7 56 (.inl (4, 8, .inr (.inr (va_up (va_up (va_up (va_up (va_up (va_up (va_up (va_up (fun _ => none) 0 (some 57)) 1 (some 75)) 2 (some 93)) 3 (some 111)) 4 (some 129)) 5 (some 147)) 6 (some 165)) 7 (some 183)))))) 165 := X6.mv fun a h1 h2 => ((sw_ne (by omega)).trans ((f7 a (by omega)).trans ((pz_ne (by omega)).trans (sw_ne (by omega)))))
  have Y7 : Ex (sw h7 56 (.inl (4, 8, .inr (.inr (va_up (va_up (va_up (va_up (va_up (va_up (va_up (va_up (fun _ => none) 0 (some 57)) 1 (some 75)) 2 (some 93)) 3 (some 111)) 4 (some 129)) 5 (some 147)) 6 (some 165)) 7 (some 183)))))) 183 := X7.mv fun a h1 h2 => (sw_ne (by omega))
  refine ⟨_, Ct.of [aR 55, aU] rfl ?_, ⟨(sw_ne (by decide)).trans b7, ⟨_, ha, fun i hi => ?_⟩, fun i hi => ?_⟩, fun a ha => ((sw_ne (by omega)).trans ((f7 a (by omega)).trans ((pz_ne (by omega)).trans ((sw_ne (by omega)).trans ((f6 a (by omega)).trans ((pz_ne (by omega)).trans ((sw_ne (by omega)).trans ((f5 a (by omega)).trans ((pz_ne (by omega)).trans ((sw_ne (by omega)).trans ((f4 a (by omega)).trans ((pz_ne (by omega)).trans ((sw_ne (by omega)).trans ((f3 a (by omega)).trans ((pz_ne (by omega)).trans ((sw_ne (by omega)).trans ((f2 a (by omega)).trans ((pz_ne (by omega)).trans ((sw_ne (by omega)).trans ((f1 a (by omega)).trans ((pz_ne (by omega)).trans ((sw_ne (by omega)).trans ((f0 a (by omega)).trans ((pz_ne (by omega)).trans ((sw_ne (by omega)).trans (pz_ne (by omega))))))))))))))))))))))))))), (g7.trans (g6.trans (g5.trans (g4.trans (g3.trans (g2.trans (g1.trans g0))))))), uq7⟩
  rotate_left
  · have hh : i = 0 ∨ i = 1 ∨ i = 2 ∨ i = 3 ∨ i = 4 ∨ i = 5 ∨ i = 6 ∨ i = 7 := by omega
    rcases hh with rfl | rfl | rfl | rfl | rfl | rfl | rfl | rfl <;> rfl
  · have hh : i = 0 ∨ i = 1 ∨ i = 2 ∨ i = 3 ∨ i = 4 ∨ i = 5 ∨ i = 6 ∨ i = 7 := by omega
    rcases hh with rfl | rfl | rfl | rfl | rfl | rfl | rfl | rfl
    · exact Y0
    · exact Y1
    · exact Y2
    · exact Y3
    · exact Y4
    · exact Y5
    · exact Y6
    · exact Y7
  refine r_aldR cd_11_0 rfl rfl ?_
  refine r_oini cd_11_1 rfl rfl ?_
  refine r_aldR cd_11_4 rfl rfl ?_
  refine r_con (v := 8) cd_11_5 rfl (by decide) ?_
  refine r_newaW (q := 56) (i := 8) cd_11_7 rfl rfl rfl hq rfl rfl rfl ?_
  rw [pw_eq (q := 56) hq]
  refine r_put (fs' := [aR 56, aI 0, aI 0]) cd_11_10 rfl ((pz_ne (by decide)).trans hB) rfl rfl ?_
  refine r_aldR cd_11_13 rfl rfl ?_
  refine r_con (v := 0) cd_11_14 rfl (by decide) ?_
  refine r_put (fs' := [aR 56, aI 0, aI 0]) cd_11_15 rfl (sw_at _ _ _) rfl rfl ?_
  rw [sw_sw]
  refine r_aldR cd_11_18 rfl rfl ?_
  refine r_con (v := 0) cd_11_19 rfl (by decide) ?_
  refine r_put (fs' := [aR 56, aI 0, aI 0]) cd_11_20 rfl (sw_at _ _ _) rfl rfl ?_
  rw [sw_sw]
  refine r_con (v := 0) cd_11_23 rfl (by decide) ?_
  refine r_ist cd_11_24 rfl rfl (L' := [aR 55, aI 0]) rfl ?_
  refine r_ild cd_11_25 rfl rfl ?_
  refine r_con (v := 8) cd_11_26 rfl (by decide) ?_
  refine r_ic64 cd_11_28 rfl ⟨by omega, by omega⟩ ⟨by omega, by omega⟩ (fun n1 => ?_) (fun n1 => ?_)
  · refine r_aldR cd_11_31 rfl rfl ?_
    refine r_get cd_11_32 rfl (sw_at _ _ _) rfl ?_
    refine r_ild cd_11_35 rfl rfl ?_
    refine r_new (q := 57) cd_11_36 rfl (sw_f2.trans pz_f2) rfl rfl rfl ?_
    rw [pw_eq (q := 57) (sw_f2.trans pz_f2)]
    refine r_dup cd_11_39 rfl rfl ?_
    refine r_dV (k1 := 17) (k2 := 235) (kc' := 19) (ks' := 253) e0 cd_11_40 rfl rfl rfl True.intro rfl rfl rfl rfl (Nat.le_of_ble_eq_true rfl) (Nat.le_of_ble_eq_true rfl) rfl ?_
    refine r_wst (i := 0) cd_11_43 rfl a0 W0.1 rfl rfl (by omega) rfl ?_
    refine r_inc (v := 1) cd_11_44 rfl rfl rfl (by omega) (L' := [aR 55, aI 1]) rfl ?_
    refine r_goto cd_11_47 ?_
    refine r_ild cd_11_25 rfl rfl ?_
    refine r_con (v := 8) cd_11_26 rfl (by decide) ?_
    refine r_ic64 cd_11_28 rfl ⟨by omega, by omega⟩ ⟨by omega, by omega⟩ (fun n2 => ?_) (fun n2 => ?_)
    · refine r_aldR cd_11_31 rfl rfl ?_
      refine r_get cd_11_32 rfl ((sw_ne (by decide)).trans b0) rfl ?_
      refine r_ild cd_11_35 rfl rfl ?_
      refine r_new (q := 75) cd_11_36 rfl (sw_f2.trans uq0) rfl rfl rfl ?_
      rw [pw_eq (q := 75) (sw_f2.trans uq0)]
      refine r_dup cd_11_39 rfl rfl ?_
      refine r_dV (k1 := 17) (k2 := 235) (kc' := 37) (ks' := 498) e1 cd_11_40 rfl rfl rfl True.intro rfl rfl rfl rfl (Nat.le_of_ble_eq_true rfl) (Nat.le_of_ble_eq_true rfl) rfl ?_
      refine r_wst (i := 1) cd_11_43 rfl a1 W1.1 rfl rfl (by omega) rfl ?_
      refine r_inc (v := 2) cd_11_44 rfl rfl rfl (by omega) (L' := [aR 55, aI 2]) rfl ?_
      refine r_goto cd_11_47 ?_
      refine r_ild cd_11_25 rfl rfl ?_
      refine r_con (v := 8) cd_11_26 rfl (by decide) ?_
      refine r_ic64 cd_11_28 rfl ⟨by omega, by omega⟩ ⟨by omega, by omega⟩ (fun n3 => ?_) (fun n3 => ?_)
      · refine r_aldR cd_11_31 rfl rfl ?_
        refine r_get cd_11_32 rfl ((sw_ne (by decide)).trans b1) rfl ?_
        refine r_ild cd_11_35 rfl rfl ?_
        refine r_new (q := 93) cd_11_36 rfl (sw_f2.trans uq1) rfl rfl rfl ?_
        rw [pw_eq (q := 93) (sw_f2.trans uq1)]
        refine r_dup cd_11_39 rfl rfl ?_
        refine r_dV (k1 := 17) (k2 := 235) (kc' := 55) (ks' := 743) e2 cd_11_40 rfl rfl rfl True.intro rfl rfl rfl rfl (Nat.le_of_ble_eq_true rfl) (Nat.le_of_ble_eq_true rfl) rfl ?_
        refine r_wst (i := 2) cd_11_43 rfl a2 W2.1 rfl rfl (by omega) rfl ?_
        refine r_inc (v := 3) cd_11_44 rfl rfl rfl (by omega) (L' := [aR 55, aI 3]) rfl ?_
        refine r_goto cd_11_47 ?_
        refine r_ild cd_11_25 rfl rfl ?_
        refine r_con (v := 8) cd_11_26 rfl (by decide) ?_
        refine r_ic64 cd_11_28 rfl ⟨by omega, by omega⟩ ⟨by omega, by omega⟩ (fun n4 => ?_) (fun n4 => ?_)
        · refine r_aldR cd_11_31 rfl rfl ?_
          refine r_get cd_11_32 rfl ((sw_ne (by decide)).trans b2) rfl ?_
          refine r_ild cd_11_35 rfl rfl ?_
          refine r_new (q := 111) cd_11_36 rfl (sw_f2.trans uq2) rfl rfl rfl ?_
          rw [pw_eq (q := 111) (sw_f2.trans uq2)]
          refine r_dup cd_11_39 rfl rfl ?_
          refine r_dV (k1 := 17) (k2 := 235) (kc' := 73) (ks' := 988) e3 cd_11_40 rfl rfl rfl True.intro rfl rfl rfl rfl (Nat.le_of_ble_eq_true rfl) (Nat.le_of_ble_eq_true rfl) rfl ?_
          refine r_wst (i := 3) cd_11_43 rfl a3 W3.1 rfl rfl (by omega) rfl ?_
          refine r_inc (v := 4) cd_11_44 rfl rfl rfl (by omega) (L' := [aR 55, aI 4]) rfl ?_
          refine r_goto cd_11_47 ?_
          refine r_ild cd_11_25 rfl rfl ?_
          refine r_con (v := 8) cd_11_26 rfl (by decide) ?_
          refine r_ic64 cd_11_28 rfl ⟨by omega, by omega⟩ ⟨by omega, by omega⟩ (fun n5 => ?_) (fun n5 => ?_)
          · refine r_aldR cd_11_31 rfl rfl ?_
            refine r_get cd_11_32 rfl ((sw_ne (by decide)).trans b3) rfl ?_
            refine r_ild cd_11_35 rfl rfl ?_
            refine r_new (q := 129) cd_11_36 rfl (sw_f2.trans uq3) rfl rfl rfl ?_
            rw [pw_eq (q := 129) (sw_f2.trans uq3)]
            refine r_dup cd_11_39 rfl rfl ?_
            refine r_dV (k1 := 17) (k2 := 235) (kc' := 91) (ks' := 1233) e4 cd_11_40 rfl rfl rfl True.intro rfl rfl rfl rfl (Nat.le_of_ble_eq_true rfl) (Nat.le_of_ble_eq_true rfl) rfl ?_
            refine r_wst (i := 4) cd_11_43 rfl a4 W4.1 rfl rfl (by omega) rfl ?_
            refine r_inc (v := 5) cd_11_44 rfl rfl rfl (by omega) (L' := [aR 55, aI 5]) rfl ?_
            refine r_goto cd_11_47 ?_
            refine r_ild cd_11_25 rfl rfl ?_
            refine r_con (v := 8) cd_11_26 rfl (by decide) ?_
            refine r_ic64 cd_11_28 rfl ⟨by omega, by omega⟩ ⟨by omega, by omega⟩ (fun n6 => ?_) (fun n6 => ?_)
            · refine r_aldR cd_11_31 rfl rfl ?_
              refine r_get cd_11_32 rfl ((sw_ne (by decide)).trans b4) rfl ?_
              refine r_ild cd_11_35 rfl rfl ?_
              refine r_new (q := 147) cd_11_36 rfl (sw_f2.trans uq4) rfl rfl rfl ?_
              rw [pw_eq (q := 147) (sw_f2.trans uq4)]
              refine r_dup cd_11_39 rfl rfl ?_
              refine r_dV (k1 := 17) (k2 := 235) (kc' := 109) (ks' := 1478) e5 cd_11_40 rfl rfl rfl True.intro rfl rfl rfl rfl (Nat.le_of_ble_eq_true rfl) (Nat.le_of_ble_eq_true rfl) rfl ?_
              refine r_wst (i := 5) cd_11_43 rfl a5 W5.1 rfl rfl (by omega) rfl ?_
              refine r_inc (v := 6) cd_11_44 rfl rfl rfl (by omega) (L' := [aR 55, aI 6]) rfl ?_
              refine r_goto cd_11_47 ?_
              refine r_ild cd_11_25 rfl rfl ?_
              refine r_con (v := 8) cd_11_26 rfl (by decide) ?_
              refine r_ic64 cd_11_28 rfl ⟨by omega, by omega⟩ ⟨by omega, by omega⟩ (fun n7 => ?_) (fun n7 => ?_)
              · refine r_aldR cd_11_31 rfl rfl ?_
                refine r_get cd_11_32 rfl ((sw_ne (by decide)).trans b5) rfl ?_
                refine r_ild cd_11_35 rfl rfl ?_
                refine r_new (q := 165) cd_11_36 rfl (sw_f2.trans uq5) rfl rfl rfl ?_
                rw [pw_eq (q := 165) (sw_f2.trans uq5)]
                refine r_dup cd_11_39 rfl rfl ?_
                refine r_dV (k1 := 17) (k2 := 235) (kc' := 127) (ks' := 1723) e6 cd_11_40 rfl rfl rfl True.intro rfl rfl rfl rfl (Nat.le_of_ble_eq_true rfl) (Nat.le_of_ble_eq_true rfl) rfl ?_
                refine r_wst (i := 6) cd_11_43 rfl a6 W6.1 rfl rfl (by omega) rfl ?_
                refine r_inc (v := 7) cd_11_44 rfl rfl rfl (by omega) (L' := [aR 55, aI 7]) rfl ?_
                refine r_goto cd_11_47 ?_
                refine r_ild cd_11_25 rfl rfl ?_
                refine r_con (v := 8) cd_11_26 rfl (by decide) ?_
                refine r_ic64 cd_11_28 rfl ⟨by omega, by omega⟩ ⟨by omega, by omega⟩ (fun n8 => ?_) (fun n8 => ?_)
                · refine r_aldR cd_11_31 rfl rfl ?_
                  refine r_get cd_11_32 rfl ((sw_ne (by decide)).trans b6) rfl ?_
                  refine r_ild cd_11_35 rfl rfl ?_
                  refine r_new (q := 183) cd_11_36 rfl (sw_f2.trans uq6) rfl rfl rfl ?_
                  rw [pw_eq (q := 183) (sw_f2.trans uq6)]
                  refine r_dup cd_11_39 rfl rfl ?_
                  refine r_dV (k1 := 17) (k2 := 235) (kc' := 145) (ks' := 1968) e7 cd_11_40 rfl rfl rfl True.intro rfl rfl rfl rfl (Nat.le_of_ble_eq_true rfl) (Nat.le_of_ble_eq_true rfl) rfl ?_
                  refine r_wst (i := 7) cd_11_43 rfl a7 W7.1 rfl rfl (by omega) rfl ?_
                  refine r_inc (v := 8) cd_11_44 rfl rfl rfl (by omega) (L' := [aR 55, aI 8]) rfl ?_
                  refine r_goto cd_11_47 ?_
                  refine r_ild cd_11_25 rfl rfl ?_
                  refine r_con (v := 8) cd_11_26 rfl (by decide) ?_
                  refine r_ic64 cd_11_28 rfl ⟨by omega, by omega⟩ ⟨by omega, by omega⟩ (fun n9 => ?_) (fun n9 => ?_)
                  · exact absurd n9 (by decide)
                  · exact r_void cd_11_50 rfl (rfl)
                · exact absurd n8 (by decide)
              · exact absurd n7 (by decide)
            · exact absurd n6 (by decide)
          · exact absurd n5 (by decide)
        · exact absurd n4 (by decide)
      · exact absurd n3 (by decide)
    · exact absurd n2 (by decide)
  · exact absurd n1 (by decide)
theorem i_33 {h : aH} (hB : h.2.2 201 = newF 3) (hq : h.2.1 = 202) : ∃ h', Ct 3 33 [aR 201] h (.inl none, h') ∧ (h'.2.2 201 = .inr (3, [aR 202, aR 204, aR 222, aR 223, aR 224, aI 0, aI 0, aI 0, aI (-1)]) ∧ h'.2.2 202 = .inr (5, [aR 203, aI 0, aI 0, aI 0, aI 0, aI 0]) ∧ h'.2.2 203 = .inl (1, 600, .inl fun _ => 0) ∧ Ex h' 204 ∧ h'.2.2 222 = .inl (0, 4, .inl fun _ => 0) ∧ h'.2.2 223 = .inl (0, 2, .inl fun _ => 0) ∧ h'.2.2 224 = .inl (0, 2, .inl fun _ => 0)) ∧ (∀ a, a < 201 → h'.2.2 a = h.2.2 a) ∧ h'.1 = h.1 ∧ h'.2.1 = 225 := by
  obtain ⟨h1, e1, ⟨r1_0, r1_1⟩, f1, g1, uq1⟩ := i_59 (h := pz h 202 (newF 5)) (q := 202) (p := 203) (pz_at _ _ _) rfl (by decide)
  obtain ⟨h2, e2, X2, f2, g2, uq2⟩ := i_74 (h := pz (sw h1 201 (.inr (3, [aR 202, aN, aN, aN, aN, aI 0, aI 0, aI 0, aI 0]))) 204 (newF 6)) (B := 204) (pz_at _ _ _) rfl
  have b1 : h1.2.2 201 = newF 3 := (f1 201 (by decide) (by decide)).trans ((pz_ne (by decide)).trans hB)
  have b2 : h2.2.2 201 = .inr (3, [aR 202, aN, aN, aN, aN, aI 0, aI 0, aI 0, aI 0]) := (f2 201 (by decide)).trans ((pz_ne (by decide)).trans (sw_at _ _ _))
  have r2_0 := (f2 202 (by decide)).trans ((pz_ne (by decide)).trans ((sw_ne (by decide)).trans r1_0))
  have r2_1 := (f2 203 (by decide)).trans ((pz_ne (by decide)).trans ((sw_ne (by decide)).trans r1_1))
  apply Exists.intro
  apply And.intro
  · refine Ct.of [aR 201] rfl ?_
    refine r_aldR cd_33_0 rfl rfl ?_
    refine r_oini cd_33_1 rfl rfl ?_
    refine r_aldR cd_33_4 rfl rfl ?_
    refine r_new (q := 202) cd_33_5 rfl hq rfl rfl rfl ?_
    rw [pw_eq (q := 202) hq]
    refine r_dup cd_33_8 rfl rfl ?_
    refine r_dV (k1 := 1) (k2 := 600) (kc' := 2) (ks' := 606) e1 cd_33_9 rfl rfl rfl True.intro rfl rfl rfl rfl (Nat.le_of_ble_eq_true rfl) (Nat.le_of_ble_eq_true rfl) rfl ?_
    refine r_put (fs' := [aR 202, aN, aN, aN, aN, aI 0, aI 0, aI 0, aI 0]) cd_33_12 rfl b1 rfl rfl ?_
    refine r_aldR cd_33_15 rfl rfl ?_
    refine r_new (q := 204) cd_33_16 rfl (sw_f2.trans uq1) rfl rfl rfl ?_
    rw [pw_eq (q := 204) (sw_f2.trans uq1)]
    refine r_dup cd_33_19 rfl rfl ?_
    refine r_dV (k1 := 17) (k2 := 235) (kc' := 20) (ks' := 851) e2 cd_33_20 rfl rfl rfl True.intro rfl rfl rfl rfl (Nat.le_of_ble_eq_true rfl) (Nat.le_of_ble_eq_true rfl) rfl ?_
    refine r_put (fs' := [aR 202, aR 204, aN, aN, aN, aI 0, aI 0, aI 0, aI 0]) cd_33_23 rfl b2 rfl rfl ?_
    refine r_aldR cd_33_26 rfl rfl ?_
    refine r_con (v := 4) cd_33_27 rfl (by decide) ?_
    refine r_newa (q := 222) (i := 4) cd_33_28 rfl rfl rfl (sw_f2.trans uq2) rfl rfl rfl ?_
    rw [pw_eq (q := 222) (sw_f2.trans uq2)]
    refine r_put (fs' := [aR 202, aR 204, aR 222, aN, aN, aI 0, aI 0, aI 0, aI 0]) cd_33_30 rfl ((pz_ne (by decide)).trans (sw_at _ _ _)) rfl rfl ?_
    refine r_aldR cd_33_33 rfl rfl ?_
    refine r_con (v := 2) cd_33_34 rfl (by decide) ?_
    refine r_newa (q := 223) (i := 2) cd_33_35 rfl rfl rfl (sw_f2.trans pz_f2) rfl rfl rfl ?_
    rw [pw_eq (q := 223) (sw_f2.trans pz_f2)]
    refine r_put (fs' := [aR 202, aR 204, aR 222, aR 223, aN, aI 0, aI 0, aI 0, aI 0]) cd_33_37 rfl ((pz_ne (by decide)).trans (sw_at _ _ _)) rfl rfl ?_
    refine r_aldR cd_33_40 rfl rfl ?_
    refine r_con (v := 2) cd_33_41 rfl (by decide) ?_
    refine r_newa (q := 224) (i := 2) cd_33_42 rfl rfl rfl (sw_f2.trans pz_f2) rfl rfl rfl ?_
    rw [pw_eq (q := 224) (sw_f2.trans pz_f2)]
    refine r_put (fs' := [aR 202, aR 204, aR 222, aR 223, aR 224, aI 0, aI 0, aI 0, aI 0]) cd_33_44 rfl ((pz_ne (by decide)).trans (sw_at _ _ _)) rfl rfl ?_
    refine r_aldR cd_33_47 rfl rfl ?_
    refine r_con (v := 0) cd_33_48 rfl (by decide) ?_
    refine r_put (fs' := [aR 202, aR 204, aR 222, aR 223, aR 224, aI 0, aI 0, aI 0, aI 0]) cd_33_49 rfl (sw_at _ _ _) rfl rfl ?_
    refine r_aldR cd_33_52 rfl rfl ?_
    refine r_con (v := 0) cd_33_53 rfl (by decide) ?_
    refine r_put (fs' := [aR 202, aR 204, aR 222, aR 223, aR 224, aI 0, aI 0, aI 0, aI 0]) cd_33_54 rfl (sw_at _ _ _) rfl rfl ?_
    refine r_aldR cd_33_57 rfl rfl ?_
    refine r_con (v := 0) cd_33_58 rfl (by decide) ?_
    refine r_put (fs' := [aR 202, aR 204, aR 222, aR 223, aR 224, aI 0, aI 0, aI 0, aI 0]) cd_33_59 rfl (sw_at _ _ _) rfl rfl ?_
    refine r_aldR cd_33_62 rfl rfl ?_
    refine r_con (v := (-1)) cd_33_63 rfl (by decide) ?_
    refine r_put (fs' := [aR 202, aR 204, aR 222, aR 223, aR 224, aI 0, aI 0, aI 0, aI (-1)]) cd_33_64 rfl (sw_at _ _ _) rfl rfl ?_
    exact r_void cd_33_67 rfl (rfl)
  · exact ⟨⟨(sw_at _ _ _), ((sw_ne (by decide)).trans ((sw_ne (by decide)).trans ((sw_ne (by decide)).trans ((sw_ne (by decide)).trans ((sw_ne (by decide)).trans ((pz_ne (by decide)).trans ((sw_ne (by decide)).trans ((pz_ne (by decide)).trans ((sw_ne (by decide)).trans ((pz_ne (by decide)).trans ((sw_ne (by decide)).trans r2_0))))))))))), ((sw_ne (by decide)).trans ((sw_ne (by decide)).trans ((sw_ne (by decide)).trans ((sw_ne (by decide)).trans ((sw_ne (by decide)).trans ((pz_ne (by decide)).trans ((sw_ne (by decide)).trans ((pz_ne (by decide)).trans ((sw_ne (by decide)).trans ((pz_ne (by decide)).trans ((sw_ne (by decide)).trans r2_1))))))))))), X2.mv fun a h1 h2 => (sw_ne (by omega)).trans ((sw_ne (by omega)).trans ((sw_ne (by omega)).trans ((sw_ne (by omega)).trans ((sw_ne (by omega)).trans ((pz_ne (by omega)).trans ((sw_ne (by omega)).trans ((pz_ne (by omega)).trans ((sw_ne (by omega)).trans ((pz_ne (by omega)).trans ((sw_ne (by omega)).trans (rfl))))))))))), ((sw_ne (by decide)).trans ((sw_ne (by decide)).trans ((sw_ne (by decide)).trans ((sw_ne (by decide)).trans ((sw_ne (by decide)).trans ((pz_ne (by decide)).trans ((sw_ne (by decide)).trans ((pz_ne (by decide)).trans ((sw_ne (by decide)).trans (pz_at _ _ _)))))))))), ((sw_ne (by decide)).trans ((sw_ne (by decide)).trans ((sw_ne (by decide)).trans ((sw_ne (by decide)).trans ((sw_ne (by decide)).trans ((pz_ne (by decide)).trans ((sw_ne (by decide)).trans (pz_at _ _ _)))))))), ((sw_ne (by decide)).trans ((sw_ne (by decide)).trans ((sw_ne (by decide)).trans ((sw_ne (by decide)).trans ((sw_ne (by decide)).trans (pz_at _ _ _))))))⟩, fun a ha => (sw_ne (by omega)).trans ((sw_ne (by omega)).trans ((sw_ne (by omega)).trans ((sw_ne (by omega)).trans ((sw_ne (by omega)).trans ((pz_ne (by omega)).trans ((sw_ne (by omega)).trans ((pz_ne (by omega)).trans ((sw_ne (by omega)).trans ((pz_ne (by omega)).trans ((sw_ne (by omega)).trans ((f2 a (by omega)).trans ((pz_ne (by omega)).trans ((sw_ne (by omega)).trans ((f1 a (by omega) (by omega)).trans (pz_ne (by omega)))))))))))))))), g2.trans g1, (sw_f2.trans (sw_f2.trans (sw_f2.trans (sw_f2.trans (sw_f2.trans pz_f2)))))⟩
theorem i_106 {h : aH} (hB : h.2.2 0 = newF 7) (hq : h.2.1 = 1) : ∃ H : aH, (∀ res, RU 10 106 res (77, [aR 0], [], 225, 3604, H) → RU 10 106 res (0, [aR 0], [], 0, 0, h)) ∧ H.2.2 0 = .inr (7, [aR 1, aR 19, aR 37, aR 55, aR 201, aR 225, aI 0, aI 0]) ∧ Ex H 1 ∧ Ex H 19 ∧ Ex H 37 ∧ (H.2.2 55 = .inr (1, [aR 56, aI 0, aI 0]) ∧ (∃ f, H.2.2 56 = .inl (4, 8, .inr (.inr f)) ∧ ∀ i, i < 8 → f i = some (57 + 18 * i)) ∧ (∀ i, i < 8 → Ex H (57 + 18 * i))) ∧ (H.2.2 201 = .inr (3, [aR 202, aR 204, aR 222, aR 223, aR 224, aI 0, aI 0, aI 0, aI (-1)]) ∧ H.2.2 202 = .inr (5, [aR 203, aI 0, aI 0, aI 0, aI 0, aI 0]) ∧ H.2.2 203 = .inl (1, 600, .inl fun _ => 0) ∧ Ex H 204 ∧ H.2.2 222 = .inl (0, 4, .inl fun _ => 0) ∧ H.2.2 223 = .inl (0, 2, .inl fun _ => 0) ∧ H.2.2 224 = .inl (0, 2, .inl fun _ => 0)) ∧ H.2.2 225 = .inl (1, 30, .inl fun _ => 0) ∧ H.1 = h.1 ∧ H.2.1 = 226 := by
  obtain ⟨h1, e1, X1, f1, g1, uq1⟩ := i_74 (h := pz h 1 (newF 6)) (B := 1) (pz_at _ _ _) rfl
  obtain ⟨h2, e2, X2, f2, g2, uq2⟩ := i_74 (h := pz (sw h1 0 (.inr (7, [aR 1, aN, aN, aN, aN, aN, aI 0, aI 0]))) 19 (newF 6)) (B := 19) (pz_at _ _ _) rfl
  obtain ⟨h3, e3, X3, f3, g3, uq3⟩ := i_74 (h := pz (sw h2 0 (.inr (7, [aR 1, aR 19, aN, aN, aN, aN, aI 0, aI 0]))) 37 (newF 6)) (B := 37) (pz_at _ _ _) rfl
  obtain ⟨h4, e4, ⟨r55, ⟨ff, r56, hff⟩, hX4⟩, f4, g4, uq4⟩ := i_11 (h := pz (sw h3 0 (.inr (7, [aR 1, aR 19, aR 37, aN, aN, aN, aI 0, aI 0]))) 55 (newF 1)) (pz_at _ _ _) rfl
  obtain ⟨h5, e5, ⟨s1, s2, s3, X5, s5, s6, s7⟩, f5, g5, uq5⟩ := i_33 (h := pz (sw h4 0 (.inr (7, [aR 1, aR 19, aR 37, aR 55, aN, aN, aI 0, aI 0]))) 201 (newF 3)) (pz_at _ _ _) rfl
  have b1 : h1.2.2 0 = newF 7 := (f1 0 (by decide)).trans ((pz_ne (by decide)).trans hB)
  have b2 : h2.2.2 0 = .inr (7, [aR 1, aN, aN, aN, aN, aN, aI 0, aI 0]) := (f2 0 (by decide)).trans ((pz_ne (by decide)).trans (sw_at _ _ _))
  have b3 : h3.2.2 0 = .inr (7, [aR 1, aR 19, aN, aN, aN, aN, aI 0, aI 0]) := (f3 0 (by decide)).trans ((pz_ne (by decide)).trans (sw_at _ _ _))
  have b4 : h4.2.2 0 = .inr (7, [aR 1, aR 19, aR 37, aN, aN, aN, aI 0, aI 0]) := (f4 0 (by decide)).trans ((pz_ne (by decide)).trans (sw_at _ _ _))
  have b5 : h5.2.2 0 = .inr (7, [aR 1, aR 19, aR 37, aR 55, aN, aN, aI 0, aI 0]) := (f5 0 (by decide)).trans ((pz_ne (by decide)).trans (sw_at _ _ _))
  apply Exists.intro
  apply And.intro
  · intro res hk
    refine r_aldR cd_106_0 rfl rfl ?_
    refine r_oini cd_106_1 rfl rfl ?_
    refine r_aldR cd_106_4 rfl rfl ?_
    refine r_new (q := 1) cd_106_5 rfl hq rfl rfl rfl ?_
    rw [pw_eq (q := 1) hq]
    refine r_dup cd_106_8 rfl rfl ?_
    refine r_dV (k1 := 17) (k2 := 235) (kc' := 18) (ks' := 245) e1 cd_106_9 rfl rfl rfl True.intro rfl rfl rfl rfl (Nat.le_of_ble_eq_true rfl) (Nat.le_of_ble_eq_true rfl) rfl ?_
    refine r_put (fs' := [aR 1, aN, aN, aN, aN, aN, aI 0, aI 0]) cd_106_12 rfl b1 rfl rfl ?_
    refine r_aldR cd_106_15 rfl rfl ?_
    refine r_new (q := 19) cd_106_16 rfl (sw_f2.trans uq1) rfl rfl rfl ?_
    rw [pw_eq (q := 19) (sw_f2.trans uq1)]
    refine r_dup cd_106_19 rfl rfl ?_
    refine r_dV (k1 := 17) (k2 := 235) (kc' := 36) (ks' := 490) e2 cd_106_20 rfl rfl rfl True.intro rfl rfl rfl rfl (Nat.le_of_ble_eq_true rfl) (Nat.le_of_ble_eq_true rfl) rfl ?_
    refine r_put (fs' := [aR 1, aR 19, aN, aN, aN, aN, aI 0, aI 0]) cd_106_23 rfl b2 rfl rfl ?_
    refine r_aldR cd_106_26 rfl rfl ?_
    refine r_new (q := 37) cd_106_27 rfl (sw_f2.trans uq2) rfl rfl rfl ?_
    rw [pw_eq (q := 37) (sw_f2.trans uq2)]
    refine r_dup cd_106_30 rfl rfl ?_
    refine r_dV (k1 := 17) (k2 := 235) (kc' := 54) (ks' := 735) e3 cd_106_31 rfl rfl rfl True.intro rfl rfl rfl rfl (Nat.le_of_ble_eq_true rfl) (Nat.le_of_ble_eq_true rfl) rfl ?_
    refine r_put (fs' := [aR 1, aR 19, aR 37, aN, aN, aN, aI 0, aI 0]) cd_106_34 rfl b3 rfl rfl ?_
    refine r_aldR cd_106_37 rfl rfl ?_
    refine r_new (q := 55) cd_106_38 rfl (sw_f2.trans uq3) rfl rfl rfl ?_
    rw [pw_eq (q := 55) (sw_f2.trans uq3)]
    refine r_dup cd_106_41 rfl rfl ?_
    refine r_dV (k1 := 145) (k2 := 1968) (kc' := 200) (ks' := 2706) e4 cd_106_42 rfl rfl rfl True.intro rfl rfl rfl rfl (Nat.le_of_ble_eq_true rfl) (Nat.le_of_ble_eq_true rfl) rfl ?_
    refine r_put (fs' := [aR 1, aR 19, aR 37, aR 55, aN, aN, aI 0, aI 0]) cd_106_45 rfl b4 rfl rfl ?_
    refine r_aldR cd_106_48 rfl rfl ?_
    refine r_new (q := 201) cd_106_49 rfl (sw_f2.trans uq4) rfl rfl rfl ?_
    rw [pw_eq (q := 201) (sw_f2.trans uq4)]
    refine r_dup cd_106_52 rfl rfl ?_
    refine r_dV (k1 := 23) (k2 := 859) (kc' := 224) (ks' := 3574) e5 cd_106_53 rfl rfl rfl True.intro rfl rfl rfl rfl (Nat.le_of_ble_eq_true rfl) (Nat.le_of_ble_eq_true rfl) rfl ?_
    refine r_put (fs' := [aR 1, aR 19, aR 37, aR 55, aR 201, aN, aI 0, aI 0]) cd_106_56 rfl b5 rfl rfl ?_
    refine r_aldR cd_106_59 rfl rfl ?_
    refine r_con (v := 30) cd_106_60 rfl (by decide) ?_
    refine r_newa (q := 225) (i := 30) cd_106_62 rfl rfl rfl (sw_f2.trans uq5) rfl rfl rfl ?_
    rw [pw_eq (q := 225) (sw_f2.trans uq5)]
    refine r_put (fs' := [aR 1, aR 19, aR 37, aR 55, aR 201, aR 225, aI 0, aI 0]) cd_106_64 rfl ((pz_ne (by decide)).trans (sw_at _ _ _)) rfl rfl ?_
    refine r_aldR cd_106_67 rfl rfl ?_
    refine r_con (v := 0) cd_106_68 rfl (by decide) ?_
    refine r_put (fs' := [aR 1, aR 19, aR 37, aR 55, aR 201, aR 225, aI 0, aI 0]) cd_106_69 rfl (sw_at _ _ _) rfl rfl ?_
    refine r_aldR cd_106_72 rfl rfl ?_
    refine r_con (v := 0) cd_106_73 rfl (by decide) ?_
    refine r_put (fs' := [aR 1, aR 19, aR 37, aR 55, aR 201, aR 225, aI 0, aI 0]) cd_106_74 rfl (sw_at _ _ _) rfl rfl ?_
    exact hk
  · exact ⟨(sw_at _ _ _), X1.mv fun a h1 h2 => (sw_ne (by omega)).trans ((sw_ne (by omega)).trans ((sw_ne (by omega)).trans ((pz_ne (by omega)).trans ((sw_ne (by omega)).trans ((((f5 a (by omega)).trans ((pz_ne (by omega)).trans (sw_ne (by omega)))).trans (((f4 a (by omega)).trans ((pz_ne (by omega)).trans (sw_ne (by omega)))).trans (((f3 a (by omega)).trans ((pz_ne (by omega)).trans (sw_ne (by omega)))).trans ((f2 a (by omega)).trans ((pz_ne (by omega)).trans (sw_ne (by omega)))))))))))), X2.mv fun a h1 h2 => (sw_ne (by omega)).trans ((sw_ne (by omega)).trans ((sw_ne (by omega)).trans ((pz_ne (by omega)).trans ((sw_ne (by omega)).trans ((((f5 a (by omega)).trans ((pz_ne (by omega)).trans (sw_ne (by omega)))).trans (((f4 a (by omega)).trans ((pz_ne (by omega)).trans (sw_ne (by omega)))).trans ((f3 a (by omega)).trans ((pz_ne (by omega)).trans (sw_ne (by omega))))))))))), X3.mv fun a h1 h2 => (sw_ne (by omega)).trans ((sw_ne (by omega)).trans ((sw_ne (by omega)).trans ((pz_ne (by omega)).trans ((sw_ne (by omega)).trans ((((f5 a (by omega)).trans ((pz_ne (by omega)).trans (sw_ne (by omega)))).trans ((f4 a (by omega)).trans ((pz_ne (by omega)).trans (sw_ne (by omega)))))))))), ⟨(sw_ne (by decide)).trans ((sw_ne (by decide)).trans ((sw_ne (by decide)).trans ((pz_ne (by decide)).trans ((sw_ne (by decide)).trans (((f5 55 (by decide)).trans ((pz_ne (by decide)).trans ((sw_ne (by decide)).trans r55)))))))), ⟨ff, (sw_ne (by decide)).trans ((sw_ne (by decide)).trans ((sw_ne (by decide)).trans ((pz_ne (by decide)).trans ((sw_ne (by decide)).trans (((f5 56 (by decide)).trans ((pz_ne (by decide)).trans ((sw_ne (by decide)).trans r56)))))))), hff⟩, fun i hi => (hX4 i hi).mv fun a h1 h2 => (sw_ne (by omega)).trans ((sw_ne (by omega)).trans ((sw_ne (by omega)).trans ((pz_ne (by omega)).trans ((sw_ne (by omega)).trans (((f5 a (by omega)).trans ((pz_ne (by omega)).trans (sw_ne (by omega)))))))))⟩, ⟨(sw_ne (by decide)).trans ((sw_ne (by decide)).trans ((sw_ne (by decide)).trans ((pz_ne (by decide)).trans ((sw_ne (by decide)).trans (s1))))), (sw_ne (by decide)).trans ((sw_ne (by decide)).trans ((sw_ne (by decide)).trans ((pz_ne (by decide)).trans ((sw_ne (by decide)).trans (s2))))), (sw_ne (by decide)).trans ((sw_ne (by decide)).trans ((sw_ne (by decide)).trans ((pz_ne (by decide)).trans ((sw_ne (by decide)).trans (s3))))), X5.mv fun a h1 h2 => (sw_ne (by omega)).trans ((sw_ne (by omega)).trans ((sw_ne (by omega)).trans ((pz_ne (by omega)).trans ((sw_ne (by omega)).trans (rfl))))), (sw_ne (by decide)).trans ((sw_ne (by decide)).trans ((sw_ne (by decide)).trans ((pz_ne (by decide)).trans ((sw_ne (by decide)).trans (s5))))), (sw_ne (by decide)).trans ((sw_ne (by decide)).trans ((sw_ne (by decide)).trans ((pz_ne (by decide)).trans ((sw_ne (by decide)).trans (s6))))), (sw_ne (by decide)).trans ((sw_ne (by decide)).trans ((sw_ne (by decide)).trans ((pz_ne (by decide)).trans ((sw_ne (by decide)).trans (s7)))))⟩, ((sw_ne (by decide)).trans ((sw_ne (by decide)).trans ((sw_ne (by decide)).trans (pz_at _ _ _)))), g5.trans (g4.trans (g3.trans (g2.trans g1))), (sw_f2.trans (sw_f2.trans (sw_f2.trans pz_f2)))⟩
