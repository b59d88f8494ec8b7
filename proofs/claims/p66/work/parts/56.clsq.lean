/-! THE CLASS: copying a World (written by wip/whole/gen56.py) -/
/-- a World's cells, whatever they hold -/
def Ex (h : aH) (B : Nat) : Prop := ∃ v d, Wo h B v d
theorem Rp.ex {h : aH} {B : Nat} {w : Nat → Int} (R : Rp h B w) : Ex h B := by
  obtain ⟨c, W, -⟩ := R
  exact ⟨w, c, W⟩
def nK (k : Nat) : Nat := if k < 2 then 30 else if k = 2 then 12 else if k < 7 then 8 else 16
def cpK (c d : Nat → Nat → Int) (k : Nat) : Nat → Int := if k = 14 then c 14 else va_cpy (c k) (d k) 0 0 (nK k)
theorem cpK_at {c d : Nat → Nat → Int} {k i : Nat} (hk : ¬ k = 14) (hi : i < nK k) : cpK c d k i = c k i := by
  unfold cpK
  rw [if_neg hk]
  unfold va_cpy
  rw [if_pos ⟨Nat.zero_le _, by omega⟩, Nat.sub_zero, Nat.zero_add]
/-- the cells outside lo .. hi - 1 are as before -/
def Fi (lo hi : Nat) (h h' : aH) : Prop := (∀ a, a < lo ∨ hi ≤ a → h'.2.2 a = h.2.2 a) ∧ h'.1 = h.1 ∧ h'.2.1 = h.2.1
theorem Fi.rf {lo hi : Nat} {h : aH} : Fi lo hi h h := ⟨fun _ _ => rfl, rfl, rfl⟩
theorem Fi.sw {lo hi : Nat} {h h' : aH} {q : Nat} {c : aCell} (a : Fi lo hi h h') (h1 : lo ≤ q) (h2 : q < hi) : Fi lo hi h (sw h' q c) := ⟨fun r hr => (sw_ne (by omega)).trans (a.1 r hr), a.2.1, a.2.2⟩
theorem Fi.wd {lo hi lo' hi' : Nat} {h h' : aH} (a : Fi lo hi h h') (h1 : lo' ≤ lo) (h2 : hi ≤ hi') : Fi lo' hi' h h' := ⟨fun r hr => a.1 r (by omega), a.2⟩
theorem Fi.tr {lo hi : Nat} {h h1 h2 : aH} (a : Fi lo hi h h1) (b : Fi lo hi h1 h2) : Fi lo hi h h2 := ⟨fun q hq => (b.1 q hq).trans (a.1 q hq), b.2.1.trans a.2.1, b.2.2.trans a.2.2⟩
theorem x_58 {h : aH} {A B : Nat} {w v : Nat → Int} {c d : Nat → Nat → Int} (hd : A + 18 ≤ B ∨ B + 18 ≤ A) (o1 : h.2.2 (A + 1) = .inr (4, [aR (A + 2), aR (A + 3), aR (A + 4), aI (w 0), aI (w 4), aI (w 3)])) (p1 : h.2.2 (B + 1) = .inr (4, [aR (B + 2), aR (B + 3), aR (B + 4), aI (v 0), aI (v 4), aI (v 3)])) (o2 : h.2.2 (A + 2) = .inl (0, 30, .inl (c 0))) (p2 : h.2.2 (B + 2) = .inl (0, 30, .inl (d 0))) (o3 : h.2.2 (A + 3) = .inl (0, 30, .inl (c 1))) (p3 : h.2.2 (B + 3) = .inl (0, 30, .inl (d 1))) (o4 : h.2.2 (A + 4) = .inl (0, 12, .inl (c 2))) (p4 : h.2.2 (B + 4) = .inl (0, 12, .inl (d 2))) : Ct 1 58 [aR (B + 1), aR (A + 1)] h (.inl none, sw (sw (sw (sw h (B + 2) (.inl (0, 30, .inl (va_cpy (c 0) (d 0) 0 0 30)))) (B + 3) (.inl (0, 30, .inl (va_cpy (c 1) (d 1) 0 0 30)))) (B + 4) (.inl (0, 12, .inl (va_cpy (c 2) (d 2) 0 0 12)))) (B + 1) (.inr (4, [aR (B + 2), aR (B + 3), aR (B + 4), aI (w 0), aI (w 4), aI (w 3)]))) := by
  refine Ct.of [aR (B + 1), aR (A + 1)] rfl ?_
  refine r_aldR cd_58_0 rfl rfl ?_
  refine r_get cd_58_1 rfl o1 rfl ?_
  refine r_con (v := 0) cd_58_4 rfl (by decide) ?_
  refine r_aldR cd_58_5 rfl rfl ?_
  refine r_get cd_58_6 rfl p1 rfl ?_
  refine r_con (v := 0) cd_58_9 rfl (by decide) ?_
  refine r_con (v := 30) cd_58_10 rfl (by decide) ?_
  refine r_copy cd_58_12 rfl o2 p2 rfl rfl rfl rfl ?_
  refine r_aldR cd_58_15 rfl rfl ?_
  refine r_get cd_58_16 rfl ((sw_ne (by omega)).trans o1) rfl ?_
  refine r_con (v := 0) cd_58_19 rfl (by decide) ?_
  refine r_aldR cd_58_20 rfl rfl ?_
  refine r_get cd_58_21 rfl ((sw_ne (by omega)).trans p1) rfl ?_
  refine r_con (v := 0) cd_58_24 rfl (by decide) ?_
  refine r_con (v := 30) cd_58_25 rfl (by decide) ?_
  refine r_copy cd_58_27 rfl ((sw_ne (by omega)).trans o3) ((sw_ne (by omega)).trans p3) rfl rfl rfl rfl ?_
  refine r_aldR cd_58_30 rfl rfl ?_
  refine r_get cd_58_31 rfl ((sw_ne (by omega)).trans ((sw_ne (by omega)).trans o1)) rfl ?_
  refine r_con (v := 0) cd_58_34 rfl (by decide) ?_
  refine r_aldR cd_58_35 rfl rfl ?_
  refine r_get cd_58_36 rfl ((sw_ne (by omega)).trans ((sw_ne (by omega)).trans p1)) rfl ?_
  refine r_con (v := 0) cd_58_39 rfl (by decide) ?_
  refine r_con (v := 12) cd_58_40 rfl (by decide) ?_
  refine r_copy cd_58_42 rfl ((sw_ne (by omega)).trans ((sw_ne (by omega)).trans o4)) ((sw_ne (by omega)).trans ((sw_ne (by omega)).trans p4)) rfl rfl rfl rfl ?_
  refine r_aldR cd_58_45 rfl rfl ?_
  refine r_aldR cd_58_46 rfl rfl ?_
  refine r_get cd_58_47 rfl ((sw_ne (by omega)).trans ((sw_ne (by omega)).trans ((sw_ne (by omega)).trans o1))) rfl ?_
  refine r_put (fs' := [aR (B + 2), aR (B + 3), aR (B + 4), aI (w 0), aI (v 4), aI (v 3)]) cd_58_50 rfl ((sw_ne (by omega)).trans ((sw_ne (by omega)).trans ((sw_ne (by omega)).trans p1))) rfl rfl ?_
  refine r_aldR cd_58_53 rfl rfl ?_
  refine r_aldR cd_58_54 rfl rfl ?_
  refine r_get cd_58_55 rfl ((sw_ne (by omega)).trans ((sw_ne (by omega)).trans ((sw_ne (by omega)).trans ((sw_ne (by omega)).trans o1)))) rfl ?_
  refine r_put (fs' := [aR (B + 2), aR (B + 3), aR (B + 4), aI (w 0), aI (w 4), aI (v 3)]) cd_58_58 rfl (sw_at _ _ _) rfl rfl ?_
  rw [sw_sw]
  refine r_aldR cd_58_61 rfl rfl ?_
  refine r_aldR cd_58_62 rfl rfl ?_
  refine r_get cd_58_63 rfl ((sw_ne (by omega)).trans ((sw_ne (by omega)).trans ((sw_ne (by omega)).trans ((sw_ne (by omega)).trans o1)))) rfl ?_
  refine r_put (fs' := [aR (B + 2), aR (B + 3), aR (B + 4), aI (w 0), aI (w 4), aI (w 3)]) cd_58_66 rfl (sw_at _ _ _) rfl rfl ?_
  rw [sw_sw]
  exact r_void cd_58_69 rfl (rfl)
theorem y_58 {h : aH} {A B : Nat} {w v : Nat → Int} {c d : Nat → Nat → Int} (hd : A + 18 ≤ B ∨ B + 18 ≤ A) (o1 : h.2.2 (A + 1) = .inr (4, [aR (A + 2), aR (A + 3), aR (A + 4), aI (w 0), aI (w 4), aI (w 3)])) (p1 : h.2.2 (B + 1) = .inr (4, [aR (B + 2), aR (B + 3), aR (B + 4), aI (v 0), aI (v 4), aI (v 3)])) (o2 : h.2.2 (A + 2) = .inl (0, 30, .inl (c 0))) (p2 : h.2.2 (B + 2) = .inl (0, 30, .inl (d 0))) (o3 : h.2.2 (A + 3) = .inl (0, 30, .inl (c 1))) (p3 : h.2.2 (B + 3) = .inl (0, 30, .inl (d 1))) (o4 : h.2.2 (A + 4) = .inl (0, 12, .inl (c 2))) (p4 : h.2.2 (B + 4) = .inl (0, 12, .inl (d 2))) : ∃ h', Ct 1 58 [aR (B + 1), aR (A + 1)] h (.inl none, h') ∧ (h'.2.2 (B + 2) = .inl (0, 30, .inl (va_cpy (c 0) (d 0) 0 0 30)) ∧ h'.2.2 (B + 3) = .inl (0, 30, .inl (va_cpy (c 1) (d 1) 0 0 30)) ∧ h'.2.2 (B + 4) = .inl (0, 12, .inl (va_cpy (c 2) (d 2) 0 0 12)) ∧ h'.2.2 (B + 1) = .inr (4, [aR (B + 2), aR (B + 3), aR (B + 4), aI (w 0), aI (w 4), aI (w 3)])) ∧ Fi (B + 1) (B + 5) h h' := by
  exact ⟨_, x_58 hd o1 p1 o2 p2 o3 p3 o4 p4, ⟨((sw_ne (by omega)).trans ((sw_ne (by omega)).trans ((sw_ne (by omega)).trans (sw_at _ _ _)))), ((sw_ne (by omega)).trans ((sw_ne (by omega)).trans (sw_at _ _ _))), ((sw_ne (by omega)).trans (sw_at _ _ _)), (sw_at _ _ _)⟩, ((((Fi.rf).sw (by omega) (by omega)).sw (by omega) (by omega)).sw (by omega) (by omega)).sw (by omega) (by omega)⟩
theorem x_7 {h : aH} {A B : Nat} {w v : Nat → Int} {c d : Nat → Nat → Int} (hd : A + 18 ≤ B ∨ B + 18 ≤ A) (o5 : h.2.2 (A + 5) = .inr (0, [aR (A + 6), aR (A + 7), aR (A + 8), aR (A + 9), aI (w 5)])) (p5 : h.2.2 (B + 5) = .inr (0, [aR (B + 6), aR (B + 7), aR (B + 8), aR (B + 9), aI (v 5)])) (o6 : h.2.2 (A + 6) = .inl (0, 8, .inl (c 3))) (p6 : h.2.2 (B + 6) = .inl (0, 8, .inl (d 3))) (o7 : h.2.2 (A + 7) = .inl (0, 8, .inl (c 4))) (p7 : h.2.2 (B + 7) = .inl (0, 8, .inl (d 4))) (o8 : h.2.2 (A + 8) = .inl (0, 8, .inl (c 5))) (p8 : h.2.2 (B + 8) = .inl (0, 8, .inl (d 5))) (o9 : h.2.2 (A + 9) = .inl (0, 8, .inl (c 6))) (p9 : h.2.2 (B + 9) = .inl (0, 8, .inl (d 6))) : Ct 1 7 [aR (B + 5), aR (A + 5)] h (.inl none, sw (sw (sw (sw (sw h (B + 6) (.inl (0, 8, .inl (va_cpy (c 3) (d 3) 0 0 8)))) (B + 7) (.inl (0, 8, .inl (va_cpy (c 4) (d 4) 0 0 8)))) (B + 8) (.inl (0, 8, .inl (va_cpy (c 5) (d 5) 0 0 8)))) (B + 9) (.inl (0, 8, .inl (va_cpy (c 6) (d 6) 0 0 8)))) (B + 5) (.inr (0, [aR (B + 6), aR (B + 7), aR (B + 8), aR (B + 9), aI (w 5)]))) := by
  refine Ct.of [aR (B + 5), aR (A + 5)] rfl ?_
  refine r_aldR cd_7_0 rfl rfl ?_
  refine r_get cd_7_1 rfl o5 rfl ?_
  refine r_con (v := 0) cd_7_4 rfl (by decide) ?_
  refine r_aldR cd_7_5 rfl rfl ?_
  refine r_get cd_7_6 rfl p5 rfl ?_
  refine r_con (v := 0) cd_7_9 rfl (by decide) ?_
  refine r_con (v := 8) cd_7_10 rfl (by decide) ?_
  refine r_copy cd_7_12 rfl o6 p6 rfl rfl rfl rfl ?_
  refine r_aldR cd_7_15 rfl rfl ?_
  refine r_get cd_7_16 rfl ((sw_ne (by omega)).trans o5) rfl ?_
  refine r_con (v := 0) cd_7_19 rfl (by decide) ?_
  refine r_aldR cd_7_20 rfl rfl ?_
  refine r_get cd_7_21 rfl ((sw_ne (by omega)).trans p5) rfl ?_
  refine r_con (v := 0) cd_7_24 rfl (by decide) ?_
  refine r_con (v := 8) cd_7_25 rfl (by decide) ?_
  refine r_copy cd_7_27 rfl ((sw_ne (by omega)).trans o7) ((sw_ne (by omega)).trans p7) rfl rfl rfl rfl ?_
  refine r_aldR cd_7_30 rfl rfl ?_
  refine r_get cd_7_31 rfl ((sw_ne (by omega)).trans ((sw_ne (by omega)).trans o5)) rfl ?_
  refine r_con (v := 0) cd_7_34 rfl (by decide) ?_
  refine r_aldR cd_7_35 rfl rfl ?_
  refine r_get cd_7_36 rfl ((sw_ne (by omega)).trans ((sw_ne (by omega)).trans p5)) rfl ?_
  refine r_con (v := 0) cd_7_39 rfl (by decide) ?_
  refine r_con (v := 8) cd_7_40 rfl (by decide) ?_
  refine r_copy cd_7_42 rfl ((sw_ne (by omega)).trans ((sw_ne (by omega)).trans o8)) ((sw_ne (by omega)).trans ((sw_ne (by omega)).trans p8)) rfl rfl rfl rfl ?_
  refine r_aldR cd_7_45 rfl rfl ?_
  refine r_get cd_7_46 rfl ((sw_ne (by omega)).trans ((sw_ne (by omega)).trans ((sw_ne (by omega)).trans o5))) rfl ?_
  refine r_con (v := 0) cd_7_49 rfl (by decide) ?_
  refine r_aldR cd_7_50 rfl rfl ?_
  refine r_get cd_7_51 rfl ((sw_ne (by omega)).trans ((sw_ne (by omega)).trans ((sw_ne (by omega)).trans p5))) rfl ?_
  refine r_con (v := 0) cd_7_54 rfl (by decide) ?_
  refine r_con (v := 8) cd_7_55 rfl (by decide) ?_
  refine r_copy cd_7_57 rfl ((sw_ne (by omega)).trans ((sw_ne (by omega)).trans ((sw_ne (by omega)).trans o9))) ((sw_ne (by omega)).trans ((sw_ne (by omega)).trans ((sw_ne (by omega)).trans p9))) rfl rfl rfl rfl ?_
  refine r_aldR cd_7_60 rfl rfl ?_
  refine r_aldR cd_7_61 rfl rfl ?_
  refine r_get cd_7_62 rfl ((sw_ne (by omega)).trans ((sw_ne (by omega)).trans ((sw_ne (by omega)).trans ((sw_ne (by omega)).trans o5)))) rfl ?_
  refine r_put (fs' := [aR (B + 6), aR (B + 7), aR (B + 8), aR (B + 9), aI (w 5)]) cd_7_65 rfl ((sw_ne (by omega)).trans ((sw_ne (by omega)).trans ((sw_ne (by omega)).trans ((sw_ne (by omega)).trans p5)))) rfl rfl ?_
  exact r_void cd_7_68 rfl (rfl)
theorem y_7 {h : aH} {A B : Nat} {w v : Nat → Int} {c d : Nat → Nat → Int} (hd : A + 18 ≤ B ∨ B + 18 ≤ A) (o5 : h.2.2 (A + 5) = .inr (0, [aR (A + 6), aR (A + 7), aR (A + 8), aR (A + 9), aI (w 5)])) (p5 : h.2.2 (B + 5) = .inr (0, [aR (B + 6), aR (B + 7), aR (B + 8), aR (B + 9), aI (v 5)])) (o6 : h.2.2 (A + 6) = .inl (0, 8, .inl (c 3))) (p6 : h.2.2 (B + 6) = .inl (0, 8, .inl (d 3))) (o7 : h.2.2 (A + 7) = .inl (0, 8, .inl (c 4))) (p7 : h.2.2 (B + 7) = .inl (0, 8, .inl (d 4))) (o8 : h.2.2 (A + 8) = .inl (0, 8, .inl (c 5))) (p8 : h.2.2 (B + 8) = .inl (0, 8, .inl (d 5))) (o9 : h.2.2 (A + 9) = .inl (0, 8, .inl (c 6))) (p9 : h.2.2 (B + 9) = .inl (0, 8, .inl (d 6))) : ∃ h', Ct 1 7 [aR (B + 5), aR (A + 5)] h (.inl none, h') ∧ (h'.2.2 (B + 6) = .inl (0, 8, .inl (va_cpy (c 3) (d 3) 0 0 8)) ∧ h'.2.2 (B + 7) = .inl (0, 8, .inl (va_cpy (c 4) (d 4) 0 0 8)) ∧ h'.2.2 (B + 8) = .inl (0, 8, .inl (va_cpy (c 5) (d 5) 0 0 8)) ∧ h'.2.2 (B + 9) = .inl (0, 8, .inl (va_cpy (c 6) (d 6) 0 0 8)) ∧ h'.2.2 (B + 5) = .inr (0, [aR (B + 6), aR (B + 7), aR (B + 8), aR (B + 9), aI (w 5)])) ∧ Fi (B + 5) (B + 10) h h' := by
  exact ⟨_, x_7 hd o5 p5 o6 p6 o7 p7 o8 p8 o9 p9, ⟨((sw_ne (by omega)).trans ((sw_ne (by omega)).trans ((sw_ne (by omega)).trans ((sw_ne (by omega)).trans (sw_at _ _ _))))), ((sw_ne (by omega)).trans ((sw_ne (by omega)).trans ((sw_ne (by omega)).trans (sw_at _ _ _)))), ((sw_ne (by omega)).trans ((sw_ne (by omega)).trans (sw_at _ _ _))), ((sw_ne (by omega)).trans (sw_at _ _ _)), (sw_at _ _ _)⟩, (((((Fi.rf).sw (by omega) (by omega)).sw (by omega) (by omega)).sw (by omega) (by omega)).sw (by omega) (by omega)).sw (by omega) (by omega)⟩
theorem x_29 {h : aH} {A B : Nat} {w v : Nat → Int} {c d : Nat → Nat → Int} (hd : A + 18 ≤ B ∨ B + 18 ≤ A) (o10 : h.2.2 (A + 10) = .inr (2, [aR (A + 11), aR (A + 12), aR (A + 13), aR (A + 14), aR (A + 15), aR (A + 16), aR (A + 17), aI (w 6)])) (p10 : h.2.2 (B + 10) = .inr (2, [aR (B + 11), aR (B + 12), aR (B + 13), aR (B + 14), aR (B + 15), aR (B + 16), aR (B + 17), aI (v 6)])) (o11 : h.2.2 (A + 11) = .inl (0, 16, .inl (c 7))) (p11 : h.2.2 (B + 11) = .inl (0, 16, .inl (d 7))) (o12 : h.2.2 (A + 12) = .inl (0, 16, .inl (c 8))) (p12 : h.2.2 (B + 12) = .inl (0, 16, .inl (d 8))) (o13 : h.2.2 (A + 13) = .inl (0, 16, .inl (c 9))) (p13 : h.2.2 (B + 13) = .inl (0, 16, .inl (d 9))) (o14 : h.2.2 (A + 14) = .inl (0, 16, .inl (c 10))) (p14 : h.2.2 (B + 14) = .inl (0, 16, .inl (d 10))) (o15 : h.2.2 (A + 15) = .inl (0, 16, .inl (c 11))) (p15 : h.2.2 (B + 15) = .inl (0, 16, .inl (d 11))) (o16 : h.2.2 (A + 16) = .inl (0, 16, .inl (c 12))) (p16 : h.2.2 (B + 16) = .inl (0, 16, .inl (d 12))) (o17 : h.2.2 (A + 17) = .inl (0, 16, .inl (c 13))) (p17 : h.2.2 (B + 17) = .inl (0, 16, .inl (d 13))) : Ct 1 29 [aR (B + 10), aR (A + 10)] h (.inl none, sw (sw (sw (sw (sw (sw (sw (sw h (B + 11) (.inl (0, 16, .inl (va_cpy (c 7) (d 7) 0 0 16)))) (B + 12) (.inl (0, 16, .inl (va_cpy (c 8) (d 8) 0 0 16)))) (B + 13) (.inl (0, 16, .inl (va_cpy (c 9) (d 9) 0 0 16)))) (B + 14) (.inl (0, 16, .inl (va_cpy (c 10) (d 10) 0 0 16)))) (B + 15) (.inl (0, 16, .inl (va_cpy (c 11) (d 11) 0 0 16)))) (B + 16) (.inl (0, 16, .inl (va_cpy (c 12) (d 12) 0 0 16)))) (B + 17) (.inl (0, 16, .inl (va_cpy (c 13) (d 13) 0 0 16)))) (B + 10) (.inr (2, [aR (B + 11), aR (B + 12), aR (B + 13), aR (B + 14), aR (B + 15), aR (B + 16), aR (B + 17), aI (w 6)]))) := by
  refine Ct.of [aR (B + 10), aR (A + 10)] rfl ?_
  refine r_aldR cd_29_0 rfl rfl ?_
  refine r_get cd_29_1 rfl o10 rfl ?_
  refine r_con (v := 0) cd_29_4 rfl (by decide) ?_
  refine r_aldR cd_29_5 rfl rfl ?_
  refine r_get cd_29_6 rfl p10 rfl ?_
  refine r_con (v := 0) cd_29_9 rfl (by decide) ?_
  refine r_con (v := 16) cd_29_10 rfl (by decide) ?_
  refine r_copy cd_29_12 rfl o11 p11 rfl rfl rfl rfl ?_
  refine r_aldR cd_29_15 rfl rfl ?_
  refine r_get cd_29_16 rfl ((sw_ne (by omega)).trans o10) rfl ?_
  refine r_con (v := 0) cd_29_19 rfl (by decide) ?_
  refine r_aldR cd_29_20 rfl rfl ?_
  refine r_get cd_29_21 rfl ((sw_ne (by omega)).trans p10) rfl ?_
  refine r_con (v := 0) cd_29_24 rfl (by decide) ?_
  refine r_con (v := 16) cd_29_25 rfl (by decide) ?_
  refine r_copy cd_29_27 rfl ((sw_ne (by omega)).trans o12) ((sw_ne (by omega)).trans p12) rfl rfl rfl rfl ?_
  refine r_aldR cd_29_30 rfl rfl ?_
  refine r_get cd_29_31 rfl ((sw_ne (by omega)).trans ((sw_ne (by omega)).trans o10)) rfl ?_
  refine r_con (v := 0) cd_29_34 rfl (by decide) ?_
  refine r_aldR cd_29_35 rfl rfl ?_
  refine r_get cd_29_36 rfl ((sw_ne (by omega)).trans ((sw_ne (by omega)).trans p10)) rfl ?_
  refine r_con (v := 0) cd_29_39 rfl (by decide) ?_
  refine r_con (v := 16) cd_29_40 rfl (by decide) ?_
  refine r_copy cd_29_42 rfl ((sw_ne (by omega)).trans ((sw_ne (by omega)).trans o13)) ((sw_ne (by omega)).trans ((sw_ne (by omega)).trans p13)) rfl rfl rfl rfl ?_
  refine r_aldR cd_29_45 rfl rfl ?_
  refine r_get cd_29_46 rfl ((sw_ne (by omega)).trans ((sw_ne (by omega)).trans ((sw_ne (by omega)).trans o10))) rfl ?_
  refine r_con (v := 0) cd_29_49 rfl (by decide) ?_
  refine r_aldR cd_29_50 rfl rfl ?_
  refine r_get cd_29_51 rfl ((sw_ne (by omega)).trans ((sw_ne (by omega)).trans ((sw_ne (by omega)).trans p10))) rfl ?_
  refine r_con (v := 0) cd_29_54 rfl (by decide) ?_
  refine r_con (v := 16) cd_29_55 rfl (by decide) ?_
  refine r_copy cd_29_57 rfl ((sw_ne (by omega)).trans ((sw_ne (by omega)).trans ((sw_ne (by omega)).trans o14))) ((sw_ne (by omega)).trans ((sw_ne (by omega)).trans ((sw_ne (by omega)).trans p14))) rfl rfl rfl rfl ?_
  refine r_aldR cd_29_60 rfl rfl ?_
  refine r_get cd_29_61 rfl ((sw_ne (by omega)).trans ((sw_ne (by omega)).trans ((sw_ne (by omega)).trans ((sw_ne (by omega)).trans o10)))) rfl ?_
  refine r_con (v := 0) cd_29_64 rfl (by decide) ?_
  refine r_aldR cd_29_65 rfl rfl ?_
  refine r_get cd_29_66 rfl ((sw_ne (by omega)).trans ((sw_ne (by omega)).trans ((sw_ne (by omega)).trans ((sw_ne (by omega)).trans p10)))) rfl ?_
  refine r_con (v := 0) cd_29_69 rfl (by decide) ?_
  refine r_con (v := 16) cd_29_70 rfl (by decide) ?_
  refine r_copy cd_29_72 rfl ((sw_ne (by omega)).trans ((sw_ne (by omega)).trans ((sw_ne (by omega)).trans ((sw_ne (by omega)).trans o15)))) ((sw_ne (by omega)).trans ((sw_ne (by omega)).trans ((sw_ne (by omega)).trans ((sw_ne (by omega)).trans p15)))) rfl rfl rfl rfl ?_
  refine r_aldR cd_29_75 rfl rfl ?_
  refine r_get cd_29_76 rfl ((sw_ne (by omega)).trans ((sw_ne (by omega)).trans ((sw_ne (by omega)).trans ((sw_ne (by omega)).trans ((sw_ne (by omega)).trans o10))))) rfl ?_
  refine r_con (v := 0) cd_29_79 rfl (by decide) ?_
  refine r_aldR cd_29_80 rfl rfl ?_
  refine r_get cd_29_81 rfl ((sw_ne (by omega)).trans ((sw_ne (by omega)).trans ((sw_ne (by omega)).trans ((sw_ne (by omega)).trans ((sw_ne (by omega)).trans p10))))) rfl ?_
  refine r_con (v := 0) cd_29_84 rfl (by decide) ?_
  refine r_con (v := 16) cd_29_85 rfl (by decide) ?_
  refine r_copy cd_29_87 rfl ((sw_ne (by omega)).trans ((sw_ne (by omega)).trans ((sw_ne (by omega)).trans ((sw_ne (by omega)).trans ((sw_ne (by omega)).trans o16))))) ((sw_ne (by omega)).trans ((sw_ne (by omega)).trans ((sw_ne (by omega)).trans ((sw_ne (by omega)).trans ((sw_ne (by omega)).trans p16))))) rfl rfl rfl rfl ?_
  refine r_aldR cd_29_90 rfl rfl ?_
  refine r_get cd_29_91 rfl ((sw_ne (by omega)).trans ((sw_ne (by omega)).trans ((sw_ne (by omega)).trans ((sw_ne (by omega)).trans ((sw_ne (by omega)).trans ((sw_ne (by omega)).trans o10)))))) rfl ?_
  refine r_con (v := 0) cd_29_94 rfl (by decide) ?_
  refine r_aldR cd_29_95 rfl rfl ?_
  refine r_get cd_29_96 rfl ((sw_ne (by omega)).trans ((sw_ne (by omega)).trans ((sw_ne (by omega)).trans ((sw_ne (by omega)).trans ((sw_ne (by omega)).trans ((sw_ne (by omega)).trans p10)))))) rfl ?_
  refine r_con (v := 0) cd_29_99 rfl (by decide) ?_
  refine r_con (v := 16) cd_29_100 rfl (by decide) ?_
  refine r_copy cd_29_102 rfl ((sw_ne (by omega)).trans ((sw_ne (by omega)).trans ((sw_ne (by omega)).trans ((sw_ne (by omega)).trans ((sw_ne (by omega)).trans ((sw_ne (by omega)).trans o17)))))) ((sw_ne (by omega)).trans ((sw_ne (by omega)).trans ((sw_ne (by omega)).trans ((sw_ne (by omega)).trans ((sw_ne (by omega)).trans ((sw_ne (by omega)).trans p17)))))) rfl rfl rfl rfl ?_
  refine r_aldR cd_29_105 rfl rfl ?_
  refine r_aldR cd_29_106 rfl rfl ?_
  refine r_get cd_29_107 rfl ((sw_ne (by omega)).trans ((sw_ne (by omega)).trans ((sw_ne (by omega)).trans ((sw_ne (by omega)).trans ((sw_ne (by omega)).trans ((sw_ne (by omega)).trans ((sw_ne (by omega)).trans o10))))))) rfl ?_
  refine r_put (fs' := [aR (B + 11), aR (B + 12), aR (B + 13), aR (B + 14), aR (B + 15), aR (B + 16), aR (B + 17), aI (w 6)]) cd_29_110 rfl ((sw_ne (by omega)).trans ((sw_ne (by omega)).trans ((sw_ne (by omega)).trans ((sw_ne (by omega)).trans ((sw_ne (by omega)).trans ((sw_ne (by omega)).trans ((sw_ne (by omega)).trans p10))))))) rfl rfl ?_
  exact r_void cd_29_113 rfl (rfl)
theorem y_29 {h : aH} {A B : Nat} {w v : Nat → Int} {c d : Nat → Nat → Int} (hd : A + 18 ≤ B ∨ B + 18 ≤ A) (o10 : h.2.2 (A + 10) = .inr (2, [aR (A + 11), aR (A + 12), aR (A + 13), aR (A + 14), aR (A + 15), aR (A + 16), aR (A + 17), aI (w 6)])) (p10 : h.2.2 (B + 10) = .inr (2, [aR (B + 11), aR (B + 12), aR (B + 13), aR (B + 14), aR (B + 15), aR (B + 16), aR (B + 17), aI (v 6)])) (o11 : h.2.2 (A + 11) = .inl (0, 16, .inl (c 7))) (p11 : h.2.2 (B + 11) = .inl (0, 16, .inl (d 7))) (o12 : h.2.2 (A + 12) = .inl (0, 16, .inl (c 8))) (p12 : h.2.2 (B + 12) = .inl (0, 16, .inl (d 8))) (o13 : h.2.2 (A + 13) = .inl (0, 16, .inl (c 9))) (p13 : h.2.2 (B + 13) = .inl (0, 16, .inl (d 9))) (o14 : h.2.2 (A + 14) = .inl (0, 16, .inl (c 10))) (p14 : h.2.2 (B + 14) = .inl (0, 16, .inl (d 10))) (o15 : h.2.2 (A + 15) = .inl (0, 16, .inl (c 11))) (p15 : h.2.2 (B + 15) = .inl (0, 16, .inl (d 11))) (o16 : h.2.2 (A + 16) = .inl (0, 16, .inl (c 12))) (p16 : h.2.2 (B + 16) = .inl (0, 16, .inl (d 12))) (o17 : h.2.2 (A + 17) = .inl (0, 16, .inl (c 13))) (p17 : h.2.2 (B + 17) = .inl (0, 16, .inl (d 13))) : ∃ h', Ct 1 29 [aR (B + 10), aR (A + 10)] h (.inl none, h') ∧ (h'.2.2 (B + 11) = .inl (0, 16, .inl (va_cpy (c 7) (d 7) 0 0 16)) ∧ h'.2.2 (B + 12) = .inl (0, 16, .inl (va_cpy (c 8) (d 8) 0 0 16)) ∧ h'.2.2 (B + 13) = .inl (0, 16, .inl (va_cpy (c 9) (d 9) 0 0 16)) ∧ h'.2.2 (B + 14) = .inl (0, 16, .inl (va_cpy (c 10) (d 10) 0 0 16)) ∧ h'.2.2 (B + 15) = .inl (0, 16, .inl (va_cpy (c 11) (d 11) 0 0 16)) ∧ h'.2.2 (B + 16) = .inl (0, 16, .inl (va_cpy (c 12) (d 12) 0 0 16)) ∧ h'.2.2 (B + 17) = .inl (0, 16, .inl (va_cpy (c 13) (d 13) 0 0 16)) ∧ h'.2.2 (B + 10) = .inr (2, [aR (B + 11), aR (B + 12), aR (B + 13), aR (B + 14), aR (B + 15), aR (B + 16), aR (B + 17), aI (w 6)])) ∧ Fi (B + 10) (B + 18) h h' := by
  exact ⟨_, x_29 hd o10 p10 o11 p11 o12 p12 o13 p13 o14 p14 o15 p15 o16 p16 o17 p17, ⟨((sw_ne (by omega)).trans ((sw_ne (by omega)).trans ((sw_ne (by omega)).trans ((sw_ne (by omega)).trans ((sw_ne (by omega)).trans ((sw_ne (by omega)).trans ((sw_ne (by omega)).trans (sw_at _ _ _)))))))), ((sw_ne (by omega)).trans ((sw_ne (by omega)).trans ((sw_ne (by omega)).trans ((sw_ne (by omega)).trans ((sw_ne (by omega)).trans ((sw_ne (by omega)).trans (sw_at _ _ _))))))), ((sw_ne (by omega)).trans ((sw_ne (by omega)).trans ((sw_ne (by omega)).trans ((sw_ne (by omega)).trans ((sw_ne (by omega)).trans (sw_at _ _ _)))))), ((sw_ne (by omega)).trans ((sw_ne (by omega)).trans ((sw_ne (by omega)).trans ((sw_ne (by omega)).trans (sw_at _ _ _))))), ((sw_ne (by omega)).trans ((sw_ne (by omega)).trans ((sw_ne (by omega)).trans (sw_at _ _ _)))), ((sw_ne (by omega)).trans ((sw_ne (by omega)).trans (sw_at _ _ _))), ((sw_ne (by omega)).trans (sw_at _ _ _)), (sw_at _ _ _)⟩, ((((((((Fi.rf).sw (by omega) (by omega)).sw (by omega) (by omega)).sw (by omega) (by omega)).sw (by omega) (by omega)).sw (by omega) (by omega)).sw (by omega) (by omega)).sw (by omega) (by omega)).sw (by omega) (by omega)⟩
theorem v_100 {h : aH} {A B : Nat} {w : Nat → Int} (hR : Rp h A w) (hI : Inv0 w) (hX : Ex h B) (hd : A + 18 ≤ B ∨ B + 18 ≤ A) : ∃ h', Ct 2 100 [aR B, aR A] h (.inl none, h') ∧ Rp h' B w ∧ Fr B h h' := by
  obtain ⟨c, W, A1⟩ := hR
  obtain ⟨o0, o1, o2, o3, o4, o5, o6, o7, o8, o9, o10, o11, o12, o13, o14, o15, o16, o17⟩ := W
  obtain ⟨a0, a1, a2, a3, a4, a5, a6, a7, a8, a9, a10, a11, a12, a13, a14⟩ := A1
  obtain ⟨v, d, p0, p1, p2, p3, p4, p5, p6, p7, p8, p9, p10, p11, p12, p13, p14, p15, p16, p17⟩ := hX
  obtain ⟨h1, e1, ⟨r1_2, r1_3, r1_4, r1_1⟩, f1⟩ := y_58 hd o1 p1 o2 p2 o3 p3 o4 p4
  obtain ⟨h2, e2, ⟨r2_6, r2_7, r2_8, r2_9, r2_5⟩, f2⟩ := y_7 hd ((f1.1 _ (by omega)).trans o5) ((f1.1 _ (by omega)).trans p5) ((f1.1 _ (by omega)).trans o6) ((f1.1 _ (by omega)).trans p6) ((f1.1 _ (by omega)).trans o7) ((f1.1 _ (by omega)).trans p7) ((f1.1 _ (by omega)).trans o8) ((f1.1 _ (by omega)).trans p8) ((f1.1 _ (by omega)).trans o9) ((f1.1 _ (by omega)).trans p9)
  obtain ⟨h3, e3, ⟨r3_11, r3_12, r3_13, r3_14, r3_15, r3_16, r3_17, r3_10⟩, f3⟩ := y_29 hd ((f2.1 _ (by omega)).trans ((f1.1 _ (by omega)).trans o10)) ((f2.1 _ (by omega)).trans ((f1.1 _ (by omega)).trans p10)) ((f2.1 _ (by omega)).trans ((f1.1 _ (by omega)).trans o11)) ((f2.1 _ (by omega)).trans ((f1.1 _ (by omega)).trans p11)) ((f2.1 _ (by omega)).trans ((f1.1 _ (by omega)).trans o12)) ((f2.1 _ (by omega)).trans ((f1.1 _ (by omega)).trans p12)) ((f2.1 _ (by omega)).trans ((f1.1 _ (by omega)).trans o13)) ((f2.1 _ (by omega)).trans ((f1.1 _ (by omega)).trans p13)) ((f2.1 _ (by omega)).trans ((f1.1 _ (by omega)).trans o14)) ((f2.1 _ (by omega)).trans ((f1.1 _ (by omega)).trans p14)) ((f2.1 _ (by omega)).trans ((f1.1 _ (by omega)).trans o15)) ((f2.1 _ (by omega)).trans ((f1.1 _ (by omega)).trans p15)) ((f2.1 _ (by omega)).trans ((f1.1 _ (by omega)).trans o16)) ((f2.1 _ (by omega)).trans ((f1.1 _ (by omega)).trans p16)) ((f2.1 _ (by omega)).trans ((f1.1 _ (by omega)).trans o17)) ((f2.1 _ (by omega)).trans ((f1.1 _ (by omega)).trans p17))
  have x4 := hI.gn
  have x5 := hI.bNe
  have x6 := hI.pNe
  have Wn : Wo (sw h3 B (.inr (6, [aR (B + 1), aR (B + 5), aR (B + 10), aI (w 1), aI (w 2), aI (w 7), aI (w 8), aI (c 14 0), aI (c 14 1), aI (w 10)]))) B w (cpK c d) := ⟨(sw_at _ _ _), ((sw_ne (by omega)).trans ((f3.1 _ (by omega)).trans ((f2.1 _ (by omega)).trans r1_1))), ((sw_ne (by omega)).trans ((f3.1 _ (by omega)).trans ((f2.1 _ (by omega)).trans r1_2))), ((sw_ne (by omega)).trans ((f3.1 _ (by omega)).trans ((f2.1 _ (by omega)).trans r1_3))), ((sw_ne (by omega)).trans ((f3.1 _ (by omega)).trans ((f2.1 _ (by omega)).trans r1_4))), ((sw_ne (by omega)).trans ((f3.1 _ (by omega)).trans r2_5)), ((sw_ne (by omega)).trans ((f3.1 _ (by omega)).trans r2_6)), ((sw_ne (by omega)).trans ((f3.1 _ (by omega)).trans r2_7)), ((sw_ne (by omega)).trans ((f3.1 _ (by omega)).trans r2_8)), ((sw_ne (by omega)).trans ((f3.1 _ (by omega)).trans r2_9)), ((sw_ne (by omega)).trans r3_10), ((sw_ne (by omega)).trans r3_11), ((sw_ne (by omega)).trans r3_12), ((sw_ne (by omega)).trans r3_13), ((sw_ne (by omega)).trans r3_14), ((sw_ne (by omega)).trans r3_15), ((sw_ne (by omega)).trans r3_16), ((sw_ne (by omega)).trans r3_17)⟩
  have An : Ab (cpK c d) w := ⟨fun i hi => (cpK_at (by decide) (show i < nK 0 from hi)).trans (a0 i hi), fun i hi => (cpK_at (by decide) (show i < nK 1 from hi)).trans (a1 i hi), fun i hi => (cpK_at (by decide) (show i < 12 by omega)).trans (a2 i hi), fun b hb => (cpK_at (by decide) (show b < 8 by omega)).trans (a3 b hb), fun b hb => (cpK_at (by decide) (show b < 8 by omega)).trans (a4 b hb), fun b hb => (cpK_at (by decide) (show b < 8 by omega)).trans (a5 b hb), fun b hb => (cpK_at (by decide) (show b < 8 by omega)).trans (a6 b hb), fun p hp => (cpK_at (by decide) (show p < 16 by omega)).trans (a7 p hp), fun p hp => (cpK_at (by decide) (show p < 16 by omega)).trans (a8 p hp), fun p hp => (cpK_at (by decide) (show p < 16 by omega)).trans (a9 p hp), fun p hp => (cpK_at (by decide) (show p < 16 by omega)).trans (a10 p hp), fun p hp => (cpK_at (by decide) (show p < 16 by omega)).trans (a11 p hp), fun p hp => (cpK_at (by decide) (show p < 16 by omega)).trans (a12 p hp), fun p hp => (cpK_at (by decide) (show p < 16 by omega)).trans (a13 p hp), a14⟩
  have Fn : Fr B h h3 := ((f1.wd (by omega) (by omega)).tr (f2.wd (by omega) (by omega))).tr (f3.wd (by omega) (by omega))
  refine ⟨_, Ct.of [aR B, aR A] rfl ?_, ⟨cpK c d, Wn, An⟩, Fn.sw (by omega) (by omega)⟩
  refine r_aldR cd_100_0 rfl rfl ?_
  refine r_get cd_100_1 rfl p0 rfl ?_
  refine r_aldR cd_100_4 rfl rfl ?_
  refine r_get cd_100_5 rfl o0 rfl ?_
  refine r_cV e1 cd_100_8 rfl rfl rfl (rc0 p1 rfl) rfl rfl rfl ?_
  refine r_aldR cd_100_11 rfl rfl ?_
  refine r_get cd_100_12 rfl ((f1.1 _ (by omega)).trans p0) rfl ?_
  refine r_aldR cd_100_15 rfl rfl ?_
  refine r_get cd_100_16 rfl ((f1.1 _ (by omega)).trans o0) rfl ?_
  refine r_cV e2 cd_100_19 rfl rfl rfl (rc0 ((f1.1 _ (by omega)).trans p5) rfl) rfl rfl rfl ?_
  refine r_aldR cd_100_22 rfl rfl ?_
  refine r_get cd_100_23 rfl ((f2.1 _ (by omega)).trans ((f1.1 _ (by omega)).trans p0)) rfl ?_
  refine r_aldR cd_100_26 rfl rfl ?_
  refine r_get cd_100_27 rfl ((f2.1 _ (by omega)).trans ((f1.1 _ (by omega)).trans o0)) rfl ?_
  refine r_cV e3 cd_100_30 rfl rfl rfl (rc0 ((f2.1 _ (by omega)).trans ((f1.1 _ (by omega)).trans p10)) rfl) rfl rfl rfl ?_
  refine r_aldR cd_100_33 rfl rfl ?_
  refine r_aldR cd_100_34 rfl rfl ?_
  refine r_get cd_100_35 rfl ((f3.1 _ (by omega)).trans ((f2.1 _ (by omega)).trans ((f1.1 _ (by omega)).trans o0))) rfl ?_
  refine r_put (fs' := [aR (B + 1), aR (B + 5), aR (B + 10), aI (w 1), aI (v 2), aI (v 7), aI (v 8), aI (d 14 0), aI (d 14 1), aI (v 10)]) cd_100_38 rfl ((f3.1 _ (by omega)).trans ((f2.1 _ (by omega)).trans ((f1.1 _ (by omega)).trans p0))) rfl rfl ?_
  refine r_aldR cd_100_41 rfl rfl ?_
  refine r_aldR cd_100_42 rfl rfl ?_
  refine r_get cd_100_43 rfl ((sw_ne (by omega)).trans ((f3.1 _ (by omega)).trans ((f2.1 _ (by omega)).trans ((f1.1 _ (by omega)).trans o0)))) rfl ?_
  refine r_put (fs' := [aR (B + 1), aR (B + 5), aR (B + 10), aI (w 1), aI (w 2), aI (v 7), aI (v 8), aI (d 14 0), aI (d 14 1), aI (v 10)]) cd_100_46 rfl (sw_at _ _ _) rfl rfl ?_
  rw [sw_sw]
  refine r_aldR cd_100_49 rfl rfl ?_
  refine r_aldR cd_100_50 rfl rfl ?_
  refine r_get cd_100_51 rfl ((sw_ne (by omega)).trans ((f3.1 _ (by omega)).trans ((f2.1 _ (by omega)).trans ((f1.1 _ (by omega)).trans o0)))) rfl ?_
  refine r_put (fs' := [aR (B + 1), aR (B + 5), aR (B + 10), aI (w 1), aI (w 2), aI (w 7), aI (v 8), aI (d 14 0), aI (d 14 1), aI (v 10)]) cd_100_54 rfl (sw_at _ _ _) rfl rfl ?_
  rw [sw_sw]
  refine r_aldR cd_100_57 rfl rfl ?_
  refine r_aldR cd_100_58 rfl rfl ?_
  refine r_get cd_100_59 rfl ((sw_ne (by omega)).trans ((f3.1 _ (by omega)).trans ((f2.1 _ (by omega)).trans ((f1.1 _ (by omega)).trans o0)))) rfl ?_
  refine r_put (fs' := [aR (B + 1), aR (B + 5), aR (B + 10), aI (w 1), aI (w 2), aI (w 7), aI (w 8), aI (d 14 0), aI (d 14 1), aI (v 10)]) cd_100_62 rfl (sw_at _ _ _) rfl rfl ?_
  rw [sw_sw]
  refine r_aldR cd_100_65 rfl rfl ?_
  refine r_aldR cd_100_66 rfl rfl ?_
  refine r_get cd_100_67 rfl ((sw_ne (by omega)).trans ((f3.1 _ (by omega)).trans ((f2.1 _ (by omega)).trans ((f1.1 _ (by omega)).trans o0)))) rfl ?_
  refine r_put (fs' := [aR (B + 1), aR (B + 5), aR (B + 10), aI (w 1), aI (w 2), aI (w 7), aI (w 8), aI (c 14 0), aI (d 14 1), aI (v 10)]) cd_100_70 rfl (sw_at _ _ _) rfl rfl ?_
  rw [sw_sw]
  refine r_aldR cd_100_73 rfl rfl ?_
  refine r_aldR cd_100_74 rfl rfl ?_
  refine r_get cd_100_75 rfl ((sw_ne (by omega)).trans ((f3.1 _ (by omega)).trans ((f2.1 _ (by omega)).trans ((f1.1 _ (by omega)).trans o0)))) rfl ?_
  refine r_put (fs' := [aR (B + 1), aR (B + 5), aR (B + 10), aI (w 1), aI (w 2), aI (w 7), aI (w 8), aI (c 14 0), aI (c 14 1), aI (v 10)]) cd_100_78 rfl (sw_at _ _ _) rfl rfl ?_
  rw [sw_sw]
  refine r_aldR cd_100_81 rfl rfl ?_
  refine r_aldR cd_100_82 rfl rfl ?_
  refine r_get cd_100_83 rfl ((sw_ne (by omega)).trans ((f3.1 _ (by omega)).trans ((f2.1 _ (by omega)).trans ((f1.1 _ (by omega)).trans o0)))) rfl ?_
  refine r_put (fs' := [aR (B + 1), aR (B + 5), aR (B + 10), aI (w 1), aI (w 2), aI (w 7), aI (w 8), aI (c 14 0), aI (c 14 1), aI (w 10)]) cd_100_86 rfl (sw_at _ _ _) rfl rfl ?_
  rw [sw_sw]
  exact r_void cd_100_89 rfl (rfl)
