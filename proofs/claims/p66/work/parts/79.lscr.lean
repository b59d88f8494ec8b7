/-! THE LAW: scripts, the constructor, the means (written by wip/whole/gen79.py) -/
theorem scr_ok {h : aH} {tx tb : Nat → Int} {N : Nat} (hN : N ≤ 600) (hT : ∀ k, k < N → BT (tx k) (tb k)) (hb : TxB tx) (dp ex ek eo : Int) (hS : h.2.2 201 = SO dp ex ek eo) (hX : Ex h 204) (st nx kd vl : Int) (hO : h.2.2 202 = TO N st nx kd vl) (hB : h.2.2 203 = .inl (1, 600, .inl tb)) (hV : ∃ va, h.2.2 222 = .inl (0, 4, .inl va)) (hD : ∃ bd, h.2.2 223 = .inl (0, 2, .inl bd)) (hQ : ∃ rd, h.2.2 224 = .inl (0, 2, .inl rd)) {j ey : Nat} {u : Nat → Int} (hp : parA tx N = .inr (j, u, ey)) : ∃ h', Ct 9 34 [aR 201] h (.inl (some (aI 1)), h') ∧ (∃ dp ex, h'.2.2 201 = SO dp ex 0 (-1)) ∧ Rp h' 204 u ∧ (∃ st nx kd vl, h'.2.2 202 = TO N st nx kd vl) ∧ Ex h' 204 ∧ (∃ va, h'.2.2 222 = .inl (0, 4, .inl va)) ∧ (∃ bd, h'.2.2 223 = .inl (0, 2, .inl bd)) ∧ (∃ rd, h'.2.2 224 = .inl (0, 2, .inl rd)) ∧ NX h h' := by
  obtain ⟨h1, c1, F1⟩ := v_34 hN hT hb dp ex ek eo hS hX st nx kd vl hO hB hV hD hQ
  rw [hp] at c1 F1
  obtain ⟨⟨a1, a2⟩, a3⟩ := F1
  exact ⟨h1, c1, a1, a2, a3⟩
section LSCR
variable {h : aH} {t : Int} {g : Nat → Int64} {w : Nat → Int} {ps : List (Nat → Int)} {kp : Option (Nat → Int)} {T : Nat} {bu : Nat → Int} {ek eo : Int} {rl : Nat} {rp : Nat → Int} {s b0 as P kd tx nu : Nat → Int}
end LSCR
theorem s23n : (sT 23).length = fiN := rfl
theorem fi_bt {tb : Nat → Int} : ∀ k, k < fiN → BT (fiT k) (fbF (sT 23) 0 fiN tb k) := fun k hk => by
  rw [fbF_at, if_pos (by omega)]
  have h : 0 ≤ fiT k ∧ fiT k < 128 := sT_ch (j := 23) (by decide) (by decide)
  have e2 : byI ((sT 23).getD k 0) = fiT k := by_id h.1 h.2
  rw [e2]
  exact Or.inl ⟨h.1, h.2, rfl⟩
theorem fi_600 : fiN ≤ 600 := Nat.le_trans (sT_len (j := 23) (by decide) (by decide)) (by decide)
theorem x_106 {h : aH} (hB : h.2.2 0 = newF 7) (hq : h.2.1 = 1) (bu rp : Nat → Int) : ∃ h', Ct 10 106 [aR 0] h (.inl none, h') ∧ CR h' fiW [] none 0 bu 0 (-1) 0 rp ∧ h'.1 = h.1 ∧ h'.2.1 = 226 := by
  obtain ⟨H, cH, h0, E1, E19, E37, ⟨h55, h56, E57⟩, ⟨h201, h202, h203, E204, h222, h223, h224⟩, h225, e1, e2⟩ := i_106 hB hq
  have fl := v_60 (h := H) (N := 0) 0 0 0 0 h202 h203 23 (by decide) (by decide)
  rw [s23n] at fl
  obtain ⟨j, ey, hp⟩ := fi_ok
  have hI := fi_iz.1.1
  obtain ⟨h1, c1, ⟨dp2, ex2, s1⟩, R1, ⟨st2, nx2, kd2, vl2, o1⟩, X1, va1, bd1, rd1, N1⟩ := scr_ok (h := sw (sw H 203 (.inl (1, 600, .inl (fbF (sT 23) 0 fiN fun _ => 0)))) 202 (TO ((fiN : Nat) : Int) 0 0 0 0)) fi_600 fi_bt fi_b 0 0 0 (-1) ((sw_ne (by decide)).trans ((sw_ne (by decide)).trans h201)) (E204.mv fun a g1 g2 => (sw_ne (by omega)).trans (sw_ne (by omega))) 0 0 0 0 (sw_at _ _ _) ((sw_ne (by decide)).trans (sw_at _ _ _)) ⟨_, (sw_ne (by decide)).trans ((sw_ne (by decide)).trans h222)⟩ ⟨_, (sw_ne (by decide)).trans ((sw_ne (by decide)).trans h223)⟩ ⟨_, (sw_ne (by decide)).trans ((sw_ne (by decide)).trans h224)⟩ hp
  have fz : ∀ a, (a < 201 ∨ 225 ≤ a) → h1.2.2 a = H.2.2 a := fun a g => (N1.1 a (by omega)).trans ((sw_ne (by omega)).trans (sw_ne (by omega)))
  have k1 := (fz 0 (by omega)).trans h0
  have fa : ∀ a, ¬ a = 202 → (sw h1 202 (TO 0 st2 nx2 kd2 vl2)).2.2 a = h1.2.2 a := fun a ha => sw_ne ha
  have Ru : Rp (sw h1 202 (TO 0 st2 nx2 kd2 vl2)) 204 fiW := R1.mv fun a g1 g2 => fa a (by omega)
  have X3 : Ex (sw h1 202 (TO 0 st2 nx2 kd2 vl2)) 1 := E1.mv fun a g1 g2 => (fa a (by omega)).trans (fz a (by omega))
  obtain ⟨fs3, j9⟩ := (E1.mv (h' := h1) fun a g1 g2 => fz a (by omega)).o
  obtain ⟨h4, c4, R4, F4⟩ := v_100 Ru hI X3 (by omega)
  have fc : ∀ a, ¬ a = 202 → (a = 0 ∨ 19 ≤ a) → h4.2.2 a = h1.2.2 a := fun a g1 g2 => (F4.1 a (by omega)).trans (fa a g1)
  have fd : ∀ a, (a = 0 ∨ 19 ≤ a) → (a < 201 ∨ 225 ≤ a) → h4.2.2 a = H.2.2 a := fun a g1 g2 => (fc a (by omega) g1).trans (fz a g2)
  refine ⟨h4, Ct.of [aR 0] rfl (cH _ ?_), ⟨(fd 0 (by decide) (by decide)).trans h0, R4, E19.mv fun a g1 g2 => fd a (by omega) (by omega), E37.mv fun a g1 g2 => fd a (by omega) (by omega), ⟨0, by decide, (fd 55 (by decide) (by decide)).trans h55, h56.imp fun _ e => ⟨(fd 56 (by decide) (by decide)).trans e.1, e.2⟩, fun i hi => (E57 i hi).mv fun a g1 g2 => fd a (by omega) (by omega), fun q u hq => by cases hq⟩, ⟨⟨dp2, ex2, (fc _ (by decide) (by decide)).trans s1⟩, ⟨st2, nx2, kd2, vl2, (F4.1 202 (by omega)).trans (sw_at _ _ _)⟩, ⟨_, (fc _ (by decide) (by decide)).trans ((N1.1 203 (by decide)).trans ((sw_ne (by decide)).trans (sw_at _ _ _))), fun k hk => by omega⟩, X1.mv fun a g1 g2 => fc a (by omega) (by omega), va1.imp fun _ e => (fc _ (by decide) (by decide)).trans e, bd1.imp fun _ e => (fc _ (by decide) (by decide)).trans e, rd1.imp fun _ e => (fc _ (by decide) (by decide)).trans e⟩, ⟨_, (fd 225 (by decide) (by decide)).trans h225, fun k hk => by omega⟩⟩, F4.2.1.trans (N1.2.1.trans e1), F4.2.2.trans (N1.2.2.trans e2)⟩
  refine r_aldR cd_106_77 rfl rfl ?_
  refine r_get cd_106_78 rfl h0 rfl ?_
  refine r_get cd_106_81 rfl h201 rfl ?_
  refine r_cst cd_106_84 rfl ?_
  refine r_cV fl cd_106_86 rfl rfl rfl (rc0 h202 rfl) rfl rfl rfl ?_
  refine r_aldR cd_106_89 rfl rfl ?_
  refine r_get cd_106_90 rfl ((sw_ne (by decide)).trans ((sw_ne (by decide)).trans h0)) rfl ?_
  refine r_cI c1 cd_106_93 rfl rfl rfl (rc0 ((sw_ne (by decide)).trans ((sw_ne (by decide)).trans h201)) rfl) rfl rfl rfl ?_
  refine r_pop cd_106_96 rfl rfl ?_
  refine r_aldR cd_106_97 rfl rfl ?_
  refine r_get cd_106_98 rfl k1 rfl ?_
  refine r_get cd_106_101 rfl s1 rfl ?_
  refine r_con (v := 0) cd_106_104 rfl (by decide) ?_
  refine r_cV (v_72 st2 nx2 kd2 vl2 o1 0) cd_106_105 rfl rfl rfl (rc0 o1 rfl) rfl rfl rfl ?_
  refine r_aldR cd_106_108 rfl rfl ?_
  refine r_get cd_106_109 rfl ((sw_ne (by decide)).trans k1) rfl ?_
  refine r_aldR cd_106_112 rfl rfl ?_
  refine r_get cd_106_113 rfl ((sw_ne (by decide)).trans k1) rfl ?_
  refine r_get cd_106_116 rfl ((sw_ne (by decide)).trans s1) rfl ?_
  refine r_cV c4 cd_106_119 rfl rfl rfl (rc0 ((sw_ne (by decide)).trans j9) rfl) rfl rfl rfl ?_
  exact r_void cd_106_122 rfl (rfl)
section LMEAN
variable {h : aH} {t : Int} {g : Nat → Int64} {w : Nat → Int} {ps : List (Nat → Int)} {kp : Option (Nat → Int)} {T : Nat} {bu : Nat → Int} {ek eo : Int} {rl : Nat} {rp : Nat → Int} {s b0 as P kd tx nu : Nat → Int}
end LMEAN
