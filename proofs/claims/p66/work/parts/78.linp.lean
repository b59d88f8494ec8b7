section LINP
variable {h : aH} {t : Int} {g : Nat → Int64} {w : Nat → Int} {ps : List (Nat → Int)} {kp : Option (Nat → Int)} {T : Nat} {bu : Nat → Int} {ek eo : Int} {rl : Nat} {rp : Nat → Int} {s b0 as P kd tx nu : Nat → Int}
theorem CH.tak {h : aH} {v : Nat → Int} {r : List (Nat → Int)} (H : CH h (v :: r)) (hl : r.length < 8) (hX : Ex h 1) (hI : Inv0 v) : ∃ h', Ct 3 13 [aR 55, aR 1] h (.inl none, h') ∧ Rp h' 1 v ∧ CH h' r ∧ (∀ a, (a < 1 ∨ 19 ≤ a) → (a < 55 ∨ 201 ≤ a) → h'.2.2 a = h.2.2 a) ∧ h'.1 = h.1 ∧ h'.2.1 = h.2.1 := by
  obtain ⟨lt, hlt, hO, ⟨f, hF, hf⟩, hX8, hV⟩ := H
  have R0 := hV 0 v rfl
  rw [show (lt + 8 - 0) % 8 = lt by omega] at R0
  obtain ⟨h', c1, o1, R1, F1, e1, e2⟩ := v_13 lt (r.length + 1) hlt (by omega) hO hF hf R0 hI hX ((lt + 7) % 8) rfl r.length rfl
  refine ⟨h', c1, R1, ⟨(lt + 7) % 8, by omega, o1, ⟨f, (F1 56 (by omega) (by omega)).trans hF, hf⟩, fun i hi => (hX8 i hi).mv fun a g1 g2 => F1 a (by omega) (by omega), fun q u hq => ?_⟩, fun a g1 g2 => F1 a (by omega) g1, e1, e2⟩
  have hl2 : q < r.length := by
    rcases Nat.lt_or_ge q r.length with h | h
    · exact h
    · rw [List.getElem?_eq_none h] at hq; cases hq
  have R2 := hV (q + 1) u (by rw [List.getElem?_cons_succ]; exact hq)
  rw [show ((lt + 7) % 8 + 8 - q) % 8 = (lt + 8 - (q + 1)) % 8 by omega]
  exact R2.mv fun a g1 g2 => F1 a (by omega) (by omega)
theorem x_109 {v : Nat → Int} {r : List (Nat → Int)} (C : CR h w (v :: r) kp T bu ek eo rl rp) (hl : r.length < 8) (hI : Inv0 v) : ∃ h', Ct 4 109 [aR 0] h (.inl (some (aI ((r.length : Nat) : Int))), h') ∧ CR h' v r kp T bu ek eo rl rp ∧ Fc h h' := by
  obtain ⟨h0, hR, hK, hT, hH, hS, ⟨rb, hB, hb⟩⟩ := id C
  obtain ⟨fs, q9⟩ := hR.o
  obtain ⟨h1, c1, R1, H1, F1, e1, e2⟩ := hH.tak hl hR.ex hI
  obtain ⟨lt, hlt, h55, -⟩ := id hH
  have h55 : h.2.2 55 = .inr (1, [aR 56, aI ((lt : Nat) : Int), aI ((r.length + 1 : Nat) : Int)]) := h55
  obtain ⟨lt2, hlt2, k55, -⟩ := id H1
  have k0 := (F1 0 (by omega) (by omega)).trans h0
  refine ⟨h1, Ct.of [aR 0] rfl ?_, ⟨k0, R1, hK.mv fun a g1 g2 => F1 a (by omega) (by omega), hT.mv fun a g1 g2 => F1 a (by omega) (by omega), H1, hS.mv fun a g1 g2 => F1 a (by omega) (by omega), ⟨rb, (F1 225 (by omega) (by omega)).trans hB, hb⟩⟩, ⟨fun a ha => F1 a (by omega) (by omega), e1, e2⟩⟩
  refine r_aldR cd_109_0 rfl rfl ?_
  refine r_get cd_109_1 rfl h0 rfl ?_
  refine r_get cd_109_4 rfl h55 rfl ?_
  refine r_if52 cd_109_7 rfl ⟨by omega, by omega⟩ (fun n1 => ?_) (fun n1 => ?_)
  · exact absurd n1 (by omega)
  · refine r_aldR cd_109_12 rfl rfl ?_
    refine r_get cd_109_13 rfl h0 rfl ?_
    refine r_aldR cd_109_16 rfl rfl ?_
    refine r_get cd_109_17 rfl h0 rfl ?_
    refine r_cV c1 cd_109_20 rfl rfl rfl (rc0 h55 rfl) rfl rfl rfl ?_
    refine r_aldR cd_109_23 rfl rfl ?_
    refine r_get cd_109_24 rfl k0 rfl ?_
    refine r_get cd_109_27 rfl k55 rfl ?_
    exact r_ret cd_109_30 True.intro (rfl)
theorem x_111 (C : CR h w ps kp T bu ek eo rl rp) (hI : Inv0 w) : ∃ h', Ct 3 111 [aR 0] h (.inl (some (aI (w 1))), h') ∧ CR h' w ps (some w) T bu ek eo rl rp ∧ Fc h h' := by
  obtain ⟨h0, hR, hK, hT, hH, hS, ⟨rb, hB, hb⟩⟩ := id C
  obtain ⟨fs, q9⟩ := hR.o
  have hX : Ex h 19 := by
    rcases kp with _ | v
    · exact hK
    · exact Rp.ex hK
  obtain ⟨gs, o9⟩ := hX.o
  obtain ⟨h1, c1, R1, F1⟩ := v_100 hR hI hX (by omega)
  have k0 := (F1.1 0 (by omega)).trans h0
  have S1 : Rp h1 1 w := hR.mv fun a g1 g2 => F1.1 a (by omega)
  obtain ⟨c, ⟨p0, p1, p2, p3, p4, p5, p6, p7, p8, p9, p10, p11, p12, p13, p14, p15, p16, p17⟩, q0, q1, q2, q3, q4, q5, q6, q7, q8, q9, q10, q11, q12, q13, q14⟩ := id S1
  have fa : ∀ a, ¬ a = 0 → (a < 19 ∨ 37 ≤ a) → (sw h1 0 (.inr (7, [aR 1, aR 19, aR 37, aR 55, aR 201, aR 225, aI ((rl : Nat) : Int), aI 1]))).2.2 a = h.2.2 a := fun a g1 g2 => (sw_ne g1).trans (F1.1 a (by omega))
  refine ⟨sw h1 0 (.inr (7, [aR 1, aR 19, aR 37, aR 55, aR 201, aR 225, aI ((rl : Nat) : Int), aI 1])), Ct.of [aR 0] rfl ?_, ⟨sw_at _ _ _, hR.mv fun a g1 g2 => fa a (by omega) (by omega), R1.mv fun a g1 g2 => sw_ne (by omega), hT.mv fun a g1 g2 => fa a (by omega) (by omega), hH.mv fun a g1 g2 => fa a (by omega) (by omega), hS.mv fun a g1 g2 => fa a (by omega) (by omega), ⟨rb, (fa 225 (by omega) (by omega)).trans hB, hb⟩⟩, ⟨fun a ha => fa a (by omega) (by omega), F1.2.1, F1.2.2⟩⟩
  refine r_aldR cd_111_0 rfl rfl ?_
  refine r_get cd_111_1 rfl h0 rfl ?_
  refine r_aldR cd_111_4 rfl rfl ?_
  refine r_get cd_111_5 rfl h0 rfl ?_
  refine r_cV c1 cd_111_8 rfl rfl rfl (rc0 o9 rfl) rfl rfl rfl ?_
  refine r_aldR cd_111_11 rfl rfl ?_
  refine r_con (v := 1) cd_111_12 rfl (by decide) ?_
  refine r_put (fs' := [aR 1, aR 19, aR 37, aR 55, aR 201, aR 225, aI ((rl : Nat) : Int), aI 1]) cd_111_13 rfl k0 rfl rfl ?_
  refine r_aldR cd_111_16 rfl rfl ?_
  refine r_get cd_111_17 rfl (sw_at _ _ _) rfl ?_
  refine r_get cd_111_20 rfl ((sw_ne (by decide)).trans p0) rfl ?_
  exact r_ret cd_111_23 True.intro (rfl)
theorem x_149 {v : Nat → Int} (C : CR h w ps (some v) T bu ek eo rl rp) (hI : Inv0 v) : ∃ h', Ct 3 149 [aR 0] h (.inl (some (aI (v 1))), h') ∧ CR h' v [] (some v) T bu ek eo rl rp ∧ Fc h h' := by
  obtain ⟨h0, hR, hK, hT, ⟨lt, hlt, h55, hF, hX, -⟩, hS, ⟨rb, hB, hb⟩⟩ := id C
  have h0 : h.2.2 0 = .inr (7, [aR 1, aR 19, aR 37, aR 55, aR 201, aR 225, aI ((rl : Nat) : Int), aI 1]) := h0
  have hK : Rp h 19 v := hK
  obtain ⟨fs, z9⟩ := hR.o
  obtain ⟨gs, o9⟩ := hK.o
  obtain ⟨h1, c1, R1, F1⟩ := v_100 hK hI hR.ex (by omega)
  have k0 := (F1.1 0 (by omega)).trans h0
  have k55 := (F1.1 55 (by omega)).trans h55
  obtain ⟨c, ⟨p0, p1, p2, p3, p4, p5, p6, p7, p8, p9, p10, p11, p12, p13, p14, p15, p16, p17⟩, q0, q1, q2, q3, q4, q5, q6, q7, q8, q9, q10, q11, q12, q13, q14⟩ := id R1
  have fa : ∀ a, ¬ a = 55 → (a < 1 ∨ 19 ≤ a) → (sw h1 55 (.inr (1, [aR 56, aI ((lt : Nat) : Int), aI 0]))).2.2 a = h.2.2 a := fun a g1 g2 => (sw_ne g1).trans (F1.1 a (by omega))
  refine ⟨sw h1 55 (.inr (1, [aR 56, aI ((lt : Nat) : Int), aI 0])), Ct.of [aR 0] rfl ?_, ⟨(fa 0 (by decide) (by decide)).trans h0, R1.mv fun a g1 g2 => sw_ne (by omega), hK.mv fun a g1 g2 => fa a (by omega) (by omega), hT.mv fun a g1 g2 => fa a (by omega) (by omega), ⟨lt, hlt, sw_at _ _ _, hF.imp fun _ e => ⟨(fa 56 (by decide) (by decide)).trans e.1, e.2⟩, fun i hi => (hX i hi).mv fun a g1 g2 => fa a (by omega) (by omega), fun q u hq => by cases hq⟩, hS.mv fun a g1 g2 => fa a (by omega) (by omega), ⟨rb, (fa 225 (by omega) (by omega)).trans hB, hb⟩⟩, ⟨fun a ha => fa a (by omega) (by omega), F1.2.1, F1.2.2⟩⟩
  refine r_aldR cd_149_0 rfl rfl ?_
  refine r_get cd_149_1 rfl h0 rfl ?_
  refine r_if52 cd_149_4 rfl ⟨by omega, by omega⟩ (fun n1 => ?_) (fun n1 => ?_)
  · exact absurd n1 (by decide)
  · refine r_aldR cd_149_17 rfl rfl ?_
    refine r_get cd_149_18 rfl h0 rfl ?_
    refine r_aldR cd_149_21 rfl rfl ?_
    refine r_get cd_149_22 rfl h0 rfl ?_
    refine r_cV c1 cd_149_25 rfl rfl rfl (rc0 z9 rfl) rfl rfl rfl ?_
    refine r_aldR cd_149_28 rfl rfl ?_
    refine r_get cd_149_29 rfl k0 rfl ?_
    refine r_cV (v_14 _ _ k55) cd_149_32 rfl rfl rfl (rc0 k55 rfl) rfl rfl rfl ?_
    refine r_aldR cd_149_35 rfl rfl ?_
    refine r_get cd_149_36 rfl ((sw_ne (by decide)).trans k0) rfl ?_
    refine r_get cd_149_39 rfl ((sw_ne (by decide)).trans p0) rfl ?_
    exact r_ret cd_149_42 True.intro (rfl)
end LINP
