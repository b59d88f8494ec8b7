/-! THE LAW: scripts, the constructor, the means (written by wip/whole/gen79.py) -/
theorem scr_ok {h : aH} {tx tb : Nat → Int} {N : Nat} (hN : N ≤ 600) (hT : ∀ k, k < N → BT (tx k) (tb k)) (hb : TxB tx) (dp ex ek eo : Int) (hS : h.2.2 201 = SO dp ex ek eo) (hX : Ex h 204) (st nx kd vl : Int) (hO : h.2.2 202 = TO N st nx kd vl) (hB : h.2.2 203 = .inl (1, 600, .inl tb)) (hV : ∃ va, h.2.2 222 = .inl (0, 4, .inl va)) (hD : ∃ bd, h.2.2 223 = .inl (0, 2, .inl bd)) (hQ : ∃ rd, h.2.2 224 = .inl (0, 2, .inl rd)) {j ey : Nat} {u : Nat → Int} (hp : parA tx N = .inr (j, u, ey)) : ∃ h', Ct 9 34 [aR 201] h (.inl (some (aI 1)), h') ∧ (∃ dp ex, h'.2.2 201 = SO dp ex 0 (-1)) ∧ Rp h' 204 u ∧ (∃ st nx kd vl, h'.2.2 202 = TO N st nx kd vl) ∧ Ex h' 204 ∧ (∃ va, h'.2.2 222 = .inl (0, 4, .inl va)) ∧ (∃ bd, h'.2.2 223 = .inl (0, 2, .inl bd)) ∧ (∃ rd, h'.2.2 224 = .inl (0, 2, .inl rd)) ∧ NX h h' := by
  obtain ⟨h1, c1, F1⟩ := v_34 hN hT hb dp ex ek eo hS hX st nx kd vl hO hB hV hD hQ
  rw [hp] at c1 F1
  obtain ⟨⟨a1, a2⟩, a3⟩ := F1
  exact ⟨h1, c1, a1, a2, a3⟩
theorem scr_no {h : aH} {tx tb : Nat → Int} {N : Nat} (hN : N ≤ 600) (hT : ∀ k, k < N → BT (tx k) (tb k)) (hb : TxB tx) (dp ex ek eo : Int) (hS : h.2.2 201 = SO dp ex ek eo) (hX : Ex h 204) (st nx kd vl : Int) (hO : h.2.2 202 = TO N st nx kd vl) (hB : h.2.2 203 = .inl (1, 600, .inl tb)) (hV : ∃ va, h.2.2 222 = .inl (0, 4, .inl va)) (hD : ∃ bd, h.2.2 223 = .inl (0, 2, .inl bd)) (hQ : ∃ rd, h.2.2 224 = .inl (0, 2, .inl rd)) {e : Er} (hp : parA tx N = .inl e) : ∃ h', Ct 9 34 [aR 201] h (.inl (some (aI 0)), h') ∧ (∃ dp ex, h'.2.2 201 = SO dp ex e.1 e.2) ∧ (∃ st nx kd vl, h'.2.2 202 = TO N st nx kd vl) ∧ Ex h' 204 ∧ (∃ va, h'.2.2 222 = .inl (0, 4, .inl va)) ∧ (∃ bd, h'.2.2 223 = .inl (0, 2, .inl bd)) ∧ (∃ rd, h'.2.2 224 = .inl (0, 2, .inl rd)) ∧ NX h h' := by
  obtain ⟨h1, c1, F1⟩ := v_34 hN hT hb dp ex ek eo hS hX st nx kd vl hO hB hV hD hQ
  rw [hp] at c1 F1
  obtain ⟨a1, a3⟩ := F1
  exact ⟨h1, c1, a1, a3⟩
section LSCR
variable {h : aH} {t : Int} {g : Nat → Int64} {w : Nat → Int} {ps : List (Nat → Int)} {kp : Option (Nat → Int)} {T : Nat} {bu : Nat → Int} {ek eo : Int} {rl : Nat} {rp : Nat → Int} {s b0 as P kd tx nu : Nat → Int}
theorem z_108 (C : CR h w ps kp T bu ek eo rl rp) (hT6 : T ≤ 600) (hx : ∀ k, k < T → tx k = bu k) (hb : TxB tx) {e : Er} (hp : parA tx T = .inl e) : ∃ h', Ct 10 108 [aR 0] h (.inl (some (aI (-1))), h') ∧ CR h' w ps kp 0 bu e.1 e.2 rl rp ∧ Fc h h' := by
  obtain ⟨h0, hR, hK, hT, hH, ⟨⟨dp, ex, hS1⟩, ⟨st, nx, kd9, vl, hO⟩, ⟨tb, hB, hbt⟩, hX4, hva, hbd, hrd⟩, hrb⟩ := id C
  obtain ⟨h1, c1, ⟨dp2, ex2, s1⟩, ⟨st2, nx2, kd2, vl2, o1⟩, X1, va1, bd1, rd1, N1⟩ := scr_no hT6 (tx := tx) (tb := tb) (fun k hk => by rw [hx k hk]; exact hbt k hk) hb dp ex ek eo hS1 hX4 st nx kd9 vl hO hB hva hbd hrd hp
  have k1 := (N1.1 0 (by omega)).trans h0
  have fa : ∀ a, ¬ a = 202 → (sw h1 202 (TO 0 st2 nx2 kd2 vl2)).2.2 a = h1.2.2 a := fun a ha => sw_ne ha
  have fb : ∀ a, ¬ a = 202 → (a < 201 ∨ a = 203 ∨ 225 ≤ a) → (sw h1 202 (TO 0 st2 nx2 kd2 vl2)).2.2 a = h.2.2 a := fun a g1 g2 => (fa a g1).trans (N1.1 a g2)
  refine ⟨sw h1 202 (TO 0 st2 nx2 kd2 vl2), Ct.of [aR 0, aU] rfl ?_, ⟨(fa 0 (by decide)).trans k1, hR.mv fun a g1 g2 => fb a (by omega) (by omega), hK.mv fun a g1 g2 => fb a (by omega) (by omega), hT.mv fun a g1 g2 => fb a (by omega) (by omega), hH.mv fun a g1 g2 => fb a (by omega) (by omega), ⟨⟨dp2, ex2, (fa _ (by decide)).trans s1⟩, ⟨st2, nx2, kd2, vl2, sw_at _ _ _⟩, ⟨tb, (fb _ (by decide) (by decide)).trans hB, fun k hk => by omega⟩, X1.mv fun a g1 g2 => fa a (by omega), va1.imp fun _ e => (fa _ (by decide)).trans e, bd1.imp fun _ e => (fa _ (by decide)).trans e, rd1.imp fun _ e => (fa _ (by decide)).trans e⟩, hrb.imp fun _ e => ⟨(fb _ (by decide) (by decide)).trans e.1, e.2⟩⟩, ⟨fun a ha => fb a (by omega) (by omega), N1.2⟩⟩
  refine r_aldR cd_108_0 rfl rfl ?_
  refine r_get cd_108_1 rfl h0 rfl ?_
  refine r_cI c1 cd_108_4 rfl rfl rfl (rc0 hS1 rfl) rfl rfl rfl ?_
  refine r_ist cd_108_7 rfl rfl (L' := [aR 0, aI 0]) rfl ?_
  refine r_aldR cd_108_8 rfl rfl ?_
  refine r_get cd_108_9 rfl k1 rfl ?_
  refine r_get cd_108_12 rfl s1 rfl ?_
  refine r_con (v := 0) cd_108_15 rfl (by decide) ?_
  refine r_cV (v_72 st2 nx2 kd2 vl2 o1 0) cd_108_16 rfl rfl rfl (rc0 o1 rfl) rfl rfl rfl ?_
  refine r_ild cd_108_19 rfl rfl ?_
  refine r_if52 cd_108_20 rfl ⟨by omega, by omega⟩ (fun n1 => ?_) (fun n1 => ?_)
  · refine r_con (v := (-1)) cd_108_23 rfl (by decide) ?_
    exact r_ret cd_108_24 True.intro (rfl)
  · exact absurd n1 (by decide)
theorem x_108 (C : CR h w ps kp T bu ek eo rl rp) (hT6 : T ≤ 600) (hx : ∀ k, k < T → tx k = bu k) (hb : TxB tx) (hI : Inv0 w) (hl8 : ps.length ≤ 8) {j ey : Nat} {u : Nat → Int} (hp : parA tx T = .inr (j, u, ey)) : ∃ h', Ct 10 108 [aR 0] h (.inl (some (aI (u 6))), h') ∧ CR h' u (pus w ps) kp 0 bu 0 (-1) rl rp ∧ Fc h h' := by
  obtain ⟨h0, hR, hK, hT, hH, ⟨⟨dp, ex, hS1⟩, ⟨st, nx, kd9, vl, hO⟩, ⟨tb, hB, hbt⟩, hX4, hva, hbd, hrd⟩, hrb⟩ := id C
  have hIu : Inv0 u := (parA_iz hp).1.1
  obtain ⟨h1, c1, ⟨dp2, ex2, s1⟩, R1, ⟨st2, nx2, kd2, vl2, o1⟩, X1, va1, bd1, rd1, N1⟩ := scr_ok hT6 (tx := tx) (tb := tb) (fun k hk => by rw [hx k hk]; exact hbt k hk) hb dp ex ek eo hS1 hX4 st nx kd9 vl hO hB hva hbd hrd hp
  have k1 := (N1.1 0 (by omega)).trans h0
  have fa : ∀ a, ¬ a = 202 → (sw h1 202 (TO 0 st2 nx2 kd2 vl2)).2.2 a = h1.2.2 a := fun a ha => sw_ne ha
  have fb : ∀ a, ¬ a = 202 → (a < 201 ∨ a = 203 ∨ 225 ≤ a) → (sw h1 202 (TO 0 st2 nx2 kd2 vl2)).2.2 a = h.2.2 a := fun a g1 g2 => (fa a g1).trans (N1.1 a g2)
  have Rw1 : Rp h1 1 w := hR.mv fun a g1 g2 => N1.1 a (by omega)
  obtain ⟨fs1, k9⟩ := Rw1.o
  obtain ⟨lt1, hlt1, k55, -⟩ := id hH
  have k55 := (N1.1 55 (by omega)).trans k55
  obtain ⟨h3, c3, H3, F3, z3, y3⟩ := (hH.mv (h' := sw h1 202 (TO 0 st2 nx2 kd2 vl2)) fun a g1 g2 => fb a (by omega) (by omega)).rem hl8 (hR.mv fun a g1 g2 => fb a (by omega) (by omega)) hI
  have k3 := (F3 0 (by omega)).trans ((fa 0 (by decide)).trans k1)
  have s3 := (F3 201 (by omega)).trans ((fa 201 (by decide)).trans s1)
  have o3 := (F3 202 (by omega)).trans (sw_at h1 202 (TO 0 st2 nx2 kd2 vl2))
  have Rw3 : Rp h3 1 w := (hR.mv (h' := sw h1 202 (TO 0 st2 nx2 kd2 vl2)) fun a g1 g2 => fb a (by omega) (by omega)).mv fun a g1 g2 => F3 a (by omega)
  have Ru3 : Rp h3 204 u := (R1.mv (h' := sw h1 202 (TO 0 st2 nx2 kd2 vl2)) fun a g1 g2 => fa a (by omega)).mv fun a g1 g2 => F3 a (by omega)
  obtain ⟨fs3, j9⟩ := Rw3.o
  obtain ⟨h4, c4, R4, F4⟩ := v_100 Ru3 hIu Rw3.ex (by omega)
  have k4 := (F4.1 0 (by omega)).trans k3
  obtain ⟨c, ⟨p0, p1, p2, p3, p4, p5, p6, p7, p8, p9, p10, p11, p12, p13, p14, p15, p16, p17⟩, q0, q1, q2, q3, q4, q5, q6, q7, q8, q9, q10, q11, q12, q13, q14⟩ := id R4
  have fc : ∀ a, ¬ a = 202 → (a = 0 ∨ 19 ≤ a) → (a < 55 ∨ 201 ≤ a) → h4.2.2 a = h1.2.2 a := fun a g1 g2 g3 => (F4.1 a (by omega)).trans ((F3 a (by omega)).trans (fa a g1))
  have fd : ∀ a, ¬ a = 202 → (a = 0 ∨ 19 ≤ a) → (a < 55 ∨ a = 203 ∨ 225 ≤ a) → h4.2.2 a = h.2.2 a := fun a g1 g2 g3 => (fc a g1 g2 (by omega)).trans (N1.1 a (by omega))
  refine ⟨h4, Ct.of [aR 0, aU] rfl ?_, ⟨k4, R4, hK.mv fun a g1 g2 => fd a (by omega) (by omega) (by omega), hT.mv fun a g1 g2 => fd a (by omega) (by omega) (by omega), H3.mv fun a g1 g2 => F4.1 a (by omega), ⟨⟨dp2, ex2, (fc _ (by decide) (by decide) (by decide)).trans s1⟩, ⟨st2, nx2, kd2, vl2, (F4.1 202 (by omega)).trans o3⟩, ⟨tb, (fd _ (by decide) (by decide) (by decide)).trans hB, fun k hk => by omega⟩, X1.mv fun a g1 g2 => fc a (by omega) (by omega) (by omega), va1.imp fun _ e => (fc _ (by decide) (by decide) (by decide)).trans e, bd1.imp fun _ e => (fc _ (by decide) (by decide) (by decide)).trans e, rd1.imp fun _ e => (fc _ (by decide) (by decide) (by decide)).trans e⟩, hrb.imp fun _ e => ⟨(fd _ (by decide) (by decide) (by decide)).trans e.1, e.2⟩⟩, ⟨fun a ha => fd a (by omega) (by omega) (by omega), F4.2.1.trans (z3.trans N1.2.1), F4.2.2.trans (y3.trans N1.2.2)⟩⟩
  refine r_aldR cd_108_0 rfl rfl ?_
  refine r_get cd_108_1 rfl h0 rfl ?_
  refine r_cI c1 cd_108_4 rfl rfl rfl (rc0 hS1 rfl) rfl rfl rfl ?_
  refine r_ist cd_108_7 rfl rfl (L' := [aR 0, aI 1]) rfl ?_
  refine r_aldR cd_108_8 rfl rfl ?_
  refine r_get cd_108_9 rfl k1 rfl ?_
  refine r_get cd_108_12 rfl s1 rfl ?_
  refine r_con (v := 0) cd_108_15 rfl (by decide) ?_
  refine r_cV (v_72 st2 nx2 kd2 vl2 o1 0) cd_108_16 rfl rfl rfl (rc0 o1 rfl) rfl rfl rfl ?_
  refine r_ild cd_108_19 rfl rfl ?_
  refine r_if52 cd_108_20 rfl ⟨by omega, by omega⟩ (fun n1 => ?_) (fun n1 => ?_)
  · exact absurd n1 (by decide)
  · refine r_aldR cd_108_25 rfl rfl ?_
    refine r_get cd_108_26 rfl ((sw_ne (by decide)).trans k1) rfl ?_
    refine r_aldR cd_108_29 rfl rfl ?_
    refine r_get cd_108_30 rfl ((sw_ne (by decide)).trans k1) rfl ?_
    refine r_cV c3 cd_108_33 rfl rfl rfl (rc0 ((sw_ne (by decide)).trans k55) rfl) rfl rfl rfl ?_
    refine r_aldR cd_108_36 rfl rfl ?_
    refine r_get cd_108_37 rfl k3 rfl ?_
    refine r_aldR cd_108_40 rfl rfl ?_
    refine r_get cd_108_41 rfl k3 rfl ?_
    refine r_get cd_108_44 rfl s3 rfl ?_
    refine r_cV c4 cd_108_47 rfl rfl rfl (rc0 j9 rfl) rfl rfl rfl ?_
    refine r_aldR cd_108_50 rfl rfl ?_
    refine r_get cd_108_51 rfl k4 rfl ?_
    refine r_get cd_108_54 rfl p0 rfl ?_
    refine r_get cd_108_57 rfl p10 rfl ?_
    exact r_ret cd_108_60 True.intro (rfl)
theorem l_2 (J : JJ h t g w ps kp T bu ek eo rl rp) : AP 10 108 17 251 [] h := by
  obtain ⟨C, ⟨s, b0, as, P, kd, tx, nu, M, S⟩, W, O⟩ := J
  have hI := W.1.1.1
  obtain ⟨h0, hR, -⟩ := id C
  have hT6 := W.2.2.2.2.1
  have hbu := W.2.2.2.2.2.1
  obtain ⟨a1, a2, a3, a4, a5, a6, a7, a8, a9, a10⟩ := id S
  have hx : ∀ k, k < T → cpF bu 0 0 0 T tx k = bu k := fun k hk => by rw [cpF_at, if_pos (by omega), show 0 + (k - 0) = k by omega]
  have hb : TxB (cpF bu 0 0 0 T tx) := cp_txb hbu a8
  have Q := fun (h1 : aH) (e : MC h1 s w b0 as P kd bu tx rp nu) => q_251 e.1 e.2.1 e.2.2.1 e.2.2.2.2.1 e.2.2.2.2.2.2.1 e.2.2.2.2.2.2.2.1 e.2.2.2.2.2.2.2.2.2 W.1.2 hbu a8 T a3 hT6 ps.length a1 W.2.1
  generalize cpF bu 0 0 0 T tx = tz at hx hb Q
  rcases hD : parA tz T with e | ⟨j, u, ey⟩
  · obtain ⟨h1, c1, C1, F1⟩ := z_108 C hT6 hx hb hD
    have MH := M.mv (h' := h1) fun a h1 h2 => F1.1 a h1
    have q := Q h1 MH
    rw [hD] at q
    obtain ⟨h2, s2, nu2, c2, ⟨r1, r2, r3, r4, r5, r6, r7, r8, r9⟩, e1, e2, e3, e4, e5⟩ := q
    obtain ⟨m1, m2, m3, m4, m5, m6, m7, m8, m9, m10⟩ := MH
    exact ⟨h1, h2, -1, 0, g, w, ps, kp, 0, bu, e.1, e.2, rl, rp, c1, ⟨s, m1⟩, c2, ⟨C1.mv fun a ha => r7 a (by omega), ⟨s2, _, as, P, kd, tz, nu2, ⟨r1, r2, r3, (r7 _ (by decide)).trans m4, r4, (r7 _ (by decide)).trans m6, (r7 _ (by decide)).trans m7, r5, (r7 _ (by decide)).trans m9, r6⟩, ⟨(e5 5 (by decide)).trans a1, (e5 6 (by decide)).trans a2, e3, e1, e2, (e5 14 (by decide)).trans a6, e4, hb, a9, a10⟩⟩, ⟨W.1, W.2.1, W.2.2.1, W.2.2.2.1, by omega, hbu, W.2.2.2.2.2.2⟩, (r7 _ (by decide)).trans ((F1.1 236 (by decide)).trans O)⟩, r8.trans F1.2.1, F1.2.1⟩
  · obtain ⟨h1, c1, C1, F1⟩ := x_108 C hT6 hx hb hI W.2.1 hD
    have MH := M.mv (h' := h1) fun a h1 h2 => F1.1 a h1
    have q := Q h1 MH
    rw [hD] at q
    obtain ⟨h2, s2, nu2, P2, c2, ⟨r1, r2, r3, r4, r5, r6, r7, r8, r9⟩, e1, e2, e3, e4, e5, e6, e7⟩ := q
    obtain ⟨m1, m2, m3, m4, m5, m6, m7, m8, m9, m10⟩ := MH
    have S2 := S.rem (w := w) (b0 := b0) (s' := va_up (va_up s 15 0) 5 (s2 5)) (P' := P2) W.2.1 ⟨(vu_at _ _ _).trans e5, fun j hj => vu_ne hj, e6⟩
    obtain ⟨t1, -, -, -, -, -, -, -, t9, -⟩ := S2
    have hz := parA_iz hD
    exact ⟨h1, h2, u 6, 0, g, u, pus w ps, kp, 0, bu, 0, -1, rl, rp, c1, ⟨s, m1⟩, c2, ⟨C1.mv fun a ha => r7 a (by omega), ⟨s2, _, as, P2, kd, tz, nu2, ⟨r1, r2, r3, (r7 _ (by decide)).trans m4, r4, (r7 _ (by decide)).trans m6, (r7 _ (by decide)).trans m7, r5, (r7 _ (by decide)).trans m9, r6⟩, ⟨(vu_at _ _ _).symm.trans t1, (e7 6 (by decide)).trans a2, e3, e1, e2, (e7 14 (by decide)).trans a6, e4, hb, t9, a10⟩⟩, ⟨hz, (W.pus hz).2.1, (W.pus hz).2.2.1, W.2.2.2.1, by omega, hbu, W.2.2.2.2.2.2⟩, (r7 _ (by decide)).trans ((F1.1 236 (by decide)).trans O)⟩, r8.trans F1.2.1, F1.2.1⟩
end LSCR
theorem s23 : sT 23 = sT 32 ++ sT 33 := by decide +kernel
theorem s23n : (sT 23).length = fiN := by rw [s23, List.length_append]; rfl
theorem fi_bt {tb : Nat → Int} : ∀ k, k < fiN → BT (fiT k) (fbF (sT 23) 0 fiN tb k) := fun k hk => by
  rw [fbF_at, if_pos (by omega), s23]
  have h : 0 ≤ fiT k ∧ fiT k < 128 := by
    have e : fiT k = (sT 23).getD k 0 := by rw [s23]; rfl
    rw [e]
    exact sT_ch (j := 23) (by decide) (by decide)
  have e2 : byI ((sT 32 ++ sT 33).getD k 0) = fiT k := by_id h.1 h.2
  rw [e2]
  exact Or.inl ⟨h.1, h.2, rfl⟩
theorem fi_600 : fiN ≤ 600 := by unfold fiN; rw [fi_len.1, fi_len.2]; decide
theorem x_106 {h : aH} (hB : h.2.2 0 = newF 7) (hq : h.2.1 = 1) (bu rp : Nat → Int) : ∃ h', Ct 10 106 [aR 0] h (.inl none, h') ∧ CR h' fiW [] none 0 bu 0 (-1) 0 rp ∧ h'.1 = h.1 ∧ h'.2.1 = 226 := by
  obtain ⟨H, cH, h0, E1, E19, E37, ⟨h55, h56, E57⟩, ⟨h201, h202, h203, E204, h222, h223, h224⟩, h225, e1, e2⟩ := i_106 hB hq
  have fl := v_60 (h := H) (N := 0) 0 0 0 0 h202 h203 23 (by decide) (by decide)
  rw [s23n] at fl
  obtain ⟨j, ey, hp⟩ := fi_ok
  have hI := fi_iz.1.1
  obtain ⟨h1, c1, ⟨dp2, ex2, s1⟩, R1, ⟨st2, nx2, kd2, vl2, o1⟩, X1, va1, bd1, rd1, N1⟩ := scr_ok (h := sw (sw H 203 (.inl (1, 600, .inl (fbF (sT 23) 0 fiN fun _ => 0)))) 202 (TO ((fiN : Nat) : Int) 0 0 0 0)) fi_600 fi_bt fi_b 0 0 0 (-1) ((sw_ne (by decide)).trans ((sw_ne (by decide)).trans h201)) (E204.mv fun a g1 g2 => (sw_ne (by omega)).trans (sw_ne (by omega))) 0 0 0 0 (sw_at _ _ _) ((sw_ne (by decide)).trans (sw_at _ _ _)) ⟨_, (sw_ne (by decide)).trans ((sw_ne (by decide)).trans h222)⟩ ⟨_, (sw_ne (by decide)).trans ((sw_ne (by decide)).trans h223)⟩ ⟨_, (sw_ne (by decide)).trans ((sw_ne (by decide)).trans h224)⟩ hp
  have fz : ∀ a, (a < 201 ∨ 225 ≤ a) → h1.2.2 a = H.2.2 a := fun a g => (N1.1 a (by omega)).trans ((sw_ne (by omega)).trans (sw_ne (by omega)))
  have k1 := (fz 0 (by omega)).trans h0
  have fa : ∀ a, ¬ a = 202 → (sw h1 202 (TO 0 st2 nx2 kd2 vl2)).2.2 a = h1.2.2 a := fun a ha => sw_ne ha
  have Ru : Rp (sw h1 202 (TO 0 st2 nx2 kd2 vl2)) 204 fiW := R1.mv fun a g1 g2 => fa a (by omega)
  have X3 : Ex (sw h1 202 (TO 0 st2 nx2 kd2 vl2)) 1 := E1.mv fun a g1 g2 => (fa a (by omega)).trans (fz a (by omega))
  obtain ⟨fs3, j9⟩ := (E1.mv (h' := h1) fun a g1 g2 => fz a (by omega)).o
  obtain ⟨h4, c4, R4, F4⟩ := v_100 Ru hI X3 (by omega)
  have fc : ∀ a, ¬ a = 202 → (a = 0 ∨ 19 ≤ a) → h4.2.2 a = h1.2.2 a := fun a g1 g2 => (F4.1 a (by omega)).trans (fa a g1)
  have fd : ∀ a, (a = 0 ∨ 19 ≤ a) → (a < 201 ∨ 225 ≤ a) → h4.2.2 a = H.2.2 a := fun a g1 g2 => (fc a (by omega) g1).trans (fz a g2)
  refine ⟨h4, Ct.of [aR 0] rfl (cH _ ?_), ⟨(fd 0 (by decide) (by decide)).trans h0, R4, E19.mv fun a g1 g2 => fd a (by omega) (by omega), E37.mv fun a g1 g2 => fd a (by omega) (by omega), ⟨0, by decide, (fd 55 (by decide) (by decide)).trans h55, h56.imp fun _ e => ⟨(fd 56 (by decide) (by decide)).trans e.1, e.2⟩, fun i hi => (E57 i hi).mv fun a g1 g2 => fd a (by omega) (by omega), fun q u hq => by cases hq⟩, ⟨⟨dp2, ex2, (fc _ (by decide) (by decide)).trans s1⟩, ⟨st2, nx2, kd2, vl2, (F4.1 202 (by omega)).trans (sw_at _ _ _)⟩, ⟨_, (fc _ (by decide) (by decide)).trans ((N1.1 203 (by decide)).trans ((sw_ne (by decide)).trans (sw_at _ _ _))), fun k hk => by omega⟩, X1.mv fun a g1 g2 => fc a (by omega) (by omega), va1.imp fun _ e => (fc _ (by decide) (by decide)).trans e, bd1.imp fun _ e => (fc _ (by decide) (by decide)).trans e, rd1.imp fun _ e => (fc _ (by decide) (by decide)).trans e⟩, ⟨_, (fd 225 (by decide) (by decide)).trans h225, fun k hk => by omega⟩⟩, F4.2.1.trans (N1.2.1.trans e1), F4.2.2.trans (N1.2.2.trans e2)⟩
  refine r_aldR cd_106_77 rfl rfl ?_
  refine r_get cd_106_78 rfl h0 rfl ?_
  refine r_get cd_106_81 rfl h201 rfl ?_
  refine r_cst cd_106_84 rfl ?_
  refine r_cV fl cd_106_86 rfl rfl rfl (rc0 h202 rfl) rfl rfl rfl ?_
  refine r_aldR cd_106_89 rfl rfl ?_
  refine r_get cd_106_90 rfl ((sw_ne (by decide)).trans ((sw_ne (by decide)).trans h0)) rfl ?_
  refine r_cI c1 cd_106_93 rfl rfl rfl (rc0 ((sw_ne (by decide)).trans ((sw_ne (by decide)).trans h201)) rfl) rfl rfl rfl ?_
  refine r_pop cd_106_96 rfl rfl ?_
  refine r_aldR cd_106_97 rfl rfl ?_
  refine r_get cd_106_98 rfl k1 rfl ?_
  refine r_get cd_106_101 rfl s1 rfl ?_
  refine r_con (v := 0) cd_106_104 rfl (by decide) ?_
  refine r_cV (v_72 st2 nx2 kd2 vl2 o1 0) cd_106_105 rfl rfl rfl (rc0 o1 rfl) rfl rfl rfl ?_
  refine r_aldR cd_106_108 rfl rfl ?_
  refine r_get cd_106_109 rfl ((sw_ne (by decide)).trans k1) rfl ?_
  refine r_aldR cd_106_112 rfl rfl ?_
  refine r_get cd_106_113 rfl ((sw_ne (by decide)).trans k1) rfl ?_
  refine r_get cd_106_116 rfl ((sw_ne (by decide)).trans s1) rfl ?_
  refine r_cV c4 cd_106_119 rfl rfl rfl (rc0 ((sw_ne (by decide)).trans j9) rfl) rfl rfl rfl ?_
  exact r_void cd_106_122 rfl (rfl)
section LMEAN
variable {h : aH} {t : Int} {g : Nat → Int64} {w : Nat → Int} {ps : List (Nat → Int)} {kp : Option (Nat → Int)} {T : Nat} {bu : Nat → Int} {ek eo : Int} {rl : Nat} {rp : Nat → Int} {s b0 as P kd tx nu : Nat → Int}
def DP (h : aH) : Prop := ∃ (h1 h2 : aH) (x : UInt64) (t : Int) (g : Nat → Int64) (w : Nat → Int) (ps : List (Nat → Int)) (kp : Option (Nat → Int)) (T : Nat) (bu : Nat → Int) (ek eo : Int) (rl : Nat) (rp : Nat → Int), Ct 2 123 [aR 0] h (.inl (some (aW (.double x))), h1) ∧ (∃ s, h1.2.2 226 = .inr (8, Mo s)) ∧ Ct 3 321 [aR 226] h1 (.inl (some (aW (.double x))), h2) ∧ JJ h2 t g w ps kp T bu ek eo rl rp ∧ h2.1 = h.1
def EP (h : aH) : Prop := ∃ (h1 h2 : aH) (x : UInt32) (t : Int) (g : Nat → Int64) (w : Nat → Int) (ps : List (Nat → Int)) (kp : Option (Nat → Int)) (T : Nat) (bu : Nat → Int) (ek eo : Int) (rl : Nat) (rp : Nat → Int), Ct 2 124 [aR 0] h (.inl (some (aW (.float x))), h1) ∧ (∃ s, h1.2.2 226 = .inr (8, Mo s)) ∧ Ct 2 323 [aR 226] h1 (.inl (some (aW (.float x))), h2) ∧ FP.f2d x &&& 0x7fffffffffffffff ≤ 0x7ff0000000000000 ∧ JJ h2 t g w ps kp T bu ek eo rl rp ∧ h2.1 = h.1
theorem mean_e : ∃ x, meanD w = aW (.double x) := by
  unfold meanD
  split
  · exact ⟨_, rfl⟩
  · exact ⟨_, rfl⟩
theorem sh_ok : (List.range 17).all (fun x => (List.range 17).all fun z => Nat.beq z 0 || decide (FP.f2d (FP.fdiv (FP.i2f (Int32.ofNat x)) (FP.i2f (Int32.ofNat z))) &&& 0x7fffffffffffffff ≤ 0x7ff0000000000000)) = true := by decide +kernel
theorem share_e (hI : Inv0 w) : ∃ x, shareF w = aW (.float x) ∧ FP.f2d x &&& 0x7fffffffffffffff ≤ 0x7ff0000000000000 := by
  have hc := hI.clm
  have hp := hI.pn
  unfold shareF
  split
  · exact ⟨_, rfl, by decide +kernel⟩
  · rename_i h6
    refine ⟨_, rfl, ?_⟩
    obtain ⟨a, ha⟩ : ∃ a : Nat, clmS w = (a : Int) := ⟨(clmS w).toNat, by omega⟩
    obtain ⟨b, hb⟩ : ∃ b : Nat, w 6 = (b : Int) := ⟨(w 6).toNat, by omega⟩
    have h := List.all_eq_true.mp (List.all_eq_true.mp sh_ok a (List.mem_range.mpr (by omega))) b (List.mem_range.mpr (by omega))
    rw [ha, hb, i32_nat, i32_nat]
    simp only [Bool.or_eq_true, decide_eq_true_eq] at h
    rcases h with h | h
    · have := Nat.eq_of_beq_eq_true h
      omega
    · exact h
theorem l_58 (J : JJ h t g w ps kp T bu ek eo rl rp) : DP h := by
  obtain ⟨C, ⟨s, b0, as, P, kd, tx, nu, M, S⟩, W, O⟩ := J
  have hI := W.1.1.1
  obtain ⟨h0, hR, -⟩ := id C
  obtain ⟨x, hx⟩ := mean_e (w := w)
  exact ⟨h, _, x, 0, g, w, ps, kp, T, bu, ek, eo, rl, rp, (x_123 C hI).eq (by rw [hx]), ⟨s, M.1⟩, (c_321 M.1 M.2.1 hI).eq (by rw [hx]), ⟨C.mv fun a ha => sw_ne (by omega), ⟨_, b0, as, P, kd, tx, nu, M.s, S.t⟩, W, (sw_ne (by decide)).trans O⟩, rfl⟩
theorem l_59 (J : JJ h t g w ps kp T bu ek eo rl rp) : EP h := by
  obtain ⟨C, ⟨s, b0, as, P, kd, tx, nu, M, S⟩, W, O⟩ := J
  have hI := W.1.1.1
  obtain ⟨h0, hR, -⟩ := id C
  obtain ⟨x, hx, hn⟩ := share_e hI
  exact ⟨h, _, x, 0, g, w, ps, kp, T, bu, ek, eo, rl, rp, (x_124 C hI).eq (by rw [hx]), ⟨s, M.1⟩, (c_323 M.1 M.2.1 hI).eq (by rw [hx]), hn, ⟨C.mv fun a ha => sw_ne (by omega), ⟨_, b0, as, P, kd, tx, nu, M.s, S.t⟩, W, (sw_ne (by decide)).trans O⟩, rfl⟩
end LMEAN
