/-! THE LAW: one deed (written by wip/p66/gen87.py) -/
theorem md {x z : Int} (h0 : 0 ≤ x) (h1 : 0 < z) : ∃ n : Nat, x % z = ((n : Nat) : Int) ∧ ((n : Nat) : Int) < z := by
  have a := Int.emod_nonneg x (show z ≠ 0 by omega)
  have b := Int.emod_lt_of_pos x h1
  exact ⟨(x % z).toNat, by omega, by omega⟩
theorem to_ne {x r n : Int} (h0 : 0 ≤ x) (h1 : x < n) (r0 : 0 ≤ r) (r1 : r < n - 1) : ¬ (x + 1 + r) % n = x := by
  intro e
  have h := Int.emod_add_mul_ediv (x + 1 + r) n
  rw [e] at h
  by_cases q : (x + 1 + r) / n < 1
  · have := Int.mul_nonneg (show 0 ≤ n by omega) (show 0 ≤ -((x + 1 + r) / n) by omega)
    rw [Int.mul_neg] at this
    omega
  · have := Int.mul_le_mul_of_nonneg_left (show 1 ≤ (x + 1 + r) / n by omega) (show 0 ≤ n by omega)
    omega
theorem bst_o {w : Nat → Int} {p : Nat} : bstB w p = -1 ∨ ∃ b : Nat, b < nB w ∧ bstB w p = ((b : Nat) : Int) ∧ whyT w p b = 0 := by
  have h := itF_ind (g := bstG w p) (P := fun i a => a = -1 ∨ ∃ b : Nat, b < i ∧ a = ((b : Nat) : Int) ∧ whyT w p b = 0) (m := nB w) (i := 0) (a := -1) (Or.inl rfl) (fun i a _ _ h => by
    unfold bstG
    split
    · rename_i hc
      exact Or.inr ⟨i, by omega, rfl, hc.1⟩
    · rcases h with h | ⟨b, h1, h2, h3⟩
      · exact Or.inl h
      · exact Or.inr ⟨b, by omega, h2, h3⟩)
  rw [Nat.zero_add] at h
  exact h
theorem bst_R {w : Nat → Int} (hI : Inv0 w) {p : Nat} : inR (bstB w p) := by
  have hb := hI.bNe
  rcases bst_o (w := w) (p := p) with e | ⟨b, h1, h2, -⟩
  · rw [e]; exact ⟨by decide, by decide⟩
  · rw [h2]; exact ⟨by omega, by omega⟩
theorem carr_o {w : Nat → Int} (hI : Inv0 w) {p : Nat} (hp : p < nP w) (h : ¬ carr w p = -1) : ∃ b : Nat, b < nB w ∧ carr w p = ((b : Nat) : Int) ∧ tied w p b = true := by
  have h1 := (hI.ps p hp).2.2.2.2
  have hb := hI.bNe
  unfold carr at h ⊢
  by_cases e : pa w p 4 = 1
  · rw [if_pos e] at h ⊢
    exact ⟨(pa w p 5).toNat, by omega, by omega, tied_iff.mpr ⟨e, by omega⟩⟩
  · rw [if_neg e] at h
    exact absurd rfl h
theorem lie_o {w : Nat → Int} (hI : Inv0 w) {p : Nat} (hp : p < nP w) (h : pa w p 4 = 0) : ∃ x : Nat, ((x : Nat) : Int) < w 0 ∧ plOf w p = ((x : Nat) : Int) ∧ lies w p ((x : Nat) : Int) = true := by
  have h1 := (hI.ps p hp).2.2.2.2
  have e : plOf w p = pa w p 5 := by unfold plOf; rw [if_pos h]
  have e5 : pa w p 5 = (((pa w p 5).toNat : Nat) : Int) := by omega
  refine ⟨(pa w p 5).toNat, by omega, by omega, ?_⟩
  unfold lies
  rw [decide_eq_true h, decide_eq_true e5]
  rfl
theorem fnd_o {w : Nat → Int} {p x : Nat} {n : Int} (h : numbd w n = ((p : Nat) : Int)) (hl : lies w p ((x : Nat) : Int) = true) : foundP w ((x : Nat) : Int) n = ((p : Nat) : Int) := by
  unfold foundP
  rw [h, if_neg (by omega), Int.toNat_natCast, if_pos hl]
theorem num_R {w : Nat → Int} (hI : Inv0 w) (n : Int) : inR (numbd w n) := by
  have h := numbd_b (w := w) n
  have := hI.pNe
  exact ⟨by omega, by omega⟩
section DEED
variable {h : aH} {w : Nat → Int} {ps : List (Nat → Int)} {kp : Option (Nat → Int)} {T : Nat} {bu : Nat → Int} {ek eo : Int} {rl : Nat} {rp : Nat → Int} {k : Nat}
theorem lc_334 (C : CR h w ps kp T bu ek eo rl rp) (G : Gd k w) (hl : ps.length ≤ 8) (c : Int) (b p x y t : Nat) (hp : p < nP w) (h4 : pa w p 4 = 0) : ∀ (m i : Nat), i + m = 100 → RX 8 334 (fun r => ∃ h' w' ps', r = (.inl none, h') ∧ CR h' w' ps' kp T bu ek eo rl rp ∧ Fc h h' ∧ Gd (k + 1) w' ∧ ((w' = w ∧ ps' = ps) ∨ ps' = pus w ps)) (371, [aR 0, aI c, aI ((b : Nat) : Int), aI ((p : Nat) : Int), aI ((x : Nat) : Int), aI ((y : Nat) : Int), aI ((t : Nat) : Int), aI ((i : Nat) : Int)], [], 0, 0, h) := by
  have hI := G.1.1
  have hbn := hI.bNe
  have hpn := hI.pNe
  have x0 := hI.len
  have x1 := hI.hour
  have x2 := hI.gas
  have x5 := hI.bn
  have x6 := hI.pn
  obtain ⟨h0, -⟩ := id C
  obtain ⟨z, hz, ez, lz⟩ := lie_o hI hp h4
  intro m
  induction m with
  | zero =>
    intro i hm
    refine RX.st (fun _ k9 => r_ild cd_334_371 rfl rfl k9) ?_
    refine RX.st (fun _ k9 => r_con (v := 100) cd_334_373 rfl (by decide) k9) ?_
    refine RX.br (fun _ k8 k9 => r_ic64 cd_334_375 rfl ⟨by omega, by omega⟩ ⟨by omega, by omega⟩ k8 k9) (fun n1 => ?_) (fun n1 => ?_)
    · exact absurd n1 (by omega)
    · refine RX.st (fun _ k9 => r_goto cd_334_409 k9) ?_
      exact ⟨_, ⟨h, w, ps, rfl, C, Fc.rf, G.mo, Or.inl ⟨rfl, rfl⟩⟩, r_void cd_334_532 rfl rfl⟩
  | succ m ih =>
    intro i hm
    refine RX.st (fun _ k9 => r_ild cd_334_371 rfl rfl k9) ?_
    refine RX.st (fun _ k9 => r_con (v := 100) cd_334_373 rfl (by decide) k9) ?_
    refine RX.br (fun _ k8 k9 => r_ic64 cd_334_375 rfl ⟨by omega, by omega⟩ ⟨by omega, by omega⟩ k8 k9) (fun n1 => ?_) (fun n1 => ?_)
    · refine RX.st (fun _ k9 => r_aldR cd_334_378 rfl rfl k9) ?_
      refine RX.st (fun _ k9 => r_ild cd_334_379 rfl rfl k9) ?_
      refine RX.st (fun _ k9 => r_cI (x_120 C hI ((i : Nat) : Int) ⟨by omega, by omega⟩) cd_334_381 rfl rfl rfl (rc0 h0 rfl) rfl rfl rfl k9) ?_
      refine RX.st (fun _ k9 => r_ild cd_334_384 rfl rfl k9) ?_
      refine RX.br (fun _ k8 k9 => r_ic62 cd_334_385 rfl (num_R hI _) ⟨by omega, by omega⟩ k8 k9) (fun n2 => ?_) (fun n2 => ?_)
      · refine RX.st (fun _ k9 => r_aldR cd_334_388 rfl rfl k9) ?_
        refine RX.st (fun _ k9 => r_aldR cd_334_389 rfl rfl k9) ?_
        refine RX.st (fun _ k9 => r_ild cd_334_390 rfl rfl k9) ?_
        refine RX.st (fun _ k9 => r_cI (x_165 C hI p (isPa_iff.mpr ⟨by omega, by omega⟩)) cd_334_391 rfl rfl rfl (rc0 h0 rfl) rfl rfl rfl k9) ?_
        rw [ez]
        refine RX.st (fun _ k9 => r_ild cd_334_394 rfl rfl k9) ?_
        obtain ⟨h1, v1, c1, C1, F1, G1⟩ := ch_147 C G hl z ((i : Nat) : Int) p hz ⟨by omega, by omega⟩ (fnd_o n2 lz)
        refine RX.st (fun _ k9 => r_cI c1 cd_334_396 rfl rfl rfl (rc0 h0 rfl) rfl rfl rfl k9) ?_
        refine RX.st (fun _ k9 => r_pop cd_334_399 rfl rfl k9) ?_
        refine RX.st (fun _ k9 => r_goto cd_334_400 k9) ?_
        refine RX.st (fun _ k9 => r_goto cd_334_409 k9) ?_
        exact ⟨_, ⟨h1, _, _, rfl, C1, F1, G1, Or.inr rfl⟩, r_void cd_334_532 rfl rfl⟩
      · refine RX.st (fun _ k9 => r_inc (v := ((i + 1 : Nat) : Int)) cd_334_403 rfl rfl rfl (by omega) (L' := [aR 0, aI c, aI ((b : Nat) : Int), aI ((p : Nat) : Int), aI ((x : Nat) : Int), aI ((y : Nat) : Int), aI ((t : Nat) : Int), aI ((i + 1 : Nat) : Int)]) rfl k9) ?_
        refine RX.st (fun _ k9 => r_goto cd_334_406 k9) ?_
        exact ih (i + 1) (by omega)
    · exact absurd n1 (by omega)
theorem y_334 (C : CR h w ps kp T bu ek eo rl rp) (G : Gd k w) (hl : ps.length ≤ 8) (c : Int) : ∃ h' w' ps', Ct 8 334 [aR 0, aI c] h (.inl none, h') ∧ CR h' w' ps' kp T bu ek eo rl rp ∧ Fc h h' ∧ Gd (k + 1) w' ∧ ((w' = w ∧ ps' = ps) ∨ ps' = pus w ps) := by
  suffices hs : ∃ res, (fun r => ∃ h' w' ps', r = (.inl none, h') ∧ CR h' w' ps' kp T bu ek eo rl rp ∧ Fc h h' ∧ Gd (k + 1) w' ∧ ((w' = w ∧ ps' = ps) ∨ ps' = pus w ps)) res ∧ Ct 8 334 [aR 0, aI c] h res by
    obtain ⟨res, ⟨h2, w2, ps2, f1, f2, f3, f4, f5⟩, k9⟩ := hs
    subst f1
    exact ⟨h2, w2, ps2, k9, f2, f3, f4, f5⟩
  have hI := G.1.1
  have hbn := hI.bNe
  have hpn := hI.pNe
  have x0 := hI.len
  have x1 := hI.hour
  have x2 := hI.gas
  have x5 := hI.bn
  have x6 := hI.pn
  obtain ⟨h0, -⟩ := id C
  have g5 := G.2.2.2.1
  have g6 := G.2.2.2.2
  have h999 := G.1.2.1
  refine Ct.ofx [aR 0, aI c, aU, aU, aU, aU, aU, aU] rfl ?_
  refine RX.st (fun _ k9 => r_ild cd_334_0 rfl rfl k9) ?_
  refine RX.st (fun _ k9 => r_con (v := 4) cd_334_1 rfl (by decide) k9) ?_
  refine RX.st (fun _ k9 => r_ushr cd_334_2 rfl k9) ?_
  refine RX.st (fun _ k9 => r_con (v := 7) cd_334_3 rfl (by decide) k9) ?_
  obtain ⟨a1, ha1, ea1⟩ := and_nn (ushrI c 4) 7 (by decide)
  refine RX.st (fun _ k9 => r_and cd_334_5 rfl k9) ?_
  rw [show andI (ushrI c 4) 7 = ((a1 : Nat) : Int) from ea1]
  refine RX.st (fun _ k9 => r_aldR cd_334_6 rfl rfl k9) ?_
  refine RX.st (fun _ k9 => r_cI (x_117 C hI) cd_334_7 rfl rfl rfl (rc0 h0 rfl) rfl rfl rfl k9) ?_
  obtain ⟨b, eb, hb⟩ := md (x := ((a1 : Nat) : Int)) (z := (w 5)) (by omega) (by omega)
  refine RX.st (fun _ k9 => r_rem cd_334_10 rfl (by omega) (by omega) (by omega) (by omega) k9) ?_
  rw [eb]
  refine RX.st (fun _ k9 => r_ist cd_334_11 rfl rfl (L' := [aR 0, aI c, aI ((b : Nat) : Int), aU, aU, aU, aU, aU]) rfl k9) ?_
  refine RX.st (fun _ k9 => r_ild cd_334_12 rfl rfl k9) ?_
  refine RX.st (fun _ k9 => r_con (v := 7) cd_334_13 rfl (by decide) k9) ?_
  refine RX.st (fun _ k9 => r_ushr cd_334_15 rfl k9) ?_
  refine RX.st (fun _ k9 => r_con (v := 15) cd_334_16 rfl (by decide) k9) ?_
  obtain ⟨a2, ha2, ea2⟩ := and_nn (ushrI c 7) 15 (by decide)
  refine RX.st (fun _ k9 => r_and cd_334_18 rfl k9) ?_
  rw [show andI (ushrI c 7) 15 = ((a2 : Nat) : Int) from ea2]
  refine RX.st (fun _ k9 => r_aldR cd_334_19 rfl rfl k9) ?_
  refine RX.st (fun _ k9 => r_cI (x_118 C hI) cd_334_20 rfl rfl rfl (rc0 h0 rfl) rfl rfl rfl k9) ?_
  obtain ⟨p, ep, hp⟩ := md (x := ((a2 : Nat) : Int)) (z := (w 6)) (by omega) (by omega)
  refine RX.st (fun _ k9 => r_rem cd_334_23 rfl (by omega) (by omega) (by omega) (by omega) k9) ?_
  rw [ep]
  refine RX.st (fun _ k9 => r_ist cd_334_24 rfl rfl (L' := [aR 0, aI c, aI ((b : Nat) : Int), aI ((p : Nat) : Int), aU, aU, aU, aU]) rfl k9) ?_
  refine RX.st (fun _ k9 => r_ild cd_334_25 rfl rfl k9) ?_
  refine RX.st (fun _ k9 => r_con (v := 11) cd_334_26 rfl (by decide) k9) ?_
  refine RX.st (fun _ k9 => r_ushr cd_334_28 rfl k9) ?_
  refine RX.st (fun _ k9 => r_con (v := 31) cd_334_29 rfl (by decide) k9) ?_
  obtain ⟨a3, ha3, ea3⟩ := and_nn (ushrI c 11) 31 (by decide)
  refine RX.st (fun _ k9 => r_and cd_334_31 rfl k9) ?_
  rw [show andI (ushrI c 11) 31 = ((a3 : Nat) : Int) from ea3]
  refine RX.st (fun _ k9 => r_aldR cd_334_32 rfl rfl k9) ?_
  refine RX.st (fun _ k9 => r_cI (x_114 C hI) cd_334_33 rfl rfl rfl (rc0 h0 rfl) rfl rfl rfl k9) ?_
  obtain ⟨x, ex, hx⟩ := md (x := ((a3 : Nat) : Int)) (z := (w 0)) (by omega) (by omega)
  refine RX.st (fun _ k9 => r_rem cd_334_36 rfl (by omega) (by omega) (by omega) (by omega) k9) ?_
  rw [ex]
  refine RX.st (fun _ k9 => r_ist cd_334_37 rfl rfl (L' := [aR 0, aI c, aI ((b : Nat) : Int), aI ((p : Nat) : Int), aI ((x : Nat) : Int), aU, aU, aU]) rfl k9) ?_
  refine RX.st (fun _ k9 => r_ild cd_334_39 rfl rfl k9) ?_
  refine RX.st (fun _ k9 => r_con (v := 16) cd_334_40 rfl (by decide) k9) ?_
  refine RX.st (fun _ k9 => r_ushr cd_334_42 rfl k9) ?_
  refine RX.st (fun _ k9 => r_con (v := 1023) cd_334_43 rfl (by decide) k9) ?_
  obtain ⟨y, hy, ey⟩ := and_nn (ushrI c 16) 1023 (by decide)
  refine RX.st (fun _ k9 => r_and cd_334_46 rfl k9) ?_
  rw [show andI (ushrI c 16) 1023 = ((y : Nat) : Int) from ey]
  refine RX.st (fun _ k9 => r_ist cd_334_47 rfl rfl (L' := [aR 0, aI c, aI ((b : Nat) : Int), aI ((p : Nat) : Int), aI ((x : Nat) : Int), aI ((y : Nat) : Int), aU, aU]) rfl k9) ?_
  refine RX.st (fun _ k9 => r_ild cd_334_49 rfl rfl k9) ?_
  refine RX.st (fun _ k9 => r_con (v := 1) cd_334_51 rfl (by decide) k9) ?_
  refine RX.st (fun _ k9 => r_add (v := ((x + 1 : Nat) : Int)) cd_334_52 rfl (by omega) k9) ?_
  refine RX.st (fun _ k9 => r_ild cd_334_53 rfl rfl k9) ?_
  refine RX.st (fun _ k9 => r_aldR cd_334_55 rfl rfl k9) ?_
  refine RX.st (fun _ k9 => r_cI (x_114 C hI) cd_334_56 rfl rfl rfl (rc0 h0 rfl) rfl rfl rfl k9) ?_
  refine RX.st (fun _ k9 => r_con (v := 1) cd_334_59 rfl (by decide) k9) ?_
  refine RX.st (fun _ k9 => r_sub (v := (w 0) - 1) cd_334_60 rfl (by rfl) k9) ?_
  obtain ⟨r, er, hr⟩ := md (x := ((y : Nat) : Int)) (z := (w 0 - 1)) (by omega) (by omega)
  refine RX.st (fun _ k9 => r_rem cd_334_61 rfl (by omega) (by omega) (by omega) (by omega) k9) ?_
  rw [er]
  refine RX.st (fun _ k9 => r_add (v := ((x + 1 + r : Nat) : Int)) cd_334_62 rfl (by omega) k9) ?_
  refine RX.st (fun _ k9 => r_aldR cd_334_63 rfl rfl k9) ?_
  refine RX.st (fun _ k9 => r_cI (x_114 C hI) cd_334_64 rfl rfl rfl (rc0 h0 rfl) rfl rfl rfl k9) ?_
  obtain ⟨t, et, ht⟩ := md (x := ((x + 1 + r : Nat) : Int)) (z := w 0) (by omega) (by omega)
  have hne : ¬ ((x : Nat) : Int) = ((t : Nat) : Int) := fun e => to_ne (x := ((x : Nat) : Int)) (r := ((r : Nat) : Int)) (n := w 0) (by omega) hx (by omega) hr (by rw [← e] at et; rw [← et]; congr 1; omega)
  refine RX.st (fun _ k9 => r_rem cd_334_67 rfl (by omega) (by omega) (by omega) (by omega) k9) ?_
  rw [et]
  refine RX.st (fun _ k9 => r_ist cd_334_68 rfl rfl (L' := [aR 0, aI c, aI ((b : Nat) : Int), aI ((p : Nat) : Int), aI ((x : Nat) : Int), aI ((y : Nat) : Int), aI ((t : Nat) : Int), aU]) rfl k9) ?_
  refine RX.st (fun _ k9 => r_ild cd_334_70 rfl rfl k9) ?_
  refine RX.st (fun _ k9 => r_con (v := 15) cd_334_71 rfl (by decide) k9) ?_
  obtain ⟨s, hs0, es⟩ := and_nn c 15 (by decide)
  refine RX.st (fun _ k9 => r_and cd_334_73 rfl k9) ?_
  rw [show andI c 15 = ((s : Nat) : Int) from es]
  have hs : (s = 0 ∨ s = 1) ∨ (s = 2) ∨ (s = 3) ∨ (s = 4 ∨ s = 5) ∨ (s = 6) ∨ (s = 7) ∨ (s = 8 ∨ s = 9) ∨ (s = 10) ∨ (s = 11) ∨ (s = 12) ∨ (s = 13) ∨ (s = 14) ∨ (s = 15) := by omega
  have hbs := hI.bs b (by omega)
  rcases hs with hs | hs | hs | hs | hs | hs | hs | hs | hs | hs | hs | hs | hs
  · have dm := hs
    refine RX.st (fun _ k9 => r_tsw (t := 148) cd_334_74 ⟨by omega, by omega⟩ (by rcases hs with rfl | rfl <;> decide) k9) ?_
    refine RX.st (fun _ k9 => r_aldR cd_334_148 rfl rfl k9) ?_
    refine RX.st (fun _ k9 => r_ild cd_334_149 rfl rfl k9) ?_
    refine RX.st (fun _ k9 => r_cI (x_170 C hI (fun b hb => (G.1.2.2 b hb).2) p (isPa_iff.mpr ⟨by omega, by omega⟩)) cd_334_150 rfl rfl rfl (rc0 h0 rfl) rfl rfl rfl k9) ?_
    refine RX.st (fun _ k9 => r_con (v := (-1)) cd_334_153 rfl (by decide) k9) ?_
    refine RX.br (fun _ k8 k9 => r_ic61 cd_334_154 rfl (bst_R hI) ⟨by omega, by omega⟩ k8 k9) (fun n1 => ?_) (fun n1 => ?_)
    · exact ⟨_, ⟨h, w, ps, rfl, C, Fc.rf, G.mo, Or.inl ⟨rfl, rfl⟩⟩, r_void cd_334_532 rfl rfl⟩
    · obtain ⟨b9, hb9, eb9, hq9⟩ := (bst_o (w := w) (p := p)).resolve_left n1
      refine RX.st (fun _ k9 => r_aldR cd_334_157 rfl rfl k9) ?_
      refine RX.st (fun _ k9 => r_ild cd_334_158 rfl rfl k9) ?_
      refine RX.st (fun _ k9 => r_aldR cd_334_159 rfl rfl k9) ?_
      refine RX.st (fun _ k9 => r_ild cd_334_160 rfl rfl k9) ?_
      refine RX.st (fun _ k9 => r_cI (x_170 C hI (fun b hb => (G.1.2.2 b hb).2) p (isPa_iff.mpr ⟨by omega, by omega⟩)) cd_334_161 rfl rfl rfl (rc0 h0 rfl) rfl rfl rfl k9) ?_
      rw [eb9]
      obtain ⟨h1, v1, c1, C1, F1, G1⟩ := ch_138 C G hl p b9 (by omega) hb9 hq9
      refine RX.st (fun _ k9 => r_cI c1 cd_334_164 rfl rfl rfl (rc0 h0 rfl) rfl rfl rfl k9) ?_
      refine RX.st (fun _ k9 => r_pop cd_334_167 rfl rfl k9) ?_
      refine RX.st (fun _ k9 => r_goto cd_334_168 k9) ?_
      exact ⟨_, ⟨h1, _, _, rfl, C1, F1, G1, Or.inr rfl⟩, r_void cd_334_532 rfl rfl⟩
  · have dm := hs
    refine RX.st (fun _ k9 => r_tsw (t := 171) cd_334_74 ⟨by omega, by omega⟩ (by subst hs; decide) k9) ?_
    refine RX.st (fun _ k9 => r_aldR cd_334_171 rfl rfl k9) ?_
    refine RX.st (fun _ k9 => r_ild cd_334_172 rfl rfl k9) ?_
    refine RX.st (fun _ k9 => r_ild cd_334_173 rfl rfl k9) ?_
    refine RX.st (fun _ k9 => r_cI (x_167 C hI (fun b hb => (G.1.2.2 b hb).2) p b (isPa_iff.mpr ⟨by omega, by omega⟩) (isBa_iff.mpr ⟨by omega, by omega⟩)) cd_334_174 rfl rfl rfl (rc0 h0 rfl) rfl rfl rfl k9) ?_
    refine RX.br (fun _ k8 k9 => r_if52 cd_334_177 rfl (inR_of (whyT_b w p b) (by decide) (by decide)) k8 k9) (fun n2 => ?_) (fun n2 => ?_)
    · refine RX.st (fun _ k9 => r_aldR cd_334_180 rfl rfl k9) ?_
      refine RX.st (fun _ k9 => r_ild cd_334_181 rfl rfl k9) ?_
      refine RX.st (fun _ k9 => r_ild cd_334_182 rfl rfl k9) ?_
      obtain ⟨h1, v1, c1, C1, F1, G1⟩ := ch_138 C G hl p b (by omega) (by omega) n2
      refine RX.st (fun _ k9 => r_cI c1 cd_334_183 rfl rfl rfl (rc0 h0 rfl) rfl rfl rfl k9) ?_
      refine RX.st (fun _ k9 => r_pop cd_334_186 rfl rfl k9) ?_
      refine RX.st (fun _ k9 => r_goto cd_334_187 k9) ?_
      exact ⟨_, ⟨h1, _, _, rfl, C1, F1, G1, Or.inr rfl⟩, r_void cd_334_532 rfl rfl⟩
    · exact ⟨_, ⟨h, w, ps, rfl, C, Fc.rf, G.mo, Or.inl ⟨rfl, rfl⟩⟩, r_void cd_334_532 rfl rfl⟩
  · have dm := hs
    refine RX.st (fun _ k9 => r_tsw (t := 190) cd_334_74 ⟨by omega, by omega⟩ (by subst hs; decide) k9) ?_
    refine RX.st (fun _ k9 => r_aldR cd_334_190 rfl rfl k9) ?_
    refine RX.st (fun _ k9 => r_ild cd_334_191 rfl rfl k9) ?_
    refine RX.st (fun _ k9 => r_cI (x_164 C hI p (isPa_iff.mpr ⟨by omega, by omega⟩)) cd_334_192 rfl rfl rfl (rc0 h0 rfl) rfl rfl rfl k9) ?_
    refine RX.st (fun _ k9 => r_con (v := (-1)) cd_334_195 rfl (by decide) k9) ?_
    refine RX.br (fun _ k8 k9 => r_ic61 cd_334_196 rfl (hI.caR (p := p) (by omega)) ⟨by omega, by omega⟩ k8 k9) (fun n3 => ?_) (fun n3 => ?_)
    · exact ⟨_, ⟨h, w, ps, rfl, C, Fc.rf, G.mo, Or.inl ⟨rfl, rfl⟩⟩, r_void cd_334_532 rfl rfl⟩
    · obtain ⟨b9, hb9, eb9, ht9⟩ := carr_o hI (p := p) (by omega) n3
      refine RX.st (fun _ k9 => r_aldR cd_334_199 rfl rfl k9) ?_
      refine RX.st (fun _ k9 => r_aldR cd_334_200 rfl rfl k9) ?_
      refine RX.st (fun _ k9 => r_ild cd_334_201 rfl rfl k9) ?_
      refine RX.st (fun _ k9 => r_cI (x_164 C hI p (isPa_iff.mpr ⟨by omega, by omega⟩)) cd_334_202 rfl rfl rfl (rc0 h0 rfl) rfl rfl rfl k9) ?_
      rw [eb9]
      refine RX.st (fun _ k9 => r_cI (x_159 C hI b9 (isBa_iff.mpr ⟨by omega, by omega⟩)) cd_334_205 rfl rfl rfl (rc0 h0 rfl) rfl rfl rfl k9) ?_
      refine RX.br (fun _ k8 k9 => r_if52 cd_334_208 rfl (hI.boR (b := b9) (k := 3) (by omega) (by decide)) k8 k9) (fun n4 => ?_) (fun n4 => ?_)
      · refine RX.st (fun _ k9 => r_aldR cd_334_211 rfl rfl k9) ?_
        refine RX.st (fun _ k9 => r_ild cd_334_212 rfl rfl k9) ?_
        obtain ⟨h1, v1, c1, C1, F1, G1⟩ := ch_141 C G hl p (by omega) (canU_iff.mpr ⟨(tied_iff.mp ht9).1, by rw [(tied_iff.mp ht9).2, Int.toNat_natCast]; exact n4⟩)
        refine RX.st (fun _ k9 => r_cI c1 cd_334_213 rfl rfl rfl (rc0 h0 rfl) rfl rfl rfl k9) ?_
        refine RX.st (fun _ k9 => r_pop cd_334_216 rfl rfl k9) ?_
        refine RX.st (fun _ k9 => r_goto cd_334_217 k9) ?_
        exact ⟨_, ⟨h1, _, _, rfl, C1, F1, G1, Or.inr rfl⟩, r_void cd_334_532 rfl rfl⟩
      · exact ⟨_, ⟨h, w, ps, rfl, C, Fc.rf, G.mo, Or.inl ⟨rfl, rfl⟩⟩, r_void cd_334_532 rfl rfl⟩
  · have dm := hs
    refine RX.st (fun _ k9 => r_tsw (t := 220) cd_334_74 ⟨by omega, by omega⟩ (by rcases hs with rfl | rfl <;> decide) k9) ?_
    refine RX.st (fun _ k9 => r_aldR cd_334_220 rfl rfl k9) ?_
    refine RX.st (fun _ k9 => r_ild cd_334_221 rfl rfl k9) ?_
    refine RX.st (fun _ k9 => r_cI (x_168 C hI b (isBa_iff.mpr ⟨by omega, by omega⟩)) cd_334_222 rfl rfl rfl (rc0 h0 rfl) rfl rfl rfl k9) ?_
    refine RX.br (fun _ k8 k9 => r_if52 cd_334_225 rfl (inR_of (whyL_b w b) (by decide) (by decide)) k8 k9) (fun n5 => ?_) (fun n5 => ?_)
    · refine RX.st (fun _ k9 => r_aldR cd_334_228 rfl rfl k9) ?_
      refine RX.st (fun _ k9 => r_ild cd_334_229 rfl rfl k9) ?_
      obtain ⟨h1, v1, c1, C1, F1, G1⟩ := ch_142 C G hl b (by omega) n5
      refine RX.st (fun _ k9 => r_cI c1 cd_334_230 rfl rfl rfl (rc0 h0 rfl) rfl rfl rfl k9) ?_
      refine RX.st (fun _ k9 => r_pop cd_334_233 rfl rfl k9) ?_
      refine RX.st (fun _ k9 => r_goto cd_334_234 k9) ?_
      exact ⟨_, ⟨h1, _, _, rfl, C1, F1, G1, Or.inr rfl⟩, r_void cd_334_532 rfl rfl⟩
    · exact ⟨_, ⟨h, w, ps, rfl, C, Fc.rf, G.mo, Or.inl ⟨rfl, rfl⟩⟩, r_void cd_334_532 rfl rfl⟩
  · have dm := hs
    refine RX.st (fun _ k9 => r_tsw (t := 237) cd_334_74 ⟨by omega, by omega⟩ (by subst hs; decide) k9) ?_
    refine RX.st (fun _ k9 => r_aldR cd_334_237 rfl rfl k9) ?_
    refine RX.st (fun _ k9 => r_ild cd_334_238 rfl rfl k9) ?_
    refine RX.st (fun _ k9 => r_cI (x_159 C hI b (isBa_iff.mpr ⟨by omega, by omega⟩)) cd_334_239 rfl rfl rfl (rc0 h0 rfl) rfl rfl rfl k9) ?_
    refine RX.st (fun _ k9 => r_con (v := 1) cd_334_242 rfl (by decide) k9) ?_
    refine RX.br (fun _ k8 k9 => r_ic62 cd_334_243 rfl (hI.boR (b := b) (k := 3) (by omega) (by decide)) ⟨by omega, by omega⟩ k8 k9) (fun n6 => ?_) (fun n6 => ?_)
    · refine RX.st (fun _ k9 => r_aldR cd_334_246 rfl rfl k9) ?_
      refine RX.st (fun _ k9 => r_ild cd_334_247 rfl rfl k9) ?_
      obtain ⟨h1, v1, c1, C1, F1, G1⟩ := ch_143 C G hl b (by omega) n6
      refine RX.st (fun _ k9 => r_cI c1 cd_334_248 rfl rfl rfl (rc0 h0 rfl) rfl rfl rfl k9) ?_
      refine RX.st (fun _ k9 => r_pop cd_334_251 rfl rfl k9) ?_
      refine RX.st (fun _ k9 => r_goto cd_334_252 k9) ?_
      exact ⟨_, ⟨h1, _, _, rfl, C1, F1, G1, Or.inr rfl⟩, r_void cd_334_532 rfl rfl⟩
    · refine RX.st (fun _ k9 => r_aldR cd_334_255 rfl rfl k9) ?_
      refine RX.st (fun _ k9 => r_ild cd_334_256 rfl rfl k9) ?_
      refine RX.st (fun _ k9 => r_cI (x_159 C hI b (isBa_iff.mpr ⟨by omega, by omega⟩)) cd_334_257 rfl rfl rfl (rc0 h0 rfl) rfl rfl rfl k9) ?_
      refine RX.st (fun _ k9 => r_con (v := 2) cd_334_260 rfl (by decide) k9) ?_
      refine RX.br (fun _ k8 k9 => r_ic62 cd_334_261 rfl (hI.boR (b := b) (k := 3) (by omega) (by decide)) ⟨by omega, by omega⟩ k8 k9) (fun n7 => ?_) (fun n7 => ?_)
      · refine RX.st (fun _ k9 => r_aldR cd_334_264 rfl rfl k9) ?_
        refine RX.st (fun _ k9 => r_ild cd_334_265 rfl rfl k9) ?_
        obtain ⟨h1, v1, c1, C1, F1, G1⟩ := ch_144 C G hl b (by omega) n7
        refine RX.st (fun _ k9 => r_cI c1 cd_334_266 rfl rfl rfl (rc0 h0 rfl) rfl rfl rfl k9) ?_
        refine RX.st (fun _ k9 => r_pop cd_334_269 rfl rfl k9) ?_
        refine RX.st (fun _ k9 => r_goto cd_334_270 k9) ?_
        exact ⟨_, ⟨h1, _, _, rfl, C1, F1, G1, Or.inr rfl⟩, r_void cd_334_532 rfl rfl⟩
      · exact ⟨_, ⟨h, w, ps, rfl, C, Fc.rf, G.mo, Or.inl ⟨rfl, rfl⟩⟩, r_void cd_334_532 rfl rfl⟩
  · have dm := hs
    refine RX.st (fun _ k9 => r_tsw (t := 273) cd_334_74 ⟨by omega, by omega⟩ (by subst hs; decide) k9) ?_
    refine RX.st (fun _ k9 => r_aldR cd_334_273 rfl rfl k9) ?_
    refine RX.st (fun _ k9 => r_ild cd_334_274 rfl rfl k9) ?_
    refine RX.st (fun _ k9 => r_cI (x_159 C hI b (isBa_iff.mpr ⟨by omega, by omega⟩)) cd_334_275 rfl rfl rfl (rc0 h0 rfl) rfl rfl rfl k9) ?_
    refine RX.br (fun _ k8 k9 => r_if52 cd_334_278 rfl (hI.boR (b := b) (k := 3) (by omega) (by decide)) k8 k9) (fun n8 => ?_) (fun n8 => ?_)
    · refine RX.st (fun _ k9 => r_aldR cd_334_281 rfl rfl k9) ?_
      refine RX.st (fun _ k9 => r_cI (x_116 C hI) cd_334_282 rfl rfl rfl (rc0 h0 rfl) rfl rfl rfl k9) ?_
      refine RX.st (fun _ k9 => r_con (v := 1) cd_334_285 rfl (by decide) k9) ?_
      refine RX.st (fun _ k9 => r_ild cd_334_286 rfl rfl k9) ?_
      refine RX.st (fun _ k9 => r_con (v := 9) cd_334_288 rfl (by decide) k9) ?_
      refine RX.st (fun _ k9 => r_rem cd_334_290 rfl (by omega) (by omega) (by omega) (by omega) k9) ?_
      rw [show ((y : Nat) : Int) % 9 = ((y % 9 : Nat) : Int) from by omega]
      refine RX.st (fun _ k9 => r_add (v := ((1 + y % 9 : Nat) : Int)) cd_334_291 rfl (by omega) k9) ?_
      refine RX.br (fun _ k8 k9 => r_ic63 cd_334_292 rfl (inR_of hI.gas (by decide) (by decide)) ⟨by omega, by omega⟩ k8 k9) (fun n9 => ?_) (fun n9 => ?_)
      · exact ⟨_, ⟨h, w, ps, rfl, C, Fc.rf, G.mo, Or.inl ⟨rfl, rfl⟩⟩, r_void cd_334_532 rfl rfl⟩
      · refine RX.st (fun _ k9 => r_aldR cd_334_295 rfl rfl k9) ?_
        refine RX.st (fun _ k9 => r_ild cd_334_296 rfl rfl k9) ?_
        refine RX.st (fun _ k9 => r_cI (x_155 C hI b (isBa_iff.mpr ⟨by omega, by omega⟩)) cd_334_297 rfl rfl rfl (rc0 h0 rfl) rfl rfl rfl k9) ?_
        refine RX.st (fun _ k9 => r_con (v := 1) cd_334_300 rfl (by decide) k9) ?_
        refine RX.st (fun _ k9 => r_add (v := (bo w b 1) + 1) cd_334_301 rfl (by rfl) k9) ?_
        refine RX.st (fun _ k9 => r_ild cd_334_302 rfl rfl k9) ?_
        refine RX.st (fun _ k9 => r_con (v := 9) cd_334_304 rfl (by decide) k9) ?_
        refine RX.st (fun _ k9 => r_rem cd_334_306 rfl (by omega) (by omega) (by omega) (by omega) k9) ?_
        rw [show ((y : Nat) : Int) % 9 = ((y % 9 : Nat) : Int) from by omega]
        refine RX.st (fun _ k9 => r_add (v := ((bo w b 1) + 1) + ((y % 9 : Nat) : Int)) cd_334_307 rfl (by rfl) k9) ?_
        refine RX.st (fun _ k9 => r_con (v := 30) cd_334_308 rfl (by decide) k9) ?_
        refine RX.br (fun _ k8 k9 => r_ic65 cd_334_310 rfl ⟨by omega, by omega⟩ ⟨by omega, by omega⟩ k8 k9) (fun n10 => ?_) (fun n10 => ?_)
        · exact ⟨_, ⟨h, w, ps, rfl, C, Fc.rf, G.mo, Or.inl ⟨rfl, rfl⟩⟩, r_void cd_334_532 rfl rfl⟩
        · refine RX.st (fun _ k9 => r_aldR cd_334_313 rfl rfl k9) ?_
          refine RX.st (fun _ k9 => r_ild cd_334_314 rfl rfl k9) ?_
          refine RX.st (fun _ k9 => r_con (v := 1) cd_334_315 rfl (by decide) k9) ?_
          refine RX.st (fun _ k9 => r_ild cd_334_316 rfl rfl k9) ?_
          refine RX.st (fun _ k9 => r_con (v := 9) cd_334_318 rfl (by decide) k9) ?_
          refine RX.st (fun _ k9 => r_rem cd_334_320 rfl (by omega) (by omega) (by omega) (by omega) k9) ?_
          rw [show ((y : Nat) : Int) % 9 = ((y % 9 : Nat) : Int) from by omega]
          refine RX.st (fun _ k9 => r_add (v := ((1 + y % 9 : Nat) : Int)) cd_334_321 rfl (by omega) k9) ?_
          obtain ⟨h1, v1, c1, C1, F1, G1⟩ := ch_145 C G hl b (1 + y % 9) (by omega) (by omega) (by omega) (by simp only [canF, Bool.and_eq_true, decide_eq_true_eq]; exact ⟨⟨n8, by omega⟩, by omega⟩)
          refine RX.st (fun _ k9 => r_cI c1 cd_334_322 rfl rfl rfl (rc0 h0 rfl) rfl rfl rfl k9) ?_
          refine RX.st (fun _ k9 => r_pop cd_334_325 rfl rfl k9) ?_
          refine RX.st (fun _ k9 => r_goto cd_334_326 k9) ?_
          exact ⟨_, ⟨h1, _, _, rfl, C1, F1, G1, Or.inr rfl⟩, r_void cd_334_532 rfl rfl⟩
    · exact ⟨_, ⟨h, w, ps, rfl, C, Fc.rf, G.mo, Or.inl ⟨rfl, rfl⟩⟩, r_void cd_334_532 rfl rfl⟩
  · have dm := hs
    refine RX.st (fun _ k9 => r_tsw (t := 329) cd_334_74 ⟨by omega, by omega⟩ (by rcases hs with rfl | rfl <;> decide) k9) ?_
    refine RX.st (fun _ k9 => r_aldR cd_334_329 rfl rfl k9) ?_
    refine RX.st (fun _ k9 => r_cI (x_115 C hI) cd_334_330 rfl rfl rfl (rc0 h0 rfl) rfl rfl rfl k9) ?_
    refine RX.st (fun _ k9 => r_con (v := 1) cd_334_333 rfl (by decide) k9) ?_
    refine RX.st (fun _ k9 => r_add (v := (w 1) + 1) cd_334_334 rfl (by rfl) k9) ?_
    refine RX.st (fun _ k9 => r_ild cd_334_335 rfl rfl k9) ?_
    refine RX.st (fun _ k9 => r_con (v := 4) cd_334_337 rfl (by decide) k9) ?_
    refine RX.st (fun _ k9 => r_rem cd_334_338 rfl (by omega) (by omega) (by omega) (by omega) k9) ?_
    rw [show ((y : Nat) : Int) % 4 = ((y % 4 : Nat) : Int) from by omega]
    refine RX.st (fun _ k9 => r_add (v := ((w 1) + 1) + ((y % 4 : Nat) : Int)) cd_334_339 rfl (by rfl) k9) ?_
    refine RX.st (fun _ k9 => r_con (v := 999) cd_334_340 rfl (by decide) k9) ?_
    refine RX.br (fun _ k8 k9 => r_ic65 cd_334_343 rfl ⟨by omega, by omega⟩ ⟨by omega, by omega⟩ k8 k9) (fun n11 => ?_) (fun n11 => ?_)
    · exact ⟨_, ⟨h, w, ps, rfl, C, Fc.rf, G.mo, Or.inl ⟨rfl, rfl⟩⟩, r_void cd_334_532 rfl rfl⟩
    · refine RX.st (fun _ k9 => r_aldR cd_334_346 rfl rfl k9) ?_
      refine RX.st (fun _ k9 => r_con (v := 1) cd_334_347 rfl (by decide) k9) ?_
      refine RX.st (fun _ k9 => r_ild cd_334_348 rfl rfl k9) ?_
      refine RX.st (fun _ k9 => r_con (v := 4) cd_334_350 rfl (by decide) k9) ?_
      refine RX.st (fun _ k9 => r_rem cd_334_351 rfl (by omega) (by omega) (by omega) (by omega) k9) ?_
      rw [show ((y : Nat) : Int) % 4 = ((y % 4 : Nat) : Int) from by omega]
      refine RX.st (fun _ k9 => r_add (v := ((1 + y % 4 : Nat) : Int)) cd_334_352 rfl (by omega) k9) ?_
      obtain ⟨h1, c1, C1, F1, G1⟩ := ch_148 C G hl (1 + y % 4) (by omega) (by omega) (by omega)
      refine RX.st (fun _ k9 => r_cI c1 cd_334_353 rfl rfl rfl (rc0 h0 rfl) rfl rfl rfl k9) ?_
      refine RX.st (fun _ k9 => r_pop cd_334_356 rfl rfl k9) ?_
      refine RX.st (fun _ k9 => r_goto cd_334_357 k9) ?_
      exact ⟨_, ⟨h1, _, _, rfl, C1, F1, G1, Or.inr rfl⟩, r_void cd_334_532 rfl rfl⟩
  · have dm := hs
    refine RX.st (fun _ k9 => r_tsw (t := 360) cd_334_74 ⟨by omega, by omega⟩ (by subst hs; decide) k9) ?_
    refine RX.st (fun _ k9 => r_aldR cd_334_360 rfl rfl k9) ?_
    refine RX.st (fun _ k9 => r_ild cd_334_361 rfl rfl k9) ?_
    refine RX.st (fun _ k9 => r_cI (x_163 C hI p (isPa_iff.mpr ⟨by omega, by omega⟩)) cd_334_362 rfl rfl rfl (rc0 h0 rfl) rfl rfl rfl k9) ?_
    refine RX.br (fun _ k8 k9 => r_if52 cd_334_365 rfl (hI.paR (p := p) (k := 4) (by omega) (by decide)) k8 k9) (fun n12 => ?_) (fun n12 => ?_)
    · refine RX.st (fun _ k9 => r_con (v := 0) cd_334_368 rfl (by decide) k9) ?_
      refine RX.st (fun _ k9 => r_ist cd_334_369 rfl rfl (L' := [aR 0, aI c, aI ((b : Nat) : Int), aI ((p : Nat) : Int), aI ((x : Nat) : Int), aI ((y : Nat) : Int), aI ((t : Nat) : Int), aI 0]) rfl k9) ?_
      exact lc_334 C G hl c b p x y t (by omega) n12 100 0 (by omega)
    · exact ⟨_, ⟨h, w, ps, rfl, C, Fc.rf, G.mo, Or.inl ⟨rfl, rfl⟩⟩, r_void cd_334_532 rfl rfl⟩
  · have dm := hs
    refine RX.st (fun _ k9 => r_tsw (t := 412) cd_334_74 ⟨by omega, by omega⟩ (by subst hs; decide) k9) ?_
    refine RX.st (fun _ k9 => r_aldR cd_334_412 rfl rfl k9) ?_
    refine RX.st (fun _ k9 => r_cI (x_118 C hI) cd_334_413 rfl rfl rfl (rc0 h0 rfl) rfl rfl rfl k9) ?_
    refine RX.st (fun _ k9 => r_con (v := 16) cd_334_416 rfl (by decide) k9) ?_
    refine RX.br (fun _ k8 k9 => r_ic64 cd_334_418 rfl (inR_of hI.pn (by decide) (by decide)) ⟨by omega, by omega⟩ k8 k9) (fun n13 => ?_) (fun n13 => ?_)
    · refine RX.st (fun _ k9 => r_aldR cd_334_421 rfl rfl k9) ?_
      refine RX.st (fun _ k9 => r_ild cd_334_422 rfl rfl k9) ?_
      refine RX.st (fun _ k9 => r_con (v := 100) cd_334_424 rfl (by decide) k9) ?_
      refine RX.st (fun _ k9 => r_rem cd_334_426 rfl (by omega) (by omega) (by omega) (by omega) k9) ?_
      rw [show ((y : Nat) : Int) % 100 = ((y % 100 : Nat) : Int) from by omega]
      refine RX.st (fun _ k9 => r_cI (x_120 C hI ((y % 100 : Nat) : Int) ⟨by omega, by omega⟩) cd_334_427 rfl rfl rfl (rc0 h0 rfl) rfl rfl rfl k9) ?_
      refine RX.st (fun _ k9 => r_con (v := (-1)) cd_334_430 rfl (by decide) k9) ?_
      refine RX.br (fun _ k8 k9 => r_ic62 cd_334_431 rfl (num_R hI _) ⟨by omega, by omega⟩ k8 k9) (fun n14 => ?_) (fun n14 => ?_)
      · refine RX.st (fun _ k9 => r_aldR cd_334_434 rfl rfl k9) ?_
        refine RX.st (fun _ k9 => r_con (v := 1) cd_334_435 rfl (by decide) k9) ?_
        refine RX.st (fun _ k9 => r_ild cd_334_436 rfl rfl k9) ?_
        refine RX.st (fun _ k9 => r_con (v := 9) cd_334_438 rfl (by decide) k9) ?_
        refine RX.st (fun _ k9 => r_rem cd_334_440 rfl (by omega) (by omega) (by omega) (by omega) k9) ?_
        rw [show ((y : Nat) : Int) % 9 = ((y % 9 : Nat) : Int) from by omega]
        refine RX.st (fun _ k9 => r_add (v := ((1 + y % 9 : Nat) : Int)) cd_334_441 rfl (by omega) k9) ?_
        refine RX.st (fun _ k9 => r_ild cd_334_442 rfl rfl k9) ?_
        refine RX.st (fun _ k9 => r_ild cd_334_444 rfl rfl k9) ?_
        refine RX.st (fun _ k9 => r_ild cd_334_446 rfl rfl k9) ?_
        refine RX.st (fun _ k9 => r_con (v := 100) cd_334_448 rfl (by decide) k9) ?_
        refine RX.st (fun _ k9 => r_rem cd_334_450 rfl (by omega) (by omega) (by omega) (by omega) k9) ?_
        rw [show ((y : Nat) : Int) % 100 = ((y % 100 : Nat) : Int) from by omega]
        obtain ⟨h1, v1, c1, C1, F1, G1⟩ := ch_137 C G hl ((1 + y % 9 : Nat) : Int) ((x : Nat) : Int) ((t : Nat) : Int) ((y % 100 : Nat) : Int) ⟨by omega, by omega⟩ ⟨by omega, by omega⟩ ⟨by omega, by omega⟩ ⟨by omega, by omega⟩ hne (by omega) n14
        refine RX.st (fun _ k9 => r_cI c1 cd_334_451 rfl rfl rfl (rc0 h0 rfl) rfl rfl rfl k9) ?_
        refine RX.st (fun _ k9 => r_pop cd_334_454 rfl rfl k9) ?_
        refine RX.st (fun _ k9 => r_goto cd_334_455 k9) ?_
        exact ⟨_, ⟨h1, _, _, rfl, C1, F1, G1, Or.inr rfl⟩, r_void cd_334_532 rfl rfl⟩
      · exact ⟨_, ⟨h, w, ps, rfl, C, Fc.rf, G.mo, Or.inl ⟨rfl, rfl⟩⟩, r_void cd_334_532 rfl rfl⟩
    · exact ⟨_, ⟨h, w, ps, rfl, C, Fc.rf, G.mo, Or.inl ⟨rfl, rfl⟩⟩, r_void cd_334_532 rfl rfl⟩
  · have dm := hs
    refine RX.st (fun _ k9 => r_tsw (t := 458) cd_334_74 ⟨by omega, by omega⟩ (by subst hs; decide) k9) ?_
    refine RX.st (fun _ k9 => r_aldR cd_334_458 rfl rfl k9) ?_
    refine RX.st (fun _ k9 => r_cI (x_117 C hI) cd_334_459 rfl rfl rfl (rc0 h0 rfl) rfl rfl rfl k9) ?_
    refine RX.st (fun _ k9 => r_con (v := 8) cd_334_462 rfl (by decide) k9) ?_
    refine RX.br (fun _ k8 k9 => r_ic64 cd_334_464 rfl (inR_of hI.bn (by decide) (by decide)) ⟨by omega, by omega⟩ k8 k9) (fun n15 => ?_) (fun n15 => ?_)
    · refine RX.st (fun _ k9 => r_aldR cd_334_467 rfl rfl k9) ?_
      refine RX.st (fun _ k9 => r_ild cd_334_468 rfl rfl k9) ?_
      refine RX.st (fun _ k9 => r_con (v := 1) cd_334_470 rfl (by decide) k9) ?_
      refine RX.st (fun _ k9 => r_ild cd_334_471 rfl rfl k9) ?_
      refine RX.st (fun _ k9 => r_con (v := 30) cd_334_473 rfl (by decide) k9) ?_
      refine RX.st (fun _ k9 => r_rem cd_334_475 rfl (by omega) (by omega) (by omega) (by omega) k9) ?_
      rw [show ((y : Nat) : Int) % 30 = ((y % 30 : Nat) : Int) from by omega]
      refine RX.st (fun _ k9 => r_add (v := ((1 + y % 30 : Nat) : Int)) cd_334_476 rfl (by omega) k9) ?_
      refine RX.st (fun _ k9 => r_con (v := 1) cd_334_477 rfl (by decide) k9) ?_
      refine RX.st (fun _ k9 => r_ild cd_334_478 rfl rfl k9) ?_
      refine RX.st (fun _ k9 => r_con (v := 9) cd_334_480 rfl (by decide) k9) ?_
      refine RX.st (fun _ k9 => r_rem cd_334_482 rfl (by omega) (by omega) (by omega) (by omega) k9) ?_
      rw [show ((y : Nat) : Int) % 9 = ((y % 9 : Nat) : Int) from by omega]
      refine RX.st (fun _ k9 => r_add (v := ((1 + y % 9 : Nat) : Int)) cd_334_483 rfl (by omega) k9) ?_
      obtain ⟨h1, v1, c1, C1, F1, G1⟩ := ch_136 C G hl ((x : Nat) : Int) ((1 + y % 30 : Nat) : Int) ((1 + y % 9 : Nat) : Int) ⟨by omega, by omega⟩ ⟨by omega, by omega⟩ ⟨by omega, by omega⟩ (by omega)
      refine RX.st (fun _ k9 => r_cI c1 cd_334_484 rfl rfl rfl (rc0 h0 rfl) rfl rfl rfl k9) ?_
      refine RX.st (fun _ k9 => r_pop cd_334_487 rfl rfl k9) ?_
      refine RX.st (fun _ k9 => r_goto cd_334_488 k9) ?_
      exact ⟨_, ⟨h1, _, _, rfl, C1, F1, G1, Or.inr rfl⟩, r_void cd_334_532 rfl rfl⟩
    · exact ⟨_, ⟨h, w, ps, rfl, C, Fc.rf, G.mo, Or.inl ⟨rfl, rfl⟩⟩, r_void cd_334_532 rfl rfl⟩
  · have dm := hs
    refine RX.st (fun _ k9 => r_tsw (t := 491) cd_334_74 ⟨by omega, by omega⟩ (by subst hs; decide) k9) ?_
    refine RX.st (fun _ k9 => r_aldR cd_334_491 rfl rfl k9) ?_
    refine RX.st (fun _ k9 => r_ild cd_334_492 rfl rfl k9) ?_
    refine RX.st (fun _ k9 => r_ild cd_334_494 rfl rfl k9) ?_
    refine RX.st (fun _ k9 => r_con (v := 5) cd_334_496 rfl (by decide) k9) ?_
    refine RX.st (fun _ k9 => r_rem cd_334_497 rfl (by omega) (by omega) (by omega) (by omega) k9) ?_
    rw [show ((y : Nat) : Int) % 5 = ((y % 5 : Nat) : Int) from by omega]
    obtain ⟨h1, v1, c1, C1, F1, G1⟩ := ch_133 C G hl x (by omega) ((y % 5 : Nat) : Int) ⟨by omega, by omega⟩
    refine RX.st (fun _ k9 => r_cI c1 cd_334_498 rfl rfl rfl (rc0 h0 rfl) rfl rfl rfl k9) ?_
    refine RX.st (fun _ k9 => r_pop cd_334_501 rfl rfl k9) ?_
    refine RX.st (fun _ k9 => r_goto cd_334_502 k9) ?_
    exact ⟨_, ⟨h1, _, _, rfl, C1, F1, G1, Or.inr rfl⟩, r_void cd_334_532 rfl rfl⟩
  · have dm := hs
    refine RX.st (fun _ k9 => r_tsw (t := 505) cd_334_74 ⟨by omega, by omega⟩ (by subst hs; decide) k9) ?_
    refine RX.st (fun _ k9 => r_aldR cd_334_505 rfl rfl k9) ?_
    refine RX.st (fun _ k9 => r_ild cd_334_506 rfl rfl k9) ?_
    refine RX.st (fun _ k9 => r_ild cd_334_508 rfl rfl k9) ?_
    refine RX.st (fun _ k9 => r_con (v := 6) cd_334_510 rfl (by decide) k9) ?_
    refine RX.st (fun _ k9 => r_rem cd_334_512 rfl (by omega) (by omega) (by omega) (by omega) k9) ?_
    rw [show ((y : Nat) : Int) % 6 = ((y % 6 : Nat) : Int) from by omega]
    obtain ⟨h1, v1, c1, C1, F1, G1⟩ := ch_130 C G hl x (by omega) ((y % 6 : Nat) : Int) ⟨by omega, by omega⟩
    refine RX.st (fun _ k9 => r_cI c1 cd_334_513 rfl rfl rfl (rc0 h0 rfl) rfl rfl rfl k9) ?_
    refine RX.st (fun _ k9 => r_pop cd_334_516 rfl rfl k9) ?_
    refine RX.st (fun _ k9 => r_goto cd_334_517 k9) ?_
    exact ⟨_, ⟨h1, _, _, rfl, C1, F1, G1, Or.inr rfl⟩, r_void cd_334_532 rfl rfl⟩
  · have dm := hs
    refine RX.st (fun _ k9 => r_tsw (t := 520) cd_334_74 ⟨by omega, by omega⟩ (by subst hs; decide) k9) ?_
    refine RX.st (fun _ k9 => r_aldR cd_334_520 rfl rfl k9) ?_
    refine RX.st (fun _ k9 => r_con (v := 1) cd_334_521 rfl (by decide) k9) ?_
    refine RX.st (fun _ k9 => r_ild cd_334_522 rfl rfl k9) ?_
    refine RX.st (fun _ k9 => r_con (v := 9) cd_334_524 rfl (by decide) k9) ?_
    refine RX.st (fun _ k9 => r_rem cd_334_526 rfl (by omega) (by omega) (by omega) (by omega) k9) ?_
    rw [show ((y : Nat) : Int) % 9 = ((y % 9 : Nat) : Int) from by omega]
    refine RX.st (fun _ k9 => r_add (v := ((1 + y % 9 : Nat) : Int)) cd_334_527 rfl (by omega) k9) ?_
    obtain ⟨h1, v1, c1, C1, F1, G1⟩ := ch_135 C G hl ((1 + y % 9 : Nat) : Int) ⟨by omega, by omega⟩
    refine RX.st (fun _ k9 => r_cI c1 cd_334_528 rfl rfl rfl (rc0 h0 rfl) rfl rfl rfl k9) ?_
    refine RX.st (fun _ k9 => r_pop cd_334_531 rfl rfl k9) ?_
    exact ⟨_, ⟨h1, _, _, rfl, C1, F1, G1, Or.inr rfl⟩, r_void cd_334_532 rfl rfl⟩
end DEED
