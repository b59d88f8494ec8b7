/-! THE REFERENCE: whole scripts; what is typed (written by wip/whole/gen35.py) -/
theorem ini0_z : TZ ini0 := fun j hj => by
  unfold ini0
  rw [vu_ne (by omega), vu_ne (by omega)]
def AQ (K y : Nat) (args : List aV) (h : aH) (s : Nat → Int) (r : Rs) : Prop := match r with
  | .inl e => ∃ h' s' w' nu', Ct K y args h (.inl (some (aI 0)), h') ∧ RZ h h' s' w' nu' ∧ TZ w' ∧ s' 11 = e.1 ∧ s' 12 = e.2 ∧ Fy s s'
  | .inr a => ∃ h' s' nu', Ct K y args h (.inl (some (aI 1)), h') ∧ RZ h h' s' a.2.1 nu' ∧ s' 11 = 0 ∧ Fy s s'
theorem lc_181_2 {tx : Nat → Int} {N : Nat} (hb : TxB tx) (hN6 : N ≤ 600) (Lq : List aV) (hLq : Lq = [aR 226]) : ∀ (f : Nat) {h : aH} {s w nu : Nat → Int} {i ex : Nat}, h.2.2 226 = .inr (8, Mo s) → h.2.2 233 = .inl (0, 600, .inl tx) → PS s tx N i → i ≤ N → h.2.2 227 = .inl (0, 211, .inl w) → h.2.2 235 = .inl (0, 4, .inl nu) → Inv w → s 20 = ((ex : Nat) : Int) → ex ≤ 200 → N + 1 - i ≤ f → LQ 15 181 Lq Lq 58 82 h s tx N (loopG 0 (deepR tx N 2) tx N f i w ex)
  | 0, h, s, w, nu, i, ex, hM, htx, hT, hi, hw, hnu, hI, hx, hx2, hf => by omega
  | f + 1, h, s, w, nu, i, ex, hM, htx, hT, hi, hw, hnu, hI, hx, hx2, hf => by
    subst hLq
    by_cases hk : tKnd tx N i = 0
    · rw [show loopG 0 (deepR tx N 2) tx N (f + 1) i w ex = .inr (i, w, ex) by unfold loopG; rw [if_pos hk]]
      refine ⟨h, s, nu, fun res k => ?_, RZ.rf hM hw hnu, hT, hx, Fy.rf⟩
      refine r_aldR cd_181_58 rfl rfl ?_
      refine r_get (v := aI (tKnd tx N i)) cd_181_59 rfl hM (by rw [← hT.2.2.1]; rfl) ?_
      refine r_if51 cd_181_62 rfl (inR_of (tKnd_b (tx := tx) (N := N) (i := i)) (by decide) (by decide)) (fun n1 => ?_) (fun n1 => ?_)
      · exact k
      · exact absurd hk n1
    have hQ := q_187_2 hM htx hb hN6 hT hi hw hnu hI hx hx2
    have hG := good_cmd (R := deepR tx N 2) (tx := tx) (good_deep hi hI hx2) hi hI hx2
    rcases hD : cmdG (deepR tx N 2) tx N i w ex with e | ⟨j, u, ey⟩
    · rw [show loopG 0 (deepR tx N 2) tx N (f + 1) i w ex = .inl e by rw [loop_s, if_neg hk, hD]; rfl]
      rw [hD] at hQ
      obtain ⟨h3, s3, w3, nu3, c3, z3, y3, e31, e32, f3⟩ := hQ
      refine ⟨h3, s3, w3, nu3, ?_, z3, y3, e31, e32, f3⟩
      refine r_aldR cd_181_58 rfl rfl ?_
      refine r_get (v := aI (tKnd tx N i)) cd_181_59 rfl hM (by rw [← hT.2.2.1]; rfl) ?_
      refine r_if51 cd_181_62 rfl (inR_of (tKnd_b (tx := tx) (N := N) (i := i)) (by decide) (by decide)) (fun n1 => ?_) (fun n1 => ?_)
      · exact absurd n1 hk
      · refine r_aldR cd_181_65 rfl rfl ?_
        refine r_con (v := 0) cd_181_66 rfl (by decide) ?_
        refine r_cI c3 cd_181_67 rfl rfl rfl (rc0 hM rfl) rfl rfl rfl ?_
        refine r_if52 cd_181_70 rfl ⟨by omega, by omega⟩ (fun n2 => ?_) (fun n2 => ?_)
        · refine r_con (v := 0) cd_181_73 rfl (by decide) ?_
          exact r_ret cd_181_74 (Or.inl rfl) (rfl)
        · exact absurd n2 (by decide)
    · rw [show loopG 0 (deepR tx N 2) tx N (f + 1) i w ex = loopG 0 (deepR tx N 2) tx N f j u ey by rw [loop_s, if_neg hk, hD]; rfl]
      rw [hD] at hQ hG
      obtain ⟨g1, g2, g3, g4⟩ := hG
      simp only at g1 g2 g3 g4
      obtain ⟨h3, s3, nu3, c3, z3, e31, e32, e33, f3⟩ := hQ
      simp only at z3 e31 e33
      have htx3 := (z3.2.2.2.1 233 (by decide) (by decide) (by decide)).trans htx
      obtain ⟨s4, hcN, t4, f4⟩ := nextZ z3.1 htx3 hb ((f3.1 10 (by omega)).trans hT.1) e32 hN6 e31 g2
      have z4 : RZ h (sw h3 226 (.inr (8, Mo s4))) s4 u nu3 := z3.s
      have hstep : ∀ res, RU 15 181 res (58, [aR 226], [], 0, 0, sw h3 226 (.inr (8, Mo s4))) → RU 15 181 res (58, [aR 226], [], 0, 0, h) := by
        intro res k
        refine r_aldR cd_181_58 rfl rfl ?_
        refine r_get (v := aI (tKnd tx N i)) cd_181_59 rfl hM (by rw [← hT.2.2.1]; rfl) ?_
        refine r_if51 cd_181_62 rfl (inR_of (tKnd_b (tx := tx) (N := N) (i := i)) (by decide) (by decide)) (fun n1 => ?_) (fun n1 => ?_)
        · exact absurd n1 hk
        · refine r_aldR cd_181_65 rfl rfl ?_
          refine r_con (v := 0) cd_181_66 rfl (by decide) ?_
          refine r_cI c3 cd_181_67 rfl rfl rfl (rc0 hM rfl) rfl rfl rfl ?_
          refine r_if52 cd_181_70 rfl ⟨by omega, by omega⟩ (fun n2 => ?_) (fun n2 => ?_)
          · exact absurd n2 (by decide)
          · refine r_aldR cd_181_75 rfl rfl ?_
            refine r_cV hcN cd_181_76 rfl rfl rfl (rc0 z3.1 rfl) rfl rfl rfl ?_
            refine r_goto cd_181_79 ?_
            exact k
      have ih := lc_181_2 hb hN6 [aR 226] rfl f (h := sw h3 226 (.inr (8, Mo s4))) (sw_at _ _ _) ((sw_ne (by decide)).trans htx3) t4 g2 z4.2.1 z4.2.2.1 g3 ((f4.1 20 (by omega)).trans e33) g4 (by omega)
      rcases hE : loopG 0 (deepR tx N 2) tx N f j u ey with e | ⟨j5, u5, ey5⟩
      · rw [hE] at ih
        obtain ⟨h5, s5, w5, nu5, c5, z5, y5, e51, e52, f5⟩ := ih
        exact ⟨h5, s5, w5, nu5, hstep _ c5, z4.tr z5, y5, e51, e52, (f3.tr f4.y).tr f5⟩
      · rw [hE] at ih
        obtain ⟨h5, s5, nu5, c5, z5, e51, e52, f5⟩ := ih
        exact ⟨h5, s5, nu5, fun res k => hstep _ (c5 res k), z4.tr z5, e51, e52, (f3.tr f4.y).tr f5⟩
theorem q_181 {h : aH} {s nu tx : Nat → Int} {N : Nat} (hM : h.2.2 226 = .inr (8, Mo s)) (htx : h.2.2 233 = .inl (0, 600, .inl tx)) (hb : TxB tx) (hN6 : N ≤ 600) (hT : PS s tx N 0) (hw : h.2.2 227 = .inl (0, 211, .inl ini0)) (hnu : h.2.2 235 = .inl (0, 4, .inl nu)) (hx : s 20 = ((0 : Nat) : Int)) : AQ 15 181 [aR 226] h s (parA tx N) := by
  by_cases hS : saysB tx N 0 (sT 52) = true
  rotate_left
  · rw [show parA tx N = .inl (1, ((tOff tx N 0 : Nat) : Int)) by unfold parA; rw [if_neg hS]]
    refine ⟨sw h 226 (.inr (8, Mo (erS s 1))), erS s 1, ini0, nu, Ct.of [aR 226] rfl ?_, (RZ.rf hM hw hnu).s, ini0_z, (vu_ne (by decide)).trans (vu_at _ _ _), (vu_at _ _ _).trans hT.2.2.2.1, (Fx.er (by decide)).y⟩
    refine r_aldR cd_181_0 rfl rfl ?_
    refine r_cst cd_181_1 rfl ?_
    refine r_cI (c_182 hM htx hb hN6 hT (Nat.zero_le N) 52 (by decide) (by decide)) cd_181_4 rfl rfl rfl (rc0 hM rfl) rfl rfl rfl ?_
    refine r_if52b cd_181_7 rfl (fun n1 => ?_) (fun n1 => ?_)
    · refine r_aldR cd_181_10 rfl rfl ?_
      refine r_con (v := 1) cd_181_11 rfl (by decide) ?_
      refine r_cI (c_183 hM hT.2.1 1) cd_181_12 rfl rfl rfl (rc0 hM rfl) rfl rfl rfl ?_
      exact r_ret cd_181_15 (Or.inl rfl) (rfl)
    · exact absurd n1 hS
  have p1 := tPos (tx := tx) (N := N) (i := 0) (Nat.zero_le N)
  obtain ⟨s1, hcN, t1, f1⟩ := nextZ hM htx hb hT.1 hT.2.1 hN6 hT.2.2.2.2.1 p1.2
  have z1 : RZ h (sw h 226 (.inr (8, Mo s1))) s1 ini0 nu := (RZ.rf hM hw hnu).s
  have htx1 := (z1.2.2.2.1 233 (by decide) (by decide) (by decide)).trans htx
  rcases hA : numA tx N (tEnd tx N 0) 8 30 with ⟨ek, eo⟩ | ⟨a, j1⟩
  · rw [show parA tx N = .inl (ek, eo) by unfold parA; rw [if_pos hS, hA]; rfl]
    obtain ⟨h2, hcE, s2, nu2, z2, e21, e22, f2⟩ := c_184e z1.1 htx1 hb hN6 t1 p1.2 z1.2.1 z1.2.2.1 0 (by decide) 8 ⟨by decide, by decide⟩ 30 ⟨by decide, by decide⟩ (by decide) hA
    refine ⟨h2, s2, ini0, nu2, Ct.of [aR 226] rfl ?_, z1.tr z2, ini0_z, e21, e22, (f1.tr f2).y⟩
    refine r_aldR cd_181_0 rfl rfl ?_
    refine r_cst cd_181_1 rfl ?_
    refine r_cI (c_182 hM htx hb hN6 hT (Nat.zero_le N) 52 (by decide) (by decide)) cd_181_4 rfl rfl rfl (rc0 hM rfl) rfl rfl rfl ?_
    refine r_if52b cd_181_7 rfl (fun n1 => ?_) (fun n1 => ?_)
    · exact Bool.noConfusion (n1.symm.trans hS)
    · refine r_aldR cd_181_16 rfl rfl ?_
      refine r_cV hcN cd_181_17 rfl rfl rfl (rc0 hM rfl) rfl rfl rfl ?_
      refine r_aldR cd_181_20 rfl rfl ?_
      refine r_con (v := 0) cd_181_21 rfl (by decide) ?_
      refine r_con (v := 8) cd_181_22 rfl (by decide) ?_
      refine r_con (v := 30) cd_181_24 rfl (by decide) ?_
      refine r_cI hcE cd_181_26 rfl rfl rfl (rc0 z1.1 rfl) rfl rfl rfl ?_
      refine r_if51 cd_181_29 rfl ⟨by omega, by omega⟩ (fun n2 => ?_) (fun n2 => ?_)
      · refine r_con (v := 0) cd_181_40 rfl (by decide) ?_
        exact r_ret cd_181_41 (Or.inl rfl) (rfl)
      · exact absurd n2 (by decide)
  obtain ⟨h2, s2, hc2, z2, t2, l2, f2⟩ := c_184o z1.1 htx1 hb hN6 t1 p1.2 z1.2.1 z1.2.2.1 0 (by decide) 8 ⟨by decide, by decide⟩ 30 ⟨by decide, by decide⟩ (by decide) hA
  have q1 := numA_o hA (by decide)
  have z3 := z1.tr z2
  have htx2 := (z3.2.2.2.1 233 (by decide) (by decide) (by decide)).trans htx
  by_cases h4 : tKnd tx N j1 = 1
  rotate_left
  · rw [show parA tx N = .inl (1, ((tOff tx N j1 : Nat) : Int)) by unfold parA; rw [if_pos hS, hA]; simp only [bnd]; rw [if_neg h4]]
    refine ⟨sw h2 226 (.inr (8, Mo (erS s2 1))), erS s2 1, ini0, _, Ct.of [aR 226] rfl ?_, z3.s, ini0_z, (vu_ne (by decide)).trans (vu_at _ _ _), (vu_at _ _ _).trans t2.2.2.2.1, ((f1.tr f2).tr (Fx.er (by decide))).y⟩
    refine r_aldR cd_181_0 rfl rfl ?_
    refine r_cst cd_181_1 rfl ?_
    refine r_cI (c_182 hM htx hb hN6 hT (Nat.zero_le N) 52 (by decide) (by decide)) cd_181_4 rfl rfl rfl (rc0 hM rfl) rfl rfl rfl ?_
    refine r_if52b cd_181_7 rfl (fun n1 => ?_) (fun n1 => ?_)
    · exact Bool.noConfusion (n1.symm.trans hS)
    · refine r_aldR cd_181_16 rfl rfl ?_
      refine r_cV hcN cd_181_17 rfl rfl rfl (rc0 hM rfl) rfl rfl rfl ?_
      refine r_aldR cd_181_20 rfl rfl ?_
      refine r_con (v := 0) cd_181_21 rfl (by decide) ?_
      refine r_con (v := 8) cd_181_22 rfl (by decide) ?_
      refine r_con (v := 30) cd_181_24 rfl (by decide) ?_
      refine r_cI hc2 cd_181_26 rfl rfl rfl (rc0 z1.1 rfl) rfl rfl rfl ?_
      refine r_if51 cd_181_29 rfl ⟨by omega, by omega⟩ (fun n2 => ?_) (fun n2 => ?_)
      · exact absurd n2 (by decide)
      · refine r_aldR cd_181_32 rfl rfl ?_
        refine r_con (v := 1) cd_181_33 rfl (by decide) ?_
        refine r_cI (c_185e z3.1 t2.2.1 1 ⟨by decide, by decide⟩ (by rw [t2.2.2.1]; exact (inR_of (tKnd_b (tx := tx) (N := N) (i := j1)) (by decide) (by decide))) (by rw [t2.2.2.1]; exact h4)) cd_181_34 rfl rfl rfl (rc0 z3.1 rfl) rfl rfl rfl ?_
        refine r_if52 cd_181_37 rfl ⟨by omega, by omega⟩ (fun n3 => ?_) (fun n3 => ?_)
        · refine r_con (v := 0) cd_181_40 rfl (by decide) ?_
          exact r_ret cd_181_41 (Or.inl rfl) (rfl)
        · exact absurd n3 (by decide)
  have p2 := tPos (tx := tx) l2
  have z4 : RZ h (sw h2 227 (.inl (0, 211, .inl (iniW ((a : Nat) : Int))))) s2 (iniW ((a : Nat) : Int)) (va_up nu 0 ((a : Nat) : Int)) := z3.w
  have htx4 := (z4.2.2.2.1 233 (by decide) (by decide) (by decide)).trans htx
  obtain ⟨s5, hcM, t5, f5⟩ := nextZ z4.1 htx4 hb t2.1 t2.2.1 hN6 t2.2.2.2.2.1 p2.2
  have z5 : RZ h (sw (sw h2 227 (.inl (0, 211, .inl (iniW ((a : Nat) : Int))))) 226 (.inr (8, Mo s5))) s5 (iniW ((a : Nat) : Int)) (va_up nu 0 ((a : Nat) : Int)) := z4.s
  have htx5 := (z5.2.2.2.1 233 (by decide) (by decide) (by decide)).trans htx
  have hstart : ∀ res, RU 15 181 res (58, [aR 226], [], 0, 0, sw (sw h2 227 (.inl (0, 211, .inl (iniW ((a : Nat) : Int))))) 226 (.inr (8, Mo s5))) → RU 15 181 res (0, [aR 226], [], 0, 0, h) := by
    intro res hk9
    refine r_aldR cd_181_0 rfl rfl ?_
    refine r_cst cd_181_1 rfl ?_
    refine r_cI (c_182 hM htx hb hN6 hT (Nat.zero_le N) 52 (by decide) (by decide)) cd_181_4 rfl rfl rfl (rc0 hM rfl) rfl rfl rfl ?_
    refine r_if52b cd_181_7 rfl (fun n1 => ?_) (fun n1 => ?_)
    · exact Bool.noConfusion (n1.symm.trans hS)
    · refine r_aldR cd_181_16 rfl rfl ?_
      refine r_cV hcN cd_181_17 rfl rfl rfl (rc0 hM rfl) rfl rfl rfl ?_
      refine r_aldR cd_181_20 rfl rfl ?_
      refine r_con (v := 0) cd_181_21 rfl (by decide) ?_
      refine r_con (v := 8) cd_181_22 rfl (by decide) ?_
      refine r_con (v := 30) cd_181_24 rfl (by decide) ?_
      refine r_cI hc2 cd_181_26 rfl rfl rfl (rc0 z1.1 rfl) rfl rfl rfl ?_
      refine r_if51 cd_181_29 rfl ⟨by omega, by omega⟩ (fun n2 => ?_) (fun n2 => ?_)
      · exact absurd n2 (by decide)
      · refine r_aldR cd_181_32 rfl rfl ?_
        refine r_con (v := 1) cd_181_33 rfl (by decide) ?_
        refine r_cI (c_185o z3.1 t2.2.1 1 ⟨by decide, by decide⟩ (by rw [t2.2.2.1]; exact (inR_of (tKnd_b (tx := tx) (N := N) (i := j1)) (by decide) (by decide))) (by rw [t2.2.2.1]; exact h4)) cd_181_34 rfl rfl rfl (rc0 z3.1 rfl) rfl rfl rfl ?_
        refine r_if52 cd_181_37 rfl ⟨by omega, by omega⟩ (fun n3 => ?_) (fun n3 => ?_)
        · exact absurd n3 (by decide)
        · refine r_aldR cd_181_42 rfl rfl ?_
          refine r_get cd_181_43 rfl z3.1 rfl ?_
          refine r_con (v := 0) cd_181_46 rfl (by decide) ?_
          refine r_aldR cd_181_47 rfl rfl ?_
          refine r_get cd_181_48 rfl z3.1 rfl ?_
          refine r_con (v := 0) cd_181_51 rfl (by decide) ?_
          refine r_arr (i := 0) cd_181_52 rfl z3.2.2.1 rfl (by omega) rfl ?_
          refine RU.cast (pc2 := 53) (S2 := [aI ((a : Nat) : Int), aI 0, aR 227]) rfl rfl rfl ?_
          refine r_arsI (i := 0) cd_181_53 rfl rfl z3.2.1 rfl (by omega) rfl ?_
          refine r_aldR cd_181_54 rfl rfl ?_
          refine r_cV hcM cd_181_55 rfl rfl rfl (rc0 ((sw_ne (by decide)).trans z3.1) rfl) rfl rfl rfl ?_
          exact hk9
  have hB := lc_181_2 hb hN6 _ rfl (N + 1) z5.1 htx5 t5 p2.2 z5.2.1 z5.2.2.1 (ini_inv q1.2.1 q1.2.2.1) ((f5.1 20 (by omega)).trans ((f2.1 20 (by omega)).trans ((f1.1 20 (by omega)).trans hx))) (by omega) (by omega)
  rcases hD : loopG 0 (deepR tx N 2) tx N (N + 1) (tEnd tx N j1) (iniW ((a : Nat) : Int)) 0 with e | ⟨j2, u, ey⟩
  · rw [show parA tx N = .inl e by unfold parA; rw [if_pos hS, hA]; simp only [bnd]; rw [if_pos h4, hD]]
    rw [hD] at hB
    obtain ⟨h6, s6, w6, nu6, c6, z6, y6, e61, e62, f6⟩ := hB
    exact ⟨h6, s6, w6, nu6, Ct.of [aR 226] rfl (hstart _ c6), z5.tr z6, y6, e61, e62, ((f1.tr f2).tr f5).y.tr f6⟩
  · rw [show parA tx N = .inr (j2, u, ey) by unfold parA; rw [if_pos hS, hA]; simp only [bnd]; rw [if_pos h4, hD]]
    rw [hD] at hB
    obtain ⟨h6, s6, nu6, c6, z6, e61, e62, f6⟩ := hB
    refine ⟨h6, s6, nu6, Ct.of [aR 226] rfl (hstart _ (c6 _ ?_)), z5.tr z6, e61.2.1, ((f1.tr f2).tr f5).y.tr f6⟩
    refine r_con (v := 1) cd_181_82 rfl (by decide) ?_
    exact r_ret cd_181_83 (Or.inr rfl) (rfl)
theorem zp_178 {s : Nat → Int} {res : aRes} : ∀ (m k : Nat) {h : aH} {d : Nat → Int}, h.2.2 226 = .inr (8, Mo s) → h.2.2 227 = .inl (0, 211, .inl d) → (∀ j, j < k ∨ 211 ≤ j → d j = 0) → k + m = 211 → RU 16 178 res (22, [aR 226, aI 211], [], 0, 0, sw h 227 (.inl (0, 211, .inl fun _ => 0))) → RU 16 178 res (2, [aR 226, aI ((k : Nat) : Int)], [], 0, 0, h) := by
  intro m
  induction m with
  | zero =>
    intro k h d hM hw hz hm hk
    have e : d = fun _ => 0 := funext fun j => hz j (by omega)
    subst e
    rw [sw_id hw, show (211 : Int) = ((k : Nat) : Int) by omega] at hk
    refine r_ild cd_178_2 rfl rfl ?_
    refine r_con (v := 211) cd_178_3 rfl (by decide) ?_
    refine r_ic64 cd_178_6 rfl ⟨by omega, by omega⟩ ⟨by omega, by omega⟩ (fun n1 => ?_) (fun n1 => ?_)
    · exact absurd n1 (by omega)
    · exact hk
  | succ m ih =>
    intro k h d hM hw hz hm hk
    refine r_ild cd_178_2 rfl rfl ?_
    refine r_con (v := 211) cd_178_3 rfl (by decide) ?_
    refine r_ic64 cd_178_6 rfl ⟨by omega, by omega⟩ ⟨by omega, by omega⟩ (fun n1 => ?_) (fun n1 => ?_)
    · refine r_aldR cd_178_9 rfl rfl ?_
      refine r_get cd_178_10 rfl hM rfl ?_
      refine r_ild cd_178_13 rfl rfl ?_
      refine r_con (v := 0) cd_178_14 rfl (by decide) ?_
      refine r_arsI (i := k) cd_178_15 rfl rfl hw rfl (by omega) rfl ?_
      refine r_inc (v := ((k + 1 : Nat) : Int)) cd_178_16 rfl rfl rfl (by omega) (L' := [aR 226, aI ((k + 1 : Nat) : Int)]) rfl ?_
      refine r_goto cd_178_19 ?_
      refine ih (k + 1) ((sw_ne (by decide)).trans hM) (sw_at _ _ _) (fun j hj => ?_) (by omega) (by rw [sw_sw]; exact hk)
      by_cases e : j = k
      · rw [e]; exact vu_at _ _ _
      · rw [vu_ne e]; exact hz j (by omega)
    · exact absurd n1 (by omega)
def Fz (s s' : Nat → Int) : Prop := ∀ j, j < 11 ∨ (12 < j ∧ j < 16) ∨ 21 ≤ j → s' j = s j
def BQ (K y : Nat) (args : List aV) (h : aH) (s : Nat → Int) (r : Rs) : Prop := match r with
  | .inl e => ∃ h' s' w' nu', Ct K y args h (.inl (some (aI 0)), h') ∧ RZ h h' s' w' nu' ∧ TZ w' ∧ s' 11 = e.1 ∧ s' 12 = e.2 ∧ Fz s s'
  | .inr a => ∃ h' s' nu', Ct K y args h (.inl (some (aI 1)), h') ∧ RZ h h' s' a.2.1 nu' ∧ s' 11 = 0 ∧ s' 12 = -1 ∧ Fz s s'
theorem q_178 {h : aH} {s w nu tx : Nat → Int} {N : Nat} (hM : h.2.2 226 = .inr (8, Mo s)) (htx : h.2.2 233 = .inl (0, 600, .inl tx)) (hb : TxB tx) (hN6 : N ≤ 600) (h10 : s 10 = ((N : Nat) : Int)) (hw : h.2.2 227 = .inl (0, 211, .inl w)) (hnu : h.2.2 235 = .inl (0, 4, .inl nu)) (hz : TZ w) : BQ 16 178 [aR 226] h s (parA tx N) := by
  have fv : Fz s (va_up (va_up (va_up (va_up s 11 0) 12 (-1)) 20 0) 18 0) := fun j hj => by rw [vu_ne (by omega), vu_ne (by omega), vu_ne (by omega), vu_ne (by omega)]
  have z0 : RZ h (sw (sw h 227 (.inl (0, 211, .inl ini0))) 226 (.inr (8, Mo (va_up (va_up (va_up (va_up s 11 0) 12 (-1)) 20 0) 18 0)))) (va_up (va_up (va_up (va_up s 11 0) 12 (-1)) 20 0) 18 0) ini0 nu := (RZ.rf hM hw hnu).w.s
  have htx0 := (z0.2.2.2.1 233 (by decide) (by decide) (by decide)).trans htx
  obtain ⟨s1, hcN, t1, f1⟩ := nextZ z0.1 htx0 hb ((fv 10 (by omega)).trans h10) (by rfl) hN6 (i := 0) (by rfl) (Nat.zero_le N)
  have z1 : RZ h (sw (sw (sw h 227 (.inl (0, 211, .inl ini0))) 226 (.inr (8, Mo (va_up (va_up (va_up (va_up s 11 0) 12 (-1)) 20 0) 18 0)))) 226 (.inr (8, Mo s1))) s1 ini0 nu := z0.s
  have htx1 := (z1.2.2.2.1 233 (by decide) (by decide) (by decide)).trans htx
  have hQ := q_181 z1.1 htx1 hb hN6 t1 z1.2.1 z1.2.2.1 ((f1.1 20 (by omega)).trans rfl)
  have hstart : ∀ v h' , v = 0 ∨ v = 1 → Ct 15 181 [aR 226] (sw (sw (sw h 227 (.inl (0, 211, .inl ini0))) 226 (.inr (8, Mo (va_up (va_up (va_up (va_up s 11 0) 12 (-1)) 20 0) 18 0)))) 226 (.inr (8, Mo s1))) (.inl (some (aI v)), h') → Ct 16 178 [aR 226] h (.inl (some (aI v)), h') := by
    intro v h' hv hc
    refine Ct.of [aR 226, aU] rfl ?_
    refine r_con (v := 0) cd_178_0 rfl (by decide) ?_
    refine r_ist cd_178_1 rfl rfl (L' := [aR 226, aI 0]) rfl ?_
    refine zp_178 211 0 hM hw (fun j hj => hz j (by omega)) (by omega) ?_
    refine r_aldR cd_178_22 rfl rfl ?_
    refine r_get cd_178_23 rfl ((sw_ne (by decide)).trans hM) rfl ?_
    refine r_con (v := 2) cd_178_26 rfl (by decide) ?_
    refine r_con (v := 50) cd_178_27 rfl (by decide) ?_
    refine r_arsI (i := 2) cd_178_29 rfl rfl (sw_at _ _ _) rfl (by omega) rfl ?_
    rw [sw_sw]
    refine r_aldR cd_178_30 rfl rfl ?_
    refine r_get cd_178_31 rfl ((sw_ne (by decide)).trans hM) rfl ?_
    refine r_con (v := 3) cd_178_34 rfl (by decide) ?_
    refine r_con (v := 3) cd_178_35 rfl (by decide) ?_
    refine r_arsI (i := 3) cd_178_36 rfl rfl (sw_at _ _ _) rfl (by omega) rfl ?_
    rw [sw_sw]
    refine r_aldR cd_178_37 rfl rfl ?_
    refine r_con (v := 0) cd_178_38 rfl (by decide) ?_
    refine r_put (fs' := Mo (va_up s 11 0)) cd_178_39 rfl ((sw_ne (by decide)).trans hM) rfl rfl ?_
    refine r_aldR cd_178_42 rfl rfl ?_
    refine r_con (v := (-1)) cd_178_43 rfl (by decide) ?_
    refine r_put (fs' := Mo (va_up (va_up s 11 0) 12 (-1))) cd_178_44 rfl (sw_at _ _ _) rfl rfl ?_
    rw [sw_sw]
    refine r_aldR cd_178_47 rfl rfl ?_
    refine r_con (v := 0) cd_178_48 rfl (by decide) ?_
    refine r_put (fs' := Mo (va_up (va_up (va_up s 11 0) 12 (-1)) 20 0)) cd_178_49 rfl (sw_at _ _ _) rfl rfl ?_
    rw [sw_sw]
    refine r_aldR cd_178_52 rfl rfl ?_
    refine r_con (v := 0) cd_178_53 rfl (by decide) ?_
    refine r_put (fs' := Mo (va_up (va_up (va_up (va_up s 11 0) 12 (-1)) 20 0) 18 0)) cd_178_54 rfl (sw_at _ _ _) rfl rfl ?_
    rw [sw_sw]
    refine r_aldR cd_178_57 rfl rfl ?_
    refine r_cV hcN cd_178_58 rfl rfl rfl (rc0 (sw_at _ _ _) rfl) rfl rfl rfl ?_
    refine r_aldR cd_178_61 rfl rfl ?_
    refine r_cI hc cd_178_62 rfl rfl rfl (rc0 z1.1 rfl) rfl rfl rfl ?_
    exact r_ret cd_178_65 hv (rfl)
  have fy : ∀ {s2}, Fy s1 s2 → Fz s s2 := fun g j hj => (g.1 j hj).trans ((f1.1 j (by omega)).trans (fv j hj))
  rcases hD : parA tx N with e | ⟨j2, u, ey⟩
  · rw [hD] at hQ
    obtain ⟨h6, s6, w6, nu6, c6, z6, y6, e61, e62, f6⟩ := hQ
    exact ⟨h6, s6, w6, nu6, hstart _ _ (Or.inl rfl) c6, z1.tr z6, y6, e61, e62, fy f6⟩
  · rw [hD] at hQ
    obtain ⟨h6, s6, nu6, c6, z6, e61, f6⟩ := hQ
    exact ⟨h6, s6, nu6, hstart _ _ (Or.inr rfl) c6, z1.tr z6, e61, ((f6.2 e61).2.trans (f1.2 (f6.2 e61).1).2), fy f6⟩
