/-! THE CLASS: a script's head; repeats (written by wip/whole/gen65.py) -/
theorem k_40_e0 {h : aH} (dp ex ek eo : Int) (hS : h.2.2 201 = SO dp ex ek eo) : Ct 1 40 [aR 201, aI 101] h (.inl (some (aI 30)), h) := by
  refine Ct.of [aR 201, aI 101] rfl ?_
  refine r_ild cd_40_0 rfl rfl ?_
  refine r_tsw (t := 177) cd_40_1 ⟨by omega, by omega⟩ (by decide) ?_
  refine r_con (v := 30) cd_40_177 rfl (by decide) ?_
  exact r_ret cd_40_179 True.intro (rfl)
theorem k_38_e0 {h : aH} (dp ex ek eo : Int) (hS : h.2.2 201 = SO dp ex ek eo) (v : Int) (hv : inR v) : Ct 2 38 [aR 201, aI 101, aI v] h (.inl (some (aI (bz (decide (8 ≤ v ∧ v ≤ 30))))), h) := by
  refine Ct.of [aR 201, aI 101, aI v] rfl ?_
  refine r_ild cd_38_0 rfl rfl ?_
  refine r_con (v := 111) cd_38_1 rfl (by decide) ?_
  refine r_ic62 cd_38_3 rfl ⟨by omega, by omega⟩ ⟨by omega, by omega⟩ (fun n1 => ?_) (fun n1 => ?_)
  · exact absurd n1 (by decide)
  · refine r_ild cd_38_18 rfl rfl ?_
    refine r_con (v := 107) cd_38_19 rfl (by decide) ?_
    refine r_ic62 cd_38_21 rfl ⟨by omega, by omega⟩ ⟨by omega, by omega⟩ (fun n2 => ?_) (fun n2 => ?_)
    · exact absurd n2 (by decide)
    · refine r_ild cd_38_47 rfl rfl ?_
      refine r_aldR cd_38_48 rfl rfl ?_
      refine r_ild cd_38_49 rfl rfl ?_
      refine r_cI k_39_e cd_38_50 rfl rfl rfl (rc0 hS rfl) rfl rfl rfl ?_
      refine r_ic63 cd_38_53 rfl hv ⟨by omega, by omega⟩ (fun n3 => ?_) (fun n3 => ?_)
      · refine r_con (v := 0) cd_38_69 rfl (by decide) ?_
        exact r_ret cd_38_70 (Or.inl rfl) (rB (by rw [decide_eq_false (show ¬ (8 ≤ v ∧ v ≤ 30) by omega)]; rfl))
      · refine r_ild cd_38_56 rfl rfl ?_
        refine r_aldR cd_38_57 rfl rfl ?_
        refine r_ild cd_38_58 rfl rfl ?_
        refine r_cI (k_40_e0 dp ex ek eo hS) cd_38_59 rfl rfl rfl (rc0 hS rfl) rfl rfl rfl ?_
        refine r_ic65 cd_38_62 rfl hv ⟨by omega, by omega⟩ (fun n4 => ?_) (fun n4 => ?_)
        · refine r_con (v := 0) cd_38_69 rfl (by decide) ?_
          exact r_ret cd_38_70 (Or.inl rfl) (rB (by rw [decide_eq_false (show ¬ (8 ≤ v ∧ v ≤ 30) by omega)]; rfl))
        · refine r_con (v := 1) cd_38_65 rfl (by decide) ?_
          refine r_goto cd_38_66 ?_
          exact r_ret cd_38_70 (Or.inr rfl) (rB (by rw [decide_eq_true (show 8 ≤ v ∧ v ≤ 30 by omega)]; rfl))
theorem v_37_e0 {h : aH} {tx tb : Nat → Int} {N : Nat} (hN : N ≤ 600) (hT : ∀ k, k < N → BT (tx k) (tb k)) (dp ex ek eo : Int) (hS : h.2.2 201 = SO dp ex ek eo) (hb : TxB tx) (st kd vl : Int) (i : Nat) (hi : i ≤ N) (hO : h.2.2 202 = TO N st ((i : Nat) : Int) kd vl) (hB : h.2.2 203 = .inl (1, 600, .inl tb)) : NumP 4 37 [aR 201, aI 101] h N dp ex ek eo (numA tx N i 8 30) := by
  obtain ⟨vl', c1, hv⟩ := v_64 hN hT st kd vl i hi hO hB
  have hkb := kM_b (k := tKnd tx N i)
  have hk3 := kM_3 (tx := tx) (N := N) (i := i)
  by_cases hk : tKnd tx N i = 3
  rotate_left
  · rw [show numA tx N i 8 30 = .inl (1, ((tOff tx N i : Nat) : Int)) by unfold numA; rw [if_pos hk]]
    refine ⟨sw (sw h 202 (TO N ((tOff tx N i : Nat) : Int) ((tEnd tx N i : Nat) : Int) (kM (tKnd tx N i)) vl')) 201 (SO dp ex 1 ((tOff tx N i : Nat) : Int)), Ct.of [aR 201, aI 101] rfl ?_, sw_at _ _ _, ⟨_, _, _, _, (sw_ne (by decide)).trans (sw_at _ _ _)⟩, NO.rf.t.s⟩
    refine r_aldR cd_37_0 rfl rfl ?_
    refine r_get cd_37_1 rfl hS rfl ?_
    refine r_cV c1 cd_37_4 rfl rfl rfl (rc0 hO rfl) rfl rfl rfl ?_
    refine r_aldR cd_37_7 rfl rfl ?_
    refine r_get cd_37_8 rfl ((sw_ne (by decide)).trans hS) rfl ?_
    refine r_get cd_37_11 rfl (sw_at _ _ _) rfl ?_
    refine r_con (v := 2) cd_37_14 rfl (by decide) ?_
    refine r_ic61 cd_37_15 rfl ⟨by omega, by omega⟩ ⟨by omega, by omega⟩ (fun n1 => ?_) (fun n1 => ?_)
    · exact absurd (hk3.mp n1) hk
    · refine r_aldR cd_37_18 rfl rfl ?_
      refine r_con (v := 1) cd_37_19 rfl (by decide) ?_
      refine r_cI (k_36 dp ex ek eo ((sw_ne (by decide)).trans hS) N _ _ _ _ (sw_at _ _ _) 1) cd_37_20 rfl rfl rfl (rc0 ((sw_ne (by decide)).trans hS) rfl) rfl rfl rfl ?_
      exact r_ret cd_37_23 (Or.inl rfl) (rfl)
  have hvv := hv hk
  have hvr : inR vl' := by rw [hvv]; exact tVal_in hb hk
  have nk : ¬ ¬ tKnd tx N i = 3 := fun e => e hk
  have es : (decide (8 ≤ vl' ∧ vl' ≤ 30)) = true ↔ 8 ≤ tVal tx N i ∧ tVal tx N i ≤ 30 := by rw [hvv]; simp
  by_cases hs : 8 ≤ tVal tx N i ∧ tVal tx N i ≤ 30
  · rw [show numA tx N i 8 30 = .inr ((tVal tx N i).toNat, tEnd tx N i) by unfold numA; rw [if_neg nk, if_pos hs]]
    have h0 : 0 ≤ tVal tx N i := by have := hs.1; omega
    refine ⟨(sw h 202 (TO N ((tOff tx N i : Nat) : Int) ((tEnd tx N i : Nat) : Int) (kM (tKnd tx N i)) vl')), Ct.of [aR 201, aI 101] rfl ?_, (sw_ne (by decide)).trans hS, ⟨_, _, (sw_at _ _ _).trans (by rw [hvv]; show TO _ _ _ _ _ = TO _ _ _ _ (((tVal tx N i).toNat : Nat) : Int); rw [Int.toNat_of_nonneg h0])⟩, NO.rf.t⟩
    refine r_aldR cd_37_0 rfl rfl ?_
    refine r_get cd_37_1 rfl hS rfl ?_
    refine r_cV c1 cd_37_4 rfl rfl rfl (rc0 hO rfl) rfl rfl rfl ?_
    refine r_aldR cd_37_7 rfl rfl ?_
    refine r_get cd_37_8 rfl ((sw_ne (by decide)).trans hS) rfl ?_
    refine r_get cd_37_11 rfl (sw_at _ _ _) rfl ?_
    refine r_con (v := 2) cd_37_14 rfl (by decide) ?_
    refine r_ic61 cd_37_15 rfl ⟨by omega, by omega⟩ ⟨by omega, by omega⟩ (fun n1 => ?_) (fun n1 => ?_)
    · refine r_aldR cd_37_24 rfl rfl ?_
      refine r_ild cd_37_25 rfl rfl ?_
      refine r_aldR cd_37_26 rfl rfl ?_
      refine r_get cd_37_27 rfl ((sw_ne (by decide)).trans hS) rfl ?_
      refine r_get cd_37_30 rfl (sw_at _ _ _) rfl ?_
      refine r_cI (k_38_e0 dp ex ek eo ((sw_ne (by decide)).trans hS) vl' hvr) cd_37_33 rfl rfl rfl (rc0 ((sw_ne (by decide)).trans hS) rfl) rfl rfl rfl ?_
      refine r_if52b cd_37_36 rfl (fun n2 => ?_) (fun n2 => ?_)
      · exact Bool.noConfusion (n2.symm.trans (es.mpr hs))
      · refine r_con (v := 1) cd_37_47 rfl (by decide) ?_
        refine r_goto cd_37_48 ?_
        exact r_ret cd_37_52 (Or.inr rfl) (rfl)
    · exact absurd (hk3.mpr hk) n1
  · rw [show numA tx N i 8 30 = .inl (2, ((tOff tx N i : Nat) : Int)) by unfold numA; rw [if_neg nk, if_neg hs]]
    refine ⟨sw (sw h 202 (TO N ((tOff tx N i : Nat) : Int) ((tEnd tx N i : Nat) : Int) (kM (tKnd tx N i)) vl')) 201 (SO dp ex 2 ((tOff tx N i : Nat) : Int)), Ct.of [aR 201, aI 101] rfl ?_, sw_at _ _ _, ⟨_, _, _, _, (sw_ne (by decide)).trans (sw_at _ _ _)⟩, NO.rf.t.s⟩
    refine r_aldR cd_37_0 rfl rfl ?_
    refine r_get cd_37_1 rfl hS rfl ?_
    refine r_cV c1 cd_37_4 rfl rfl rfl (rc0 hO rfl) rfl rfl rfl ?_
    refine r_aldR cd_37_7 rfl rfl ?_
    refine r_get cd_37_8 rfl ((sw_ne (by decide)).trans hS) rfl ?_
    refine r_get cd_37_11 rfl (sw_at _ _ _) rfl ?_
    refine r_con (v := 2) cd_37_14 rfl (by decide) ?_
    refine r_ic61 cd_37_15 rfl ⟨by omega, by omega⟩ ⟨by omega, by omega⟩ (fun n1 => ?_) (fun n1 => ?_)
    · refine r_aldR cd_37_24 rfl rfl ?_
      refine r_ild cd_37_25 rfl rfl ?_
      refine r_aldR cd_37_26 rfl rfl ?_
      refine r_get cd_37_27 rfl ((sw_ne (by decide)).trans hS) rfl ?_
      refine r_get cd_37_30 rfl (sw_at _ _ _) rfl ?_
      refine r_cI (k_38_e0 dp ex ek eo ((sw_ne (by decide)).trans hS) vl' hvr) cd_37_33 rfl rfl rfl (rc0 ((sw_ne (by decide)).trans hS) rfl) rfl rfl rfl ?_
      refine r_if52b cd_37_36 rfl (fun n2 => ?_) (fun n2 => ?_)
      · refine r_aldR cd_37_39 rfl rfl ?_
        refine r_con (v := 2) cd_37_40 rfl (by decide) ?_
        refine r_cI (k_36 dp ex ek eo ((sw_ne (by decide)).trans hS) N _ _ _ _ (sw_at _ _ _) 2) cd_37_41 rfl rfl rfl (rc0 ((sw_ne (by decide)).trans hS) rfl) rfl rfl rfl ?_
        refine r_if51 cd_37_44 rfl ⟨by omega, by omega⟩ (fun n3 => ?_) (fun n3 => ?_)
        · refine r_con (v := 0) cd_37_51 rfl (by decide) ?_
          exact r_ret cd_37_52 (Or.inl rfl) (rfl)
        · exact absurd n3 (by decide)
      · exact absurd (es.mp n2) hs
    · exact absurd (hk3.mpr hk) n1
/-- a script's head: the street's length, the place behind it -/
def headA (tx : Nat → Int) (N : Nat) : Er ⊕ (Nat × Nat) := if saysB tx N 0 (sT 52) = true then (bnd (numA tx N (tEnd tx N 0) 8 30) fun a => if tKnd tx N a.2 = 1 then .inr (a.1, tEnd tx N a.2) else .inl (1, ((tOff tx N a.2 : Nat) : Int))) else .inl (1, ((tOff tx N 0 : Nat) : Int))
theorem par_e {tx : Nat → Int} {N : Nat} : parA tx N = bnd (headA tx N) fun a => loopG 0 (deepR tx N 2) tx N (N + 1) a.2 (iniW ((a.1 : Nat) : Int)) 0 := by
  unfold parA headA
  by_cases h : saysB tx N 0 (sT 52) = true
  · rw [if_pos h, if_pos h]
    rcases numA tx N (tEnd tx N 0) 8 30 with e | ⟨a, j⟩
    · rfl
    · show (if tKnd tx N j = 1 then _ else _) = bnd (if tKnd tx N j = 1 then _ else _) _
      by_cases hk : tKnd tx N j = 1
      · rw [if_pos hk, if_pos hk]; rfl
      · rw [if_neg hk, if_neg hk]; rfl
  · rw [if_neg h, if_neg h]; rfl
def HeadP (K y : Nat) (args : List aV) (h : aH) (N : Nat) (dp ex ek eo : Int) (r : Er ⊕ (Nat × Nat)) : Prop := match r with
  | .inl e => ∃ h', Ct K y args h (.inl (some (aI 0)), h') ∧ h'.2.2 201 = SO dp ex e.1 e.2 ∧ (∃ st nx kd vl, h'.2.2 202 = TO N st nx kd vl) ∧ Ex h' 204 ∧ NC h h' ∧ h'.2.2 222 = h.2.2 222
  | .inr a => ∃ h', Ct K y args h (.inl (some (aI 1)), h') ∧ h'.2.2 201 = SO dp ex ek eo ∧ (∃ st kd vl, h'.2.2 202 = TO N st ((a.2 : Nat) : Int) kd vl) ∧ Rp h' 204 (iniW ((a.1 : Nat) : Int)) ∧ NC h h' ∧ h'.2.2 222 = h.2.2 222
theorem Ex.o {h : aH} {B : Nat} (R : Ex h B) : ∃ fs, h.2.2 B = .inr (6, fs) := by
  obtain ⟨v, d, W⟩ := R
  exact ⟨_, W.1⟩
theorem NO.ex {h h' : aH} (a : NO h h') (R : Ex h 204) : Ex h' 204 := R.mv fun q h1 h2 => a.1 q (by omega) (by omega)
theorem v_35 {h : aH} {tx tb : Nat → Int} {N : Nat} (hN : N ≤ 600) (hT : ∀ k, k < N → BT (tx k) (tb k)) (dp ex ek eo : Int) (hS : h.2.2 201 = SO dp ex ek eo) (hX : Ex h 204) (hb : TxB tx) (st kd vl : Int) (hO : h.2.2 202 = TO N st ((0 : Nat) : Int) kd vl) (hB : h.2.2 203 = .inl (1, 600, .inl tb)) : HeadP 6 35 [aR 201] h N dp ex ek eo (headA tx N) := by
  obtain ⟨vl', c1, hv⟩ := v_64 hN hT st kd vl 0 (by omega) hO hB
  have cw := k_71 (h := (sw h 202 (TO N ((tOff tx N 0 : Nat) : Int) ((tEnd tx N 0 : Nat) : Int) (kM (tKnd tx N 0)) vl'))) hN hT 0 (by omega) vl' (sw_at _ _ _) ((sw_ne (by decide)).trans hB) 20 (by decide) (by decide)
  rw [t_str] at cw
  have he0 := (tPos (tx := tx) (N := N) (i := 0) (by omega)).2
  by_cases hy : saysB tx N 0 (sT 52) = true
  rotate_left
  · rw [show headA tx N = .inl (1, ((tOff tx N 0 : Nat) : Int)) from if_neg hy]
    refine ⟨sw (sw h 202 (TO N ((tOff tx N 0 : Nat) : Int) ((tEnd tx N 0 : Nat) : Int) (kM (tKnd tx N 0)) vl')) 201 (SO dp ex 1 ((tOff tx N 0 : Nat) : Int)), Ct.of [aR 201, aU] rfl ?_, sw_at _ _ _, ⟨_, _, _, _, (sw_ne (by decide)).trans (sw_at _ _ _)⟩, hX.mv fun a h1 h2 => (sw_ne (by omega)).trans (sw_ne (by omega)), NO.rf.t.s.nc, (sw_ne (by decide)).trans (sw_ne (by decide))⟩
    refine r_aldR cd_35_0 rfl rfl ?_
    refine r_get cd_35_1 rfl hS rfl ?_
    refine r_cV c1 cd_35_4 rfl rfl rfl (rc0 hO rfl) rfl rfl rfl ?_
    refine r_aldR cd_35_7 rfl rfl ?_
    refine r_get cd_35_8 rfl ((sw_ne (by decide)).trans hS) rfl ?_
    refine r_cst cd_35_11 rfl ?_
    refine r_cI cw cd_35_13 rfl rfl rfl (rc0 (sw_at _ _ _) rfl) rfl rfl rfl ?_
    refine r_if52b cd_35_16 rfl (fun n61 => ?_) (fun n61 => ?_)
    · refine r_aldR cd_35_19 rfl rfl ?_
      refine r_con (v := 1) cd_35_20 rfl (by decide) ?_
      refine r_cI (k_36 dp ex ek eo ((sw_ne (by decide)).trans hS) N _ _ _ _ (sw_at _ _ _) 1) cd_35_21 rfl rfl rfl (rc0 ((sw_ne (by decide)).trans hS) rfl) rfl rfl rfl ?_
      exact r_ret cd_35_24 (Or.inl rfl) (rfl)
    · exact absurd n61 hy
  have P1 := v_37_e0 (h := (sw h 202 (TO N ((tOff tx N 0 : Nat) : Int) ((tEnd tx N 0 : Nat) : Int) (kM (tKnd tx N 0)) vl'))) hN hT dp ex ek eo ((sw_ne (by decide)).trans hS) hb _ _ _ (tEnd tx N 0) he0 (sw_at _ _ _) ((sw_ne (by decide)).trans hB)
  rcases hA1 : numA tx N (tEnd tx N 0) 8 30 with e | ⟨q1, j1⟩
  · rw [hA1] at P1
    obtain ⟨g1, d1, s1, t1, m1⟩ := P1
    rw [show headA tx N = .inl e from (if_pos hy).trans (bnd_e hA1)]
    have n1 := (NO.rf (h := h)).t.tr m1
    refine ⟨g1, Ct.of [aR 201, aU] rfl ?_, s1, t1, n1.ex hX, n1.nc, n1.1 222 (by decide) (by decide)⟩
    refine r_aldR cd_35_0 rfl rfl ?_
    refine r_get cd_35_1 rfl hS rfl ?_
    refine r_cV c1 cd_35_4 rfl rfl rfl (rc0 hO rfl) rfl rfl rfl ?_
    refine r_aldR cd_35_7 rfl rfl ?_
    refine r_get cd_35_8 rfl ((sw_ne (by decide)).trans hS) rfl ?_
    refine r_cst cd_35_11 rfl ?_
    refine r_cI cw cd_35_13 rfl rfl rfl (rc0 (sw_at _ _ _) rfl) rfl rfl rfl ?_
    refine r_if52b cd_35_16 rfl (fun n61 => ?_) (fun n61 => ?_)
    · exact Bool.noConfusion (n61.symm.trans hy)
    · refine r_aldR cd_35_25 rfl rfl ?_
      refine r_con (v := 101) cd_35_26 rfl (by decide) ?_
      refine r_cI d1 cd_35_28 rfl rfl rfl (rc0 ((sw_ne (by decide)).trans hS) rfl) rfl rfl rfl ?_
      refine r_if52 cd_35_31 rfl ⟨by omega, by omega⟩ (fun n62 => ?_) (fun n62 => ?_)
      · refine r_con (v := 0) cd_35_34 rfl (by decide) ?_
        exact r_ret cd_35_35 (Or.inl rfl) (rfl)
      · exact absurd n62 (by decide)
  · rw [hA1] at P1
    obtain ⟨g1, d1, s1, ⟨st1, kd1, t1⟩, m1⟩ := P1
    have n1 := (NO.rf (h := h)).t.tr m1
    have b1 : g1.2.2 203 = .inl (1, 600, .inl tb) := (n1.1 203 (by decide) (by decide)).trans hB
    obtain ⟨z1, z2, z3, z4, -⟩ := numA_o hA1 (by decide)
    have i1 : j1 ≤ N := by rw [z4]; exact (tPos he0).2
    by_cases hk : tKnd tx N j1 = 1
    rotate_left
    · obtain ⟨gs, ds, ss, ts, ms⟩ := v_41_5b hN hT dp ex ek eo s1 st1 kd1 ((q1 : Nat) : Int) j1 i1 t1 b1 hk
      have n2 := n1.tr ms
      rw [show headA tx N = .inl (1, ((tOff tx N j1 : Nat) : Int)) from (if_pos hy).trans ((bnd_r hA1).trans (if_neg hk))]
      refine ⟨gs, Ct.of [aR 201, aU] rfl ?_, ss, ts, n2.ex hX, n2.nc, n2.1 222 (by decide) (by decide)⟩
      refine r_aldR cd_35_0 rfl rfl ?_
      refine r_get cd_35_1 rfl hS rfl ?_
      refine r_cV c1 cd_35_4 rfl rfl rfl (rc0 hO rfl) rfl rfl rfl ?_
      refine r_aldR cd_35_7 rfl rfl ?_
      refine r_get cd_35_8 rfl ((sw_ne (by decide)).trans hS) rfl ?_
      refine r_cst cd_35_11 rfl ?_
      refine r_cI cw cd_35_13 rfl rfl rfl (rc0 (sw_at _ _ _) rfl) rfl rfl rfl ?_
      refine r_if52b cd_35_16 rfl (fun n61 => ?_) (fun n61 => ?_)
      · exact Bool.noConfusion (n61.symm.trans hy)
      · refine r_aldR cd_35_25 rfl rfl ?_
        refine r_con (v := 101) cd_35_26 rfl (by decide) ?_
        refine r_cI d1 cd_35_28 rfl rfl rfl (rc0 ((sw_ne (by decide)).trans hS) rfl) rfl rfl rfl ?_
        refine r_if52 cd_35_31 rfl ⟨by omega, by omega⟩ (fun n62 => ?_) (fun n62 => ?_)
        · exact absurd n62 (by decide)
        · refine r_aldR cd_35_36 rfl rfl ?_
          refine r_get cd_35_37 rfl s1 rfl ?_
          refine r_get cd_35_40 rfl t1 rfl ?_
          refine r_ist cd_35_43 rfl rfl (L' := [aR 201, aI ((q1 : Nat) : Int)]) rfl ?_
          refine r_aldR cd_35_44 rfl rfl ?_
          refine r_con (v := 5) cd_35_45 rfl (by decide) ?_
          refine r_cI ds cd_35_46 rfl rfl rfl (rc0 s1 rfl) rfl rfl rfl ?_
          refine r_if52 cd_35_49 rfl ⟨by omega, by omega⟩ (fun n63 => ?_) (fun n63 => ?_)
          · refine r_con (v := 0) cd_35_52 rfl (by decide) ?_
            exact r_ret cd_35_53 (Or.inl rfl) (rfl)
          · exact absurd n63 (by decide)
    · obtain ⟨gs, ds, ss, ⟨kds, vls, ts⟩, ms⟩ := v_41_5a hN hT dp ex ek eo s1 st1 kd1 ((q1 : Nat) : Int) j1 i1 t1 b1 hk
      have n2 := n1.tr ms
      have hXs := n2.ex hX
      obtain ⟨fs, o204⟩ := hXs.o
      obtain ⟨gc, dc, Rc, Fc⟩ := v_75 hXs ((q1 : Nat) : Int)
      rw [show headA tx N = .inr (q1, tEnd tx N j1) from (if_pos hy).trans ((bnd_r hA1).trans (if_pos hk))]
      refine ⟨gc, Ct.of [aR 201, aU] rfl ?_, (Fc.1 201 (by decide)).trans ss, ⟨_, _, _, (Fc.1 202 (by decide)).trans ts⟩, Rc, n2.nc.tr Fc.nc, (Fc.1 222 (by decide)).trans (n2.1 222 (by decide) (by decide))⟩
      refine r_aldR cd_35_0 rfl rfl ?_
      refine r_get cd_35_1 rfl hS rfl ?_
      refine r_cV c1 cd_35_4 rfl rfl rfl (rc0 hO rfl) rfl rfl rfl ?_
      refine r_aldR cd_35_7 rfl rfl ?_
      refine r_get cd_35_8 rfl ((sw_ne (by decide)).trans hS) rfl ?_
      refine r_cst cd_35_11 rfl ?_
      refine r_cI cw cd_35_13 rfl rfl rfl (rc0 (sw_at _ _ _) rfl) rfl rfl rfl ?_
      refine r_if52b cd_35_16 rfl (fun n61 => ?_) (fun n61 => ?_)
      · exact Bool.noConfusion (n61.symm.trans hy)
      · refine r_aldR cd_35_25 rfl rfl ?_
        refine r_con (v := 101) cd_35_26 rfl (by decide) ?_
        refine r_cI d1 cd_35_28 rfl rfl rfl (rc0 ((sw_ne (by decide)).trans hS) rfl) rfl rfl rfl ?_
        refine r_if52 cd_35_31 rfl ⟨by omega, by omega⟩ (fun n62 => ?_) (fun n62 => ?_)
        · exact absurd n62 (by decide)
        · refine r_aldR cd_35_36 rfl rfl ?_
          refine r_get cd_35_37 rfl s1 rfl ?_
          refine r_get cd_35_40 rfl t1 rfl ?_
          refine r_ist cd_35_43 rfl rfl (L' := [aR 201, aI ((q1 : Nat) : Int)]) rfl ?_
          refine r_aldR cd_35_44 rfl rfl ?_
          refine r_con (v := 5) cd_35_45 rfl (by decide) ?_
          refine r_cI ds cd_35_46 rfl rfl rfl (rc0 s1 rfl) rfl rfl rfl ?_
          refine r_if52 cd_35_49 rfl ⟨by omega, by omega⟩ (fun n63 => ?_) (fun n63 => ?_)
          · exact absurd n63 (by decide)
          · refine r_aldR cd_35_54 rfl rfl ?_
            refine r_get cd_35_55 rfl ss rfl ?_
            refine r_ild cd_35_58 rfl rfl ?_
            refine r_cV dc cd_35_59 rfl rfl rfl (rc0 o204 rfl) rfl rfl rfl ?_
            refine r_con (v := 1) cd_35_62 rfl (by decide) ?_
            exact r_ret cd_35_63 (Or.inr rfl) (rfl)
/-- the cells but the script's, the tokens' and those of the open repeats are as before -/
def NR (h h' : aH) : Prop := (∀ a, ¬ a = 201 → ¬ a = 202 → ¬ a = 223 → ¬ a = 224 → h'.2.2 a = h.2.2 a) ∧ h'.1 = h.1 ∧ h'.2.1 = h.2.1
theorem NR.rf {h : aH} : NR h h := ⟨fun _ _ _ _ _ => rfl, rfl, rfl⟩
theorem NO.nr {h h' : aH} (a : NO h h') : NR h h' := ⟨fun q x y _ _ => a.1 q x y, a.2⟩
theorem NR.tr {h h1 h2 : aH} (a : NR h h1) (b : NR h1 h2) : NR h h2 := ⟨fun q x y z u => (b.1 q x y z u).trans (a.1 q x y z u), b.2.1.trans a.2.1, b.2.2.trans a.2.2⟩
theorem NR.s {h h' : aH} {c : aCell} (a : NR h h') : NR h (sw h' 201 c) := ⟨fun q x y z u => (sw_ne x).trans (a.1 q x y z u), a.2⟩
theorem NR.t {h h' : aH} {c : aCell} (a : NR h h') : NR h (sw h' 202 c) := ⟨fun q x y z u => (sw_ne y).trans (a.1 q x y z u), a.2⟩
theorem NR.b {h h' : aH} {c : aCell} (a : NR h h') : NR h (sw h' 223 c) := ⟨fun q x y z u => (sw_ne z).trans (a.1 q x y z u), a.2⟩
theorem NR.r {h h' : aH} {c : aCell} (a : NR h h') : NR h (sw h' 224 c) := ⟨fun q x y z u => (sw_ne u).trans (a.1 q x y z u), a.2⟩
theorem NR.rp {h h' : aH} (a : NR h h') {w : Nat → Int} (R : Rp h 204 w) : Rp h' 204 w := R.mv fun q h1 h2 => a.1 q (by omega) (by omega) (by omega) (by omega)
/-- a repeat's begin: how often, the place of its body -/
def begA (tx : Nat → Int) (N i : Nat) : Er ⊕ (Nat × Nat) := bnd (numA tx N i 1 20) fun a => if tKnd tx N a.2 = 4 then .inr (a.1, tEnd tx N a.2) else .inl (1, ((tOff tx N a.2 : Nat) : Int))
def BegP (K y : Nat) (args : List aV) (h : aH) (N d : Nat) (ex ek eo : Int) (bd rd : Nat → Int) (r : Er ⊕ (Nat × Nat)) : Prop := match r with
  | .inl e => ∃ h', Ct K y args h (.inl (some (aI 0)), h') ∧ h'.2.2 201 = SO ((d : Nat) : Int) ex e.1 e.2 ∧ (∃ st nx kd vl, h'.2.2 202 = TO N st nx kd vl) ∧ h'.2.2 223 = .inl (0, 2, .inl bd) ∧ (∃ rd', h'.2.2 224 = .inl (0, 2, .inl rd')) ∧ NR h h'
  | .inr a => ∃ h', Ct K y args h (.inl (some (aI 1)), h') ∧ h'.2.2 201 = SO ((d + 1 : Nat) : Int) ex ek eo ∧ (∃ st kd vl, h'.2.2 202 = TO N st ((a.2 : Nat) : Int) kd vl) ∧ h'.2.2 223 = .inl (0, 2, .inl (va_up bd d ((a.2 : Nat) : Int))) ∧ h'.2.2 224 = .inl (0, 2, .inl (va_up rd d ((a.1 : Nat) : Int))) ∧ NR h h'
theorem v_43_f {h : aH} (ex ek eo : Int) (hS : h.2.2 201 = SO 2 ex ek eo) (N st nx kd vl : Int) (hO : h.2.2 202 = TO N st nx kd vl) : Ct 5 43 [aR 201] h (.inl (some (aI 0)), sw h 201 (SO 2 ex 4 st)) := by
  refine Ct.of [aR 201] rfl ?_
  refine r_aldR cd_43_0 rfl rfl ?_
  refine r_get cd_43_1 rfl hS rfl ?_
  refine r_con (v := 2) cd_43_4 rfl (by decide) ?_
  refine r_ic63 cd_43_5 rfl ⟨by omega, by omega⟩ ⟨by omega, by omega⟩ (fun n1 => ?_) (fun n1 => ?_)
  · exact absurd n1 (by decide)
  · refine r_aldR cd_43_8 rfl rfl ?_
    refine r_con (v := 4) cd_43_9 rfl (by decide) ?_
    refine r_cI (k_36 2 ex ek eo hS N _ _ _ _ hO 4) cd_43_10 rfl rfl rfl (rc0 hS rfl) rfl rfl rfl ?_
    exact r_ret cd_43_13 (Or.inl rfl) (rfl)
theorem v_43_0 {h : aH} {tx tb : Nat → Int} {N : Nat} (hN : N ≤ 600) (hT : ∀ k, k < N → BT (tx k) (tb k)) (ex ek eo : Int) (hS : h.2.2 201 = SO 0 ex ek eo) {w : Nat → Int} (hR : Rp h 204 w) (hI : Inv0 w) {va : Nat → Int} (hV : h.2.2 222 = .inl (0, 4, .inl va)) {bd rd : Nat → Int} (hD : h.2.2 223 = .inl (0, 2, .inl bd)) (hQ : h.2.2 224 = .inl (0, 2, .inl rd)) (hb : TxB tx) (st kd vl : Int) (i : Nat) (hi : i ≤ N) (hO : h.2.2 202 = TO N st ((i : Nat) : Int) kd vl) (hB : h.2.2 203 = .inl (1, 600, .inl tb)) : BegP 5 43 [aR 201] h N 0 ex ek eo bd rd (begA tx N i) := by
  have P1 := v_37_r hN hT 0 ex ek eo hS hR hI hV hb st kd vl i hi hO hB
  rcases hA1 : numA tx N i 1 20 with e | ⟨q1, j1⟩
  · rw [hA1] at P1
    obtain ⟨g1, d1, s1, t1, m1⟩ := P1
    rw [show begA tx N i = .inl e from bnd_e hA1]
    refine ⟨g1, Ct.of [aR 201] rfl ?_, s1, t1, (m1.1 223 (by decide) (by decide)).trans hD, ⟨_, (m1.1 224 (by decide) (by decide)).trans hQ⟩, m1.nr⟩
    refine r_aldR cd_43_0 rfl rfl ?_
    refine r_get cd_43_1 rfl hS rfl ?_
    refine r_con (v := 2) cd_43_4 rfl (by decide) ?_
    refine r_ic63 cd_43_5 rfl ⟨by omega, by omega⟩ ⟨by omega, by omega⟩ (fun n61 => ?_) (fun n61 => ?_)
    · refine r_aldR cd_43_14 rfl rfl ?_
      refine r_con (v := 114) cd_43_15 rfl (by decide) ?_
      refine r_cI d1 cd_43_17 rfl rfl rfl (rc0 hS rfl) rfl rfl rfl ?_
      refine r_if52 cd_43_20 rfl ⟨by omega, by omega⟩ (fun n62 => ?_) (fun n62 => ?_)
      · refine r_con (v := 0) cd_43_23 rfl (by decide) ?_
        exact r_ret cd_43_24 (Or.inl rfl) (rfl)
      · exact absurd n62 (by decide)
    · exact absurd n61 (by decide)
  · rw [hA1] at P1
    obtain ⟨g1, d1, s1, ⟨st1, kd1, t1⟩, m1⟩ := P1
    have hD1 := (m1.1 223 (by decide) (by decide)).trans hD
    have hQ1 := (m1.1 224 (by decide) (by decide)).trans hQ
    have b1 : g1.2.2 203 = .inl (1, 600, .inl tb) := (m1.1 203 (by decide) (by decide)).trans hB
    obtain ⟨z1, z2, z3, z4, -⟩ := numA_o hA1 (by decide)
    have i1 : j1 ≤ N := by rw [z4]; exact (tPos hi).2
    by_cases hk : tKnd tx N j1 = 4
    rotate_left
    · obtain ⟨gs, ds, ss, ts, ms⟩ := v_41_3b (h := (sw g1 224 (.inl (0, 2, .inl (va_up rd 0 ((q1 : Nat) : Int)))))) hN hT 0 ex ek eo ((sw_ne (by decide)).trans s1) st1 kd1 ((q1 : Nat) : Int) j1 i1 ((sw_ne (by decide)).trans t1) ((sw_ne (by decide)).trans b1) hk
      have hDs := (ms.1 223 (by decide) (by decide)).trans ((sw_ne (by decide)).trans hD1)
      have hQs := (ms.1 224 (by decide) (by decide)).trans (sw_at _ _ _)
      have n2 : NR h gs := m1.nr.r.tr ms.nr
      rw [show begA tx N i = .inl (1, ((tOff tx N j1 : Nat) : Int)) from (bnd_r hA1).trans (if_neg hk)]
      refine ⟨gs, Ct.of [aR 201] rfl ?_, ss, ts, hDs, ⟨_, hQs⟩, n2⟩
      refine r_aldR cd_43_0 rfl rfl ?_
      refine r_get cd_43_1 rfl hS rfl ?_
      refine r_con (v := 2) cd_43_4 rfl (by decide) ?_
      refine r_ic63 cd_43_5 rfl ⟨by omega, by omega⟩ ⟨by omega, by omega⟩ (fun n61 => ?_) (fun n61 => ?_)
      · refine r_aldR cd_43_14 rfl rfl ?_
        refine r_con (v := 114) cd_43_15 rfl (by decide) ?_
        refine r_cI d1 cd_43_17 rfl rfl rfl (rc0 hS rfl) rfl rfl rfl ?_
        refine r_if52 cd_43_20 rfl ⟨by omega, by omega⟩ (fun n62 => ?_) (fun n62 => ?_)
        · exact absurd n62 (by decide)
        · refine r_aldR cd_43_25 rfl rfl ?_
          refine r_get cd_43_26 rfl s1 rfl ?_
          refine r_aldR cd_43_29 rfl rfl ?_
          refine r_get cd_43_30 rfl s1 rfl ?_
          refine r_aldR cd_43_33 rfl rfl ?_
          refine r_get cd_43_34 rfl s1 rfl ?_
          refine r_get cd_43_37 rfl t1 rfl ?_
          refine r_arsI (i := 0) cd_43_40 rfl rfl hQ1 rfl (by omega) rfl ?_
          refine r_aldR cd_43_41 rfl rfl ?_
          refine r_con (v := 3) cd_43_42 rfl (by decide) ?_
          refine r_cI ds cd_43_43 rfl rfl rfl (rc0 ((sw_ne (by decide)).trans s1) rfl) rfl rfl rfl ?_
          refine r_if52 cd_43_46 rfl ⟨by omega, by omega⟩ (fun n63 => ?_) (fun n63 => ?_)
          · refine r_con (v := 0) cd_43_49 rfl (by decide) ?_
            exact r_ret cd_43_50 (Or.inl rfl) (rfl)
          · exact absurd n63 (by decide)
      · exact absurd n61 (by decide)
    · obtain ⟨gs, ds, ss, ⟨kds, vls, ts⟩, ms⟩ := v_41_3a (h := (sw g1 224 (.inl (0, 2, .inl (va_up rd 0 ((q1 : Nat) : Int)))))) hN hT 0 ex ek eo ((sw_ne (by decide)).trans s1) st1 kd1 ((q1 : Nat) : Int) j1 i1 ((sw_ne (by decide)).trans t1) ((sw_ne (by decide)).trans b1) hk
      have hDs := (ms.1 223 (by decide) (by decide)).trans ((sw_ne (by decide)).trans hD1)
      have hQs := (ms.1 224 (by decide) (by decide)).trans (sw_at _ _ _)
      have n2 : NR h gs := m1.nr.r.tr ms.nr
      rw [show begA tx N i = .inr (q1, tEnd tx N j1) from (bnd_r hA1).trans (if_pos hk)]
      refine ⟨sw (sw gs 223 (.inl (0, 2, .inl (va_up bd 0 ((tEnd tx N j1 : Nat) : Int))))) 201 (SO 1 ex ek eo), Ct.of [aR 201] rfl ?_, sw_at _ _ _, ⟨_, _, _, (sw_ne (by decide)).trans ((sw_ne (by decide)).trans ts)⟩, (sw_ne (by decide)).trans (sw_at _ _ _), (sw_ne (by decide)).trans ((sw_ne (by decide)).trans hQs), n2.b.s⟩
      refine r_aldR cd_43_0 rfl rfl ?_
      refine r_get cd_43_1 rfl hS rfl ?_
      refine r_con (v := 2) cd_43_4 rfl (by decide) ?_
      refine r_ic63 cd_43_5 rfl ⟨by omega, by omega⟩ ⟨by omega, by omega⟩ (fun n61 => ?_) (fun n61 => ?_)
      · refine r_aldR cd_43_14 rfl rfl ?_
        refine r_con (v := 114) cd_43_15 rfl (by decide) ?_
        refine r_cI d1 cd_43_17 rfl rfl rfl (rc0 hS rfl) rfl rfl rfl ?_
        refine r_if52 cd_43_20 rfl ⟨by omega, by omega⟩ (fun n62 => ?_) (fun n62 => ?_)
        · exact absurd n62 (by decide)
        · refine r_aldR cd_43_25 rfl rfl ?_
          refine r_get cd_43_26 rfl s1 rfl ?_
          refine r_aldR cd_43_29 rfl rfl ?_
          refine r_get cd_43_30 rfl s1 rfl ?_
          refine r_aldR cd_43_33 rfl rfl ?_
          refine r_get cd_43_34 rfl s1 rfl ?_
          refine r_get cd_43_37 rfl t1 rfl ?_
          refine r_arsI (i := 0) cd_43_40 rfl rfl hQ1 rfl (by omega) rfl ?_
          refine r_aldR cd_43_41 rfl rfl ?_
          refine r_con (v := 3) cd_43_42 rfl (by decide) ?_
          refine r_cI ds cd_43_43 rfl rfl rfl (rc0 ((sw_ne (by decide)).trans s1) rfl) rfl rfl rfl ?_
          refine r_if52 cd_43_46 rfl ⟨by omega, by omega⟩ (fun n63 => ?_) (fun n63 => ?_)
          · exact absurd n63 (by decide)
          · refine r_aldR cd_43_51 rfl rfl ?_
            refine r_get cd_43_52 rfl ss rfl ?_
            refine r_aldR cd_43_55 rfl rfl ?_
            refine r_get cd_43_56 rfl ss rfl ?_
            refine r_aldR cd_43_59 rfl rfl ?_
            refine r_get cd_43_60 rfl ss rfl ?_
            refine r_get cd_43_63 rfl ts rfl ?_
            refine r_arsI (i := 0) cd_43_66 rfl rfl hDs rfl (by omega) rfl ?_
            refine r_aldR cd_43_67 rfl rfl ?_
            refine r_dup cd_43_68 rfl rfl ?_
            refine r_get cd_43_69 rfl ((sw_ne (by decide)).trans ss) rfl ?_
            refine r_con (v := 1) cd_43_72 rfl (by decide) ?_
            refine r_add (v := 1) cd_43_73 rfl (by omega) ?_
            refine r_put (fs' := [aR 202, aR 204, aR 222, aR 223, aR 224, aI 1, aI ex, aI ek, aI eo]) cd_43_74 rfl ((sw_ne (by decide)).trans ss) rfl rfl ?_
            refine r_con (v := 1) cd_43_77 rfl (by decide) ?_
            exact r_ret cd_43_78 (Or.inr rfl) (rfl)
      · exact absurd n61 (by decide)
theorem v_43_1 {h : aH} {tx tb : Nat → Int} {N : Nat} (hN : N ≤ 600) (hT : ∀ k, k < N → BT (tx k) (tb k)) (ex ek eo : Int) (hS : h.2.2 201 = SO 1 ex ek eo) {w : Nat → Int} (hR : Rp h 204 w) (hI : Inv0 w) {va : Nat → Int} (hV : h.2.2 222 = .inl (0, 4, .inl va)) {bd rd : Nat → Int} (hD : h.2.2 223 = .inl (0, 2, .inl bd)) (hQ : h.2.2 224 = .inl (0, 2, .inl rd)) (hb : TxB tx) (st kd vl : Int) (i : Nat) (hi : i ≤ N) (hO : h.2.2 202 = TO N st ((i : Nat) : Int) kd vl) (hB : h.2.2 203 = .inl (1, 600, .inl tb)) : BegP 5 43 [aR 201] h N 1 ex ek eo bd rd (begA tx N i) := by
  have P1 := v_37_r hN hT 1 ex ek eo hS hR hI hV hb st kd vl i hi hO hB
  rcases hA1 : numA tx N i 1 20 with e | ⟨q1, j1⟩
  · rw [hA1] at P1
    obtain ⟨g1, d1, s1, t1, m1⟩ := P1
    rw [show begA tx N i = .inl e from bnd_e hA1]
    refine ⟨g1, Ct.of [aR 201] rfl ?_, s1, t1, (m1.1 223 (by decide) (by decide)).trans hD, ⟨_, (m1.1 224 (by decide) (by decide)).trans hQ⟩, m1.nr⟩
    refine r_aldR cd_43_0 rfl rfl ?_
    refine r_get cd_43_1 rfl hS rfl ?_
    refine r_con (v := 2) cd_43_4 rfl (by decide) ?_
    refine r_ic63 cd_43_5 rfl ⟨by omega, by omega⟩ ⟨by omega, by omega⟩ (fun n61 => ?_) (fun n61 => ?_)
    · refine r_aldR cd_43_14 rfl rfl ?_
      refine r_con (v := 114) cd_43_15 rfl (by decide) ?_
      refine r_cI d1 cd_43_17 rfl rfl rfl (rc0 hS rfl) rfl rfl rfl ?_
      refine r_if52 cd_43_20 rfl ⟨by omega, by omega⟩ (fun n62 => ?_) (fun n62 => ?_)
      · refine r_con (v := 0) cd_43_23 rfl (by decide) ?_
        exact r_ret cd_43_24 (Or.inl rfl) (rfl)
      · exact absurd n62 (by decide)
    · exact absurd n61 (by decide)
  · rw [hA1] at P1
    obtain ⟨g1, d1, s1, ⟨st1, kd1, t1⟩, m1⟩ := P1
    have hD1 := (m1.1 223 (by decide) (by decide)).trans hD
    have hQ1 := (m1.1 224 (by decide) (by decide)).trans hQ
    have b1 : g1.2.2 203 = .inl (1, 600, .inl tb) := (m1.1 203 (by decide) (by decide)).trans hB
    obtain ⟨z1, z2, z3, z4, -⟩ := numA_o hA1 (by decide)
    have i1 : j1 ≤ N := by rw [z4]; exact (tPos hi).2
    by_cases hk : tKnd tx N j1 = 4
    rotate_left
    · obtain ⟨gs, ds, ss, ts, ms⟩ := v_41_3b (h := (sw g1 224 (.inl (0, 2, .inl (va_up rd 1 ((q1 : Nat) : Int)))))) hN hT 1 ex ek eo ((sw_ne (by decide)).trans s1) st1 kd1 ((q1 : Nat) : Int) j1 i1 ((sw_ne (by decide)).trans t1) ((sw_ne (by decide)).trans b1) hk
      have hDs := (ms.1 223 (by decide) (by decide)).trans ((sw_ne (by decide)).trans hD1)
      have hQs := (ms.1 224 (by decide) (by decide)).trans (sw_at _ _ _)
      have n2 : NR h gs := m1.nr.r.tr ms.nr
      rw [show begA tx N i = .inl (1, ((tOff tx N j1 : Nat) : Int)) from (bnd_r hA1).trans (if_neg hk)]
      refine ⟨gs, Ct.of [aR 201] rfl ?_, ss, ts, hDs, ⟨_, hQs⟩, n2⟩
      refine r_aldR cd_43_0 rfl rfl ?_
      refine r_get cd_43_1 rfl hS rfl ?_
      refine r_con (v := 2) cd_43_4 rfl (by decide) ?_
      refine r_ic63 cd_43_5 rfl ⟨by omega, by omega⟩ ⟨by omega, by omega⟩ (fun n61 => ?_) (fun n61 => ?_)
      · refine r_aldR cd_43_14 rfl rfl ?_
        refine r_con (v := 114) cd_43_15 rfl (by decide) ?_
        refine r_cI d1 cd_43_17 rfl rfl rfl (rc0 hS rfl) rfl rfl rfl ?_
        refine r_if52 cd_43_20 rfl ⟨by omega, by omega⟩ (fun n62 => ?_) (fun n62 => ?_)
        · exact absurd n62 (by decide)
        · refine r_aldR cd_43_25 rfl rfl ?_
          refine r_get cd_43_26 rfl s1 rfl ?_
          refine r_aldR cd_43_29 rfl rfl ?_
          refine r_get cd_43_30 rfl s1 rfl ?_
          refine r_aldR cd_43_33 rfl rfl ?_
          refine r_get cd_43_34 rfl s1 rfl ?_
          refine r_get cd_43_37 rfl t1 rfl ?_
          refine r_arsI (i := 1) cd_43_40 rfl rfl hQ1 rfl (by omega) rfl ?_
          refine r_aldR cd_43_41 rfl rfl ?_
          refine r_con (v := 3) cd_43_42 rfl (by decide) ?_
          refine r_cI ds cd_43_43 rfl rfl rfl (rc0 ((sw_ne (by decide)).trans s1) rfl) rfl rfl rfl ?_
          refine r_if52 cd_43_46 rfl ⟨by omega, by omega⟩ (fun n63 => ?_) (fun n63 => ?_)
          · refine r_con (v := 0) cd_43_49 rfl (by decide) ?_
            exact r_ret cd_43_50 (Or.inl rfl) (rfl)
          · exact absurd n63 (by decide)
      · exact absurd n61 (by decide)
    · obtain ⟨gs, ds, ss, ⟨kds, vls, ts⟩, ms⟩ := v_41_3a (h := (sw g1 224 (.inl (0, 2, .inl (va_up rd 1 ((q1 : Nat) : Int)))))) hN hT 1 ex ek eo ((sw_ne (by decide)).trans s1) st1 kd1 ((q1 : Nat) : Int) j1 i1 ((sw_ne (by decide)).trans t1) ((sw_ne (by decide)).trans b1) hk
      have hDs := (ms.1 223 (by decide) (by decide)).trans ((sw_ne (by decide)).trans hD1)
      have hQs := (ms.1 224 (by decide) (by decide)).trans (sw_at _ _ _)
      have n2 : NR h gs := m1.nr.r.tr ms.nr
      rw [show begA tx N i = .inr (q1, tEnd tx N j1) from (bnd_r hA1).trans (if_pos hk)]
      refine ⟨sw (sw gs 223 (.inl (0, 2, .inl (va_up bd 1 ((tEnd tx N j1 : Nat) : Int))))) 201 (SO 2 ex ek eo), Ct.of [aR 201] rfl ?_, sw_at _ _ _, ⟨_, _, _, (sw_ne (by decide)).trans ((sw_ne (by decide)).trans ts)⟩, (sw_ne (by decide)).trans (sw_at _ _ _), (sw_ne (by decide)).trans ((sw_ne (by decide)).trans hQs), n2.b.s⟩
      refine r_aldR cd_43_0 rfl rfl ?_
      refine r_get cd_43_1 rfl hS rfl ?_
      refine r_con (v := 2) cd_43_4 rfl (by decide) ?_
      refine r_ic63 cd_43_5 rfl ⟨by omega, by omega⟩ ⟨by omega, by omega⟩ (fun n61 => ?_) (fun n61 => ?_)
      · refine r_aldR cd_43_14 rfl rfl ?_
        refine r_con (v := 114) cd_43_15 rfl (by decide) ?_
        refine r_cI d1 cd_43_17 rfl rfl rfl (rc0 hS rfl) rfl rfl rfl ?_
        refine r_if52 cd_43_20 rfl ⟨by omega, by omega⟩ (fun n62 => ?_) (fun n62 => ?_)
        · exact absurd n62 (by decide)
        · refine r_aldR cd_43_25 rfl rfl ?_
          refine r_get cd_43_26 rfl s1 rfl ?_
          refine r_aldR cd_43_29 rfl rfl ?_
          refine r_get cd_43_30 rfl s1 rfl ?_
          refine r_aldR cd_43_33 rfl rfl ?_
          refine r_get cd_43_34 rfl s1 rfl ?_
          refine r_get cd_43_37 rfl t1 rfl ?_
          refine r_arsI (i := 1) cd_43_40 rfl rfl hQ1 rfl (by omega) rfl ?_
          refine r_aldR cd_43_41 rfl rfl ?_
          refine r_con (v := 3) cd_43_42 rfl (by decide) ?_
          refine r_cI ds cd_43_43 rfl rfl rfl (rc0 ((sw_ne (by decide)).trans s1) rfl) rfl rfl rfl ?_
          refine r_if52 cd_43_46 rfl ⟨by omega, by omega⟩ (fun n63 => ?_) (fun n63 => ?_)
          · exact absurd n63 (by decide)
          · refine r_aldR cd_43_51 rfl rfl ?_
            refine r_get cd_43_52 rfl ss rfl ?_
            refine r_aldR cd_43_55 rfl rfl ?_
            refine r_get cd_43_56 rfl ss rfl ?_
            refine r_aldR cd_43_59 rfl rfl ?_
            refine r_get cd_43_60 rfl ss rfl ?_
            refine r_get cd_43_63 rfl ts rfl ?_
            refine r_arsI (i := 1) cd_43_66 rfl rfl hDs rfl (by omega) rfl ?_
            refine r_aldR cd_43_67 rfl rfl ?_
            refine r_dup cd_43_68 rfl rfl ?_
            refine r_get cd_43_69 rfl ((sw_ne (by decide)).trans ss) rfl ?_
            refine r_con (v := 1) cd_43_72 rfl (by decide) ?_
            refine r_add (v := 2) cd_43_73 rfl (by omega) ?_
            refine r_put (fs' := [aR 202, aR 204, aR 222, aR 223, aR 224, aI 2, aI ex, aI ek, aI eo]) cd_43_74 rfl ((sw_ne (by decide)).trans ss) rfl rfl ?_
            refine r_con (v := 1) cd_43_77 rfl (by decide) ?_
            exact r_ret cd_43_78 (Or.inr rfl) (rfl)
      · exact absurd n61 (by decide)
theorem v_42_0a {h : aH} {tx tb : Nat → Int} {N : Nat} (hN : N ≤ 600) (hT : ∀ k, k < N → BT (tx k) (tb k)) (ex ek eo : Int) (hS : h.2.2 201 = SO 1 ex ek eo) {bd rd : Nat → Int} (hD : h.2.2 223 = .inl (0, 2, .inl bd)) (hQ : h.2.2 224 = .inl (0, 2, .inl rd)) (st kd vl : Int) (i : Nat) (hi : i ≤ N) (hO : h.2.2 202 = TO N st ((i : Nat) : Int) kd vl) (hB : h.2.2 203 = .inl (1, 600, .inl tb)) (t : Nat) (hr : rd 0 = ((t + 1 : Nat) : Int)) (ht : t < 20) (h0 : 0 < t) : Ct 5 42 [aR 201] h (.inl (some (aI 1)), sw (sw h 224 (.inl (0, 2, .inl (va_up rd 0 ((t : Nat) : Int))))) 202 (TO N st (bd 0) kd vl)) := by
  refine Ct.of [aR 201, aU] rfl ?_
  refine r_aldR cd_42_0 rfl rfl ?_
  refine r_get cd_42_1 rfl hS rfl ?_
  refine r_con (v := 1) cd_42_4 rfl (by decide) ?_
  refine r_sub (v := 0) cd_42_5 rfl (by omega) ?_
  refine r_ist cd_42_6 rfl rfl (L' := [aR 201, aI 0]) rfl ?_
  refine r_aldR cd_42_7 rfl rfl ?_
  refine r_get cd_42_8 rfl hS rfl ?_
  refine r_ild cd_42_11 rfl rfl ?_
  refine r_dup2 cd_42_12 rfl rfl rfl ?_
  refine r_arr (i := 0) cd_42_13 rfl hQ rfl (by omega) rfl ?_
  refine r_con (v := 1) cd_42_14 rfl (by decide) ?_
  refine r_sub (v := ((t : Nat) : Int)) cd_42_15 rfl (by rw [hr]; omega) ?_
  refine r_arsI (i := 0) cd_42_16 rfl rfl hQ rfl (by omega) rfl ?_
  refine r_aldR cd_42_17 rfl rfl ?_
  refine r_get cd_42_18 rfl ((sw_ne (by decide)).trans hS) rfl ?_
  refine r_ild cd_42_21 rfl rfl ?_
  refine r_arr (i := 0) cd_42_22 rfl (sw_at _ _ _) rfl (by omega) rfl ?_
  rw [show va_up rd 0 ((t : Nat) : Int) 0 = ((t : Nat) : Int) from vu_at _ _ _]
  refine r_if56 cd_42_23 rfl ⟨by omega, by omega⟩ (fun n1 => ?_) (fun n1 => ?_)
  · refine r_aldR cd_42_26 rfl rfl ?_
    refine r_get cd_42_27 rfl ((sw_ne (by decide)).trans hS) rfl ?_
    refine r_aldR cd_42_30 rfl rfl ?_
    refine r_get cd_42_31 rfl ((sw_ne (by decide)).trans hS) rfl ?_
    refine r_ild cd_42_34 rfl rfl ?_
    refine r_arr (i := 0) cd_42_35 rfl ((sw_ne (by decide)).trans hD) rfl (by omega) rfl ?_
    refine r_cV (v_63 (N := N) st ((i : Nat) : Int) kd vl ((sw_ne (by decide)).trans hO) (bd 0)) cd_42_36 rfl rfl rfl (rc0 ((sw_ne (by decide)).trans hO) rfl) rfl rfl rfl ?_
    refine r_con (v := 1) cd_42_39 rfl (by decide) ?_
    exact r_ret cd_42_40 (Or.inr rfl) (rfl)
  · exact absurd n1 (by omega)
theorem v_42_0b {h : aH} {tx tb : Nat → Int} {N : Nat} (hN : N ≤ 600) (hT : ∀ k, k < N → BT (tx k) (tb k)) (ex ek eo : Int) (hS : h.2.2 201 = SO 1 ex ek eo) {bd rd : Nat → Int} (hD : h.2.2 223 = .inl (0, 2, .inl bd)) (hQ : h.2.2 224 = .inl (0, 2, .inl rd)) (st kd vl : Int) (i : Nat) (hi : i ≤ N) (hO : h.2.2 202 = TO N st ((i : Nat) : Int) kd vl) (hB : h.2.2 203 = .inl (1, 600, .inl tb)) (t : Nat) (hr : rd 0 = ((t + 1 : Nat) : Int)) (ht : t < 20) (h0 : t = 0) (hk : tKnd tx N i = 1) : ∃ h', Ct 5 42 [aR 201] h (.inl (some (aI 1)), h') ∧ h'.2.2 201 = SO 0 ex ek eo ∧ (∃ st kd vl, h'.2.2 202 = TO N st ((tEnd tx N i : Nat) : Int) kd vl) ∧ h'.2.2 223 = .inl (0, 2, .inl bd) ∧ h'.2.2 224 = .inl (0, 2, .inl (va_up rd 0 0)) ∧ NR h h' := by
  obtain ⟨gs, ds, ss, ⟨kds, vls, ts⟩, ms⟩ := v_41_5a (h := (sw (sw h 224 (.inl (0, 2, .inl (va_up rd 0 0)))) 201 (SO 0 ex ek eo))) hN hT 0 ex ek eo (sw_at _ _ _) st kd vl i hi ((sw_ne (by decide)).trans ((sw_ne (by decide)).trans hO)) ((sw_ne (by decide)).trans ((sw_ne (by decide)).trans hB)) hk
  refine ⟨gs, Ct.of [aR 201, aU] rfl ?_, ss, ⟨_, _, _, ts⟩, (ms.1 223 (by decide) (by decide)).trans ((sw_ne (by decide)).trans ((sw_ne (by decide)).trans hD)), (ms.1 224 (by decide) (by decide)).trans ((sw_ne (by decide)).trans (sw_at _ _ _)), (NR.rf.r.s).tr ms.nr⟩
  refine r_aldR cd_42_0 rfl rfl ?_
  refine r_get cd_42_1 rfl hS rfl ?_
  refine r_con (v := 1) cd_42_4 rfl (by decide) ?_
  refine r_sub (v := 0) cd_42_5 rfl (by omega) ?_
  refine r_ist cd_42_6 rfl rfl (L' := [aR 201, aI 0]) rfl ?_
  refine r_aldR cd_42_7 rfl rfl ?_
  refine r_get cd_42_8 rfl hS rfl ?_
  refine r_ild cd_42_11 rfl rfl ?_
  refine r_dup2 cd_42_12 rfl rfl rfl ?_
  refine r_arr (i := 0) cd_42_13 rfl hQ rfl (by omega) rfl ?_
  refine r_con (v := 1) cd_42_14 rfl (by decide) ?_
  refine r_sub (v := 0) cd_42_15 rfl (by rw [hr]; omega) ?_
  refine r_arsI (i := 0) cd_42_16 rfl rfl hQ rfl (by omega) rfl ?_
  refine r_aldR cd_42_17 rfl rfl ?_
  refine r_get cd_42_18 rfl ((sw_ne (by decide)).trans hS) rfl ?_
  refine r_ild cd_42_21 rfl rfl ?_
  refine r_arr (i := 0) cd_42_22 rfl (sw_at _ _ _) rfl (by omega) rfl ?_
  rw [show va_up rd 0 0 0 = 0 from vu_at _ _ _]
  refine r_if56 cd_42_23 rfl ⟨by omega, by omega⟩ (fun n1 => ?_) (fun n1 => ?_)
  · exact absurd n1 (by decide)
  · refine r_aldR cd_42_41 rfl rfl ?_
    refine r_ild cd_42_42 rfl rfl ?_
    refine r_put (fs' := [aR 202, aR 204, aR 222, aR 223, aR 224, aI 0, aI ex, aI ek, aI eo]) cd_42_43 rfl ((sw_ne (by decide)).trans hS) rfl rfl ?_
    refine r_aldR cd_42_46 rfl rfl ?_
    refine r_con (v := 5) cd_42_47 rfl (by decide) ?_
    refine r_cI ds cd_42_48 rfl rfl rfl (rc0 (sw_at _ _ _) rfl) rfl rfl rfl ?_
    exact r_ret cd_42_51 (Or.inr rfl) (rfl)
theorem v_42_0c {h : aH} {tx tb : Nat → Int} {N : Nat} (hN : N ≤ 600) (hT : ∀ k, k < N → BT (tx k) (tb k)) (ex ek eo : Int) (hS : h.2.2 201 = SO 1 ex ek eo) {bd rd : Nat → Int} (hD : h.2.2 223 = .inl (0, 2, .inl bd)) (hQ : h.2.2 224 = .inl (0, 2, .inl rd)) (st kd vl : Int) (i : Nat) (hi : i ≤ N) (hO : h.2.2 202 = TO N st ((i : Nat) : Int) kd vl) (hB : h.2.2 203 = .inl (1, 600, .inl tb)) (t : Nat) (hr : rd 0 = ((t + 1 : Nat) : Int)) (ht : t < 20) (h0 : t = 0) (hk : ¬ tKnd tx N i = 1) : ∃ h', Ct 5 42 [aR 201] h (.inl (some (aI 0)), h') ∧ h'.2.2 201 = SO 0 ex 1 ((tOff tx N i : Nat) : Int) ∧ (∃ st nx kd vl, h'.2.2 202 = TO N st nx kd vl) ∧ h'.2.2 223 = .inl (0, 2, .inl bd) ∧ h'.2.2 224 = .inl (0, 2, .inl (va_up rd 0 0)) ∧ NR h h' := by
  obtain ⟨gs, ds, ss, ts, ms⟩ := v_41_5b (h := (sw (sw h 224 (.inl (0, 2, .inl (va_up rd 0 0)))) 201 (SO 0 ex ek eo))) hN hT 0 ex ek eo (sw_at _ _ _) st kd vl i hi ((sw_ne (by decide)).trans ((sw_ne (by decide)).trans hO)) ((sw_ne (by decide)).trans ((sw_ne (by decide)).trans hB)) hk
  refine ⟨gs, Ct.of [aR 201, aU] rfl ?_, ss, ts, (ms.1 223 (by decide) (by decide)).trans ((sw_ne (by decide)).trans ((sw_ne (by decide)).trans hD)), (ms.1 224 (by decide) (by decide)).trans ((sw_ne (by decide)).trans (sw_at _ _ _)), (NR.rf.r.s).tr ms.nr⟩
  refine r_aldR cd_42_0 rfl rfl ?_
  refine r_get cd_42_1 rfl hS rfl ?_
  refine r_con (v := 1) cd_42_4 rfl (by decide) ?_
  refine r_sub (v := 0) cd_42_5 rfl (by omega) ?_
  refine r_ist cd_42_6 rfl rfl (L' := [aR 201, aI 0]) rfl ?_
  refine r_aldR cd_42_7 rfl rfl ?_
  refine r_get cd_42_8 rfl hS rfl ?_
  refine r_ild cd_42_11 rfl rfl ?_
  refine r_dup2 cd_42_12 rfl rfl rfl ?_
  refine r_arr (i := 0) cd_42_13 rfl hQ rfl (by omega) rfl ?_
  refine r_con (v := 1) cd_42_14 rfl (by decide) ?_
  refine r_sub (v := 0) cd_42_15 rfl (by rw [hr]; omega) ?_
  refine r_arsI (i := 0) cd_42_16 rfl rfl hQ rfl (by omega) rfl ?_
  refine r_aldR cd_42_17 rfl rfl ?_
  refine r_get cd_42_18 rfl ((sw_ne (by decide)).trans hS) rfl ?_
  refine r_ild cd_42_21 rfl rfl ?_
  refine r_arr (i := 0) cd_42_22 rfl (sw_at _ _ _) rfl (by omega) rfl ?_
  rw [show va_up rd 0 0 0 = 0 from vu_at _ _ _]
  refine r_if56 cd_42_23 rfl ⟨by omega, by omega⟩ (fun n1 => ?_) (fun n1 => ?_)
  · exact absurd n1 (by decide)
  · refine r_aldR cd_42_41 rfl rfl ?_
    refine r_ild cd_42_42 rfl rfl ?_
    refine r_put (fs' := [aR 202, aR 204, aR 222, aR 223, aR 224, aI 0, aI ex, aI ek, aI eo]) cd_42_43 rfl ((sw_ne (by decide)).trans hS) rfl rfl ?_
    refine r_aldR cd_42_46 rfl rfl ?_
    refine r_con (v := 5) cd_42_47 rfl (by decide) ?_
    refine r_cI ds cd_42_48 rfl rfl rfl (rc0 (sw_at _ _ _) rfl) rfl rfl rfl ?_
    exact r_ret cd_42_51 (Or.inl rfl) (rfl)
theorem v_42_1a {h : aH} {tx tb : Nat → Int} {N : Nat} (hN : N ≤ 600) (hT : ∀ k, k < N → BT (tx k) (tb k)) (ex ek eo : Int) (hS : h.2.2 201 = SO 2 ex ek eo) {bd rd : Nat → Int} (hD : h.2.2 223 = .inl (0, 2, .inl bd)) (hQ : h.2.2 224 = .inl (0, 2, .inl rd)) (st kd vl : Int) (i : Nat) (hi : i ≤ N) (hO : h.2.2 202 = TO N st ((i : Nat) : Int) kd vl) (hB : h.2.2 203 = .inl (1, 600, .inl tb)) (t : Nat) (hr : rd 1 = ((t + 1 : Nat) : Int)) (ht : t < 20) (h0 : 0 < t) : Ct 5 42 [aR 201] h (.inl (some (aI 1)), sw (sw h 224 (.inl (0, 2, .inl (va_up rd 1 ((t : Nat) : Int))))) 202 (TO N st (bd 1) kd vl)) := by
  refine Ct.of [aR 201, aU] rfl ?_
  refine r_aldR cd_42_0 rfl rfl ?_
  refine r_get cd_42_1 rfl hS rfl ?_
  refine r_con (v := 1) cd_42_4 rfl (by decide) ?_
  refine r_sub (v := 1) cd_42_5 rfl (by omega) ?_
  refine r_ist cd_42_6 rfl rfl (L' := [aR 201, aI 1]) rfl ?_
  refine r_aldR cd_42_7 rfl rfl ?_
  refine r_get cd_42_8 rfl hS rfl ?_
  refine r_ild cd_42_11 rfl rfl ?_
  refine r_dup2 cd_42_12 rfl rfl rfl ?_
  refine r_arr (i := 1) cd_42_13 rfl hQ rfl (by omega) rfl ?_
  refine r_con (v := 1) cd_42_14 rfl (by decide) ?_
  refine r_sub (v := ((t : Nat) : Int)) cd_42_15 rfl (by rw [hr]; omega) ?_
  refine r_arsI (i := 1) cd_42_16 rfl rfl hQ rfl (by omega) rfl ?_
  refine r_aldR cd_42_17 rfl rfl ?_
  refine r_get cd_42_18 rfl ((sw_ne (by decide)).trans hS) rfl ?_
  refine r_ild cd_42_21 rfl rfl ?_
  refine r_arr (i := 1) cd_42_22 rfl (sw_at _ _ _) rfl (by omega) rfl ?_
  rw [show va_up rd 1 ((t : Nat) : Int) 1 = ((t : Nat) : Int) from vu_at _ _ _]
  refine r_if56 cd_42_23 rfl ⟨by omega, by omega⟩ (fun n1 => ?_) (fun n1 => ?_)
  · refine r_aldR cd_42_26 rfl rfl ?_
    refine r_get cd_42_27 rfl ((sw_ne (by decide)).trans hS) rfl ?_
    refine r_aldR cd_42_30 rfl rfl ?_
    refine r_get cd_42_31 rfl ((sw_ne (by decide)).trans hS) rfl ?_
    refine r_ild cd_42_34 rfl rfl ?_
    refine r_arr (i := 1) cd_42_35 rfl ((sw_ne (by decide)).trans hD) rfl (by omega) rfl ?_
    refine r_cV (v_63 (N := N) st ((i : Nat) : Int) kd vl ((sw_ne (by decide)).trans hO) (bd 1)) cd_42_36 rfl rfl rfl (rc0 ((sw_ne (by decide)).trans hO) rfl) rfl rfl rfl ?_
    refine r_con (v := 1) cd_42_39 rfl (by decide) ?_
    exact r_ret cd_42_40 (Or.inr rfl) (rfl)
  · exact absurd n1 (by omega)
theorem v_42_1b {h : aH} {tx tb : Nat → Int} {N : Nat} (hN : N ≤ 600) (hT : ∀ k, k < N → BT (tx k) (tb k)) (ex ek eo : Int) (hS : h.2.2 201 = SO 2 ex ek eo) {bd rd : Nat → Int} (hD : h.2.2 223 = .inl (0, 2, .inl bd)) (hQ : h.2.2 224 = .inl (0, 2, .inl rd)) (st kd vl : Int) (i : Nat) (hi : i ≤ N) (hO : h.2.2 202 = TO N st ((i : Nat) : Int) kd vl) (hB : h.2.2 203 = .inl (1, 600, .inl tb)) (t : Nat) (hr : rd 1 = ((t + 1 : Nat) : Int)) (ht : t < 20) (h0 : t = 0) (hk : tKnd tx N i = 1) : ∃ h', Ct 5 42 [aR 201] h (.inl (some (aI 1)), h') ∧ h'.2.2 201 = SO 1 ex ek eo ∧ (∃ st kd vl, h'.2.2 202 = TO N st ((tEnd tx N i : Nat) : Int) kd vl) ∧ h'.2.2 223 = .inl (0, 2, .inl bd) ∧ h'.2.2 224 = .inl (0, 2, .inl (va_up rd 1 0)) ∧ NR h h' := by
  obtain ⟨gs, ds, ss, ⟨kds, vls, ts⟩, ms⟩ := v_41_5a (h := (sw (sw h 224 (.inl (0, 2, .inl (va_up rd 1 0)))) 201 (SO 1 ex ek eo))) hN hT 1 ex ek eo (sw_at _ _ _) st kd vl i hi ((sw_ne (by decide)).trans ((sw_ne (by decide)).trans hO)) ((sw_ne (by decide)).trans ((sw_ne (by decide)).trans hB)) hk
  refine ⟨gs, Ct.of [aR 201, aU] rfl ?_, ss, ⟨_, _, _, ts⟩, (ms.1 223 (by decide) (by decide)).trans ((sw_ne (by decide)).trans ((sw_ne (by decide)).trans hD)), (ms.1 224 (by decide) (by decide)).trans ((sw_ne (by decide)).trans (sw_at _ _ _)), (NR.rf.r.s).tr ms.nr⟩
  refine r_aldR cd_42_0 rfl rfl ?_
  refine r_get cd_42_1 rfl hS rfl ?_
  refine r_con (v := 1) cd_42_4 rfl (by decide) ?_
  refine r_sub (v := 1) cd_42_5 rfl (by omega) ?_
  refine r_ist cd_42_6 rfl rfl (L' := [aR 201, aI 1]) rfl ?_
  refine r_aldR cd_42_7 rfl rfl ?_
  refine r_get cd_42_8 rfl hS rfl ?_
  refine r_ild cd_42_11 rfl rfl ?_
  refine r_dup2 cd_42_12 rfl rfl rfl ?_
  refine r_arr (i := 1) cd_42_13 rfl hQ rfl (by omega) rfl ?_
  refine r_con (v := 1) cd_42_14 rfl (by decide) ?_
  refine r_sub (v := 0) cd_42_15 rfl (by rw [hr]; omega) ?_
  refine r_arsI (i := 1) cd_42_16 rfl rfl hQ rfl (by omega) rfl ?_
  refine r_aldR cd_42_17 rfl rfl ?_
  refine r_get cd_42_18 rfl ((sw_ne (by decide)).trans hS) rfl ?_
  refine r_ild cd_42_21 rfl rfl ?_
  refine r_arr (i := 1) cd_42_22 rfl (sw_at _ _ _) rfl (by omega) rfl ?_
  rw [show va_up rd 1 0 1 = 0 from vu_at _ _ _]
  refine r_if56 cd_42_23 rfl ⟨by omega, by omega⟩ (fun n1 => ?_) (fun n1 => ?_)
  · exact absurd n1 (by decide)
  · refine r_aldR cd_42_41 rfl rfl ?_
    refine r_ild cd_42_42 rfl rfl ?_
    refine r_put (fs' := [aR 202, aR 204, aR 222, aR 223, aR 224, aI 1, aI ex, aI ek, aI eo]) cd_42_43 rfl ((sw_ne (by decide)).trans hS) rfl rfl ?_
    refine r_aldR cd_42_46 rfl rfl ?_
    refine r_con (v := 5) cd_42_47 rfl (by decide) ?_
    refine r_cI ds cd_42_48 rfl rfl rfl (rc0 (sw_at _ _ _) rfl) rfl rfl rfl ?_
    exact r_ret cd_42_51 (Or.inr rfl) (rfl)
theorem v_42_1c {h : aH} {tx tb : Nat → Int} {N : Nat} (hN : N ≤ 600) (hT : ∀ k, k < N → BT (tx k) (tb k)) (ex ek eo : Int) (hS : h.2.2 201 = SO 2 ex ek eo) {bd rd : Nat → Int} (hD : h.2.2 223 = .inl (0, 2, .inl bd)) (hQ : h.2.2 224 = .inl (0, 2, .inl rd)) (st kd vl : Int) (i : Nat) (hi : i ≤ N) (hO : h.2.2 202 = TO N st ((i : Nat) : Int) kd vl) (hB : h.2.2 203 = .inl (1, 600, .inl tb)) (t : Nat) (hr : rd 1 = ((t + 1 : Nat) : Int)) (ht : t < 20) (h0 : t = 0) (hk : ¬ tKnd tx N i = 1) : ∃ h', Ct 5 42 [aR 201] h (.inl (some (aI 0)), h') ∧ h'.2.2 201 = SO 1 ex 1 ((tOff tx N i : Nat) : Int) ∧ (∃ st nx kd vl, h'.2.2 202 = TO N st nx kd vl) ∧ h'.2.2 223 = .inl (0, 2, .inl bd) ∧ h'.2.2 224 = .inl (0, 2, .inl (va_up rd 1 0)) ∧ NR h h' := by
  obtain ⟨gs, ds, ss, ts, ms⟩ := v_41_5b (h := (sw (sw h 224 (.inl (0, 2, .inl (va_up rd 1 0)))) 201 (SO 1 ex ek eo))) hN hT 1 ex ek eo (sw_at _ _ _) st kd vl i hi ((sw_ne (by decide)).trans ((sw_ne (by decide)).trans hO)) ((sw_ne (by decide)).trans ((sw_ne (by decide)).trans hB)) hk
  refine ⟨gs, Ct.of [aR 201, aU] rfl ?_, ss, ts, (ms.1 223 (by decide) (by decide)).trans ((sw_ne (by decide)).trans ((sw_ne (by decide)).trans hD)), (ms.1 224 (by decide) (by decide)).trans ((sw_ne (by decide)).trans (sw_at _ _ _)), (NR.rf.r.s).tr ms.nr⟩
  refine r_aldR cd_42_0 rfl rfl ?_
  refine r_get cd_42_1 rfl hS rfl ?_
  refine r_con (v := 1) cd_42_4 rfl (by decide) ?_
  refine r_sub (v := 1) cd_42_5 rfl (by omega) ?_
  refine r_ist cd_42_6 rfl rfl (L' := [aR 201, aI 1]) rfl ?_
  refine r_aldR cd_42_7 rfl rfl ?_
  refine r_get cd_42_8 rfl hS rfl ?_
  refine r_ild cd_42_11 rfl rfl ?_
  refine r_dup2 cd_42_12 rfl rfl rfl ?_
  refine r_arr (i := 1) cd_42_13 rfl hQ rfl (by omega) rfl ?_
  refine r_con (v := 1) cd_42_14 rfl (by decide) ?_
  refine r_sub (v := 0) cd_42_15 rfl (by rw [hr]; omega) ?_
  refine r_arsI (i := 1) cd_42_16 rfl rfl hQ rfl (by omega) rfl ?_
  refine r_aldR cd_42_17 rfl rfl ?_
  refine r_get cd_42_18 rfl ((sw_ne (by decide)).trans hS) rfl ?_
  refine r_ild cd_42_21 rfl rfl ?_
  refine r_arr (i := 1) cd_42_22 rfl (sw_at _ _ _) rfl (by omega) rfl ?_
  rw [show va_up rd 1 0 1 = 0 from vu_at _ _ _]
  refine r_if56 cd_42_23 rfl ⟨by omega, by omega⟩ (fun n1 => ?_) (fun n1 => ?_)
  · exact absurd n1 (by decide)
  · refine r_aldR cd_42_41 rfl rfl ?_
    refine r_ild cd_42_42 rfl rfl ?_
    refine r_put (fs' := [aR 202, aR 204, aR 222, aR 223, aR 224, aI 1, aI ex, aI ek, aI eo]) cd_42_43 rfl ((sw_ne (by decide)).trans hS) rfl rfl ?_
    refine r_aldR cd_42_46 rfl rfl ?_
    refine r_con (v := 5) cd_42_47 rfl (by decide) ?_
    refine r_cI ds cd_42_48 rfl rfl rfl (rc0 (sw_at _ _ _) rfl) rfl rfl rfl ?_
    exact r_ret cd_42_51 (Or.inl rfl) (rfl)
