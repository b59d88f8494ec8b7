/-! THE CLASS: directions and parameters of a script (written by wip/whole/gen62.py) -/
/-- the cells but the script's, the tokens' and the values are as before -/
def NV (h h' : aH) : Prop := (∀ a, ¬ a = 201 → ¬ a = 202 → ¬ a = 222 → h'.2.2 a = h.2.2 a) ∧ h'.1 = h.1 ∧ h'.2.1 = h.2.1
theorem NO.nv {h h' : aH} (a : NO h h') : NV h h' := ⟨fun q x y _ => a.1 q x y, a.2⟩
theorem NV.v {h h' : aH} {c : aCell} (a : NV h h') : NV h (sw h' 222 c) := ⟨fun q x y z => (sw_ne z).trans (a.1 q x y z), a.2⟩
theorem NV.s {h h' : aH} {c : aCell} (a : NV h h') : NV h (sw h' 201 c) := ⟨fun q x y z => (sw_ne x).trans (a.1 q x y z), a.2⟩
theorem NV.t {h h' : aH} {c : aCell} (a : NV h h') : NV h (sw h' 202 c) := ⟨fun q x y z => (sw_ne y).trans (a.1 q x y z), a.2⟩
theorem NV.rf {h : aH} : NV h h := ⟨fun _ _ _ _ => rfl, rfl, rfl⟩
theorem NV.rp {h h' : aH} (a : NV h h') {w : Nat → Int} (R : Rp h 204 w) : Rp h' 204 w := R.mv fun q h1 h2 => a.1 q (by omega) (by omega) (by omega)
/-- a parameter is read into the values -/
def PrmP (K y : Nat) (args : List aV) (h : aH) (N : Nat) (dp ex ek eo : Int) (g : Int → Nat → Int) {α : Type} (c : α → Int) (A : Er ⊕ (α × Nat)) : Prop := match A with
  | .inl e => ∃ h', Ct K y args h (.inl (some (aI 0)), h') ∧ h'.2.2 201 = SO dp ex e.1 e.2 ∧ (∃ st nx kd vl, h'.2.2 202 = TO N st nx kd vl) ∧ (∃ va', h'.2.2 222 = .inl (0, 4, .inl va')) ∧ NV h h'
  | .inr a => ∃ h', Ct K y args h (.inl (some (aI 1)), h') ∧ h'.2.2 201 = SO dp ex ek eo ∧ (∃ st kd vl, h'.2.2 202 = TO N st ((a.2 : Nat) : Int) kd vl) ∧ h'.2.2 222 = .inl (0, 4, .inl (g (c a.1))) ∧ NV h h'
theorem t_west : sT 21 = sT 35 := by decide +kernel
theorem t_east : sT 22 = sT 34 := by decide +kernel
theorem t_ew : (sT 34).length = (sT 34).length - 1 + 1 ∧ (sT 35).length = (sT 35).length - 1 + 1 ∧ ¬ (sT 34).getD 0 0 = (sT 35).getD 0 0 := by decide +kernel
theorem not_ew {tx : Nat → Int} {N i : Nat} (h1 : saysB tx N i (sT 34) = true) : saysB tx N i (sT 35) = false := by
  cases h2 : saysB tx N i (sT 35)
  · rfl
  · exfalso
    unfold saysB at h1 h2
    rw [Bool.and_eq_true, Bool.and_eq_true] at h1 h2
    obtain ⟨-, -, a⟩ := h1
    obtain ⟨-, -, b⟩ := h2
    obtain ⟨e1, e2, e3⟩ := t_ew
    rw [e1, eq_s, Bool.and_eq_true] at a
    rw [e2, eq_s, Bool.and_eq_true] at b
    exact e3 ((of_decide_eq_true a.1).symm.trans (of_decide_eq_true b.1))
theorem v_47 {h : aH} {tx tb : Nat → Int} {N : Nat} (hN : N ≤ 600) (hT : ∀ k, k < N → BT (tx k) (tb k)) (dp ex ek eo : Int) (hS : h.2.2 201 = SO dp ex ek eo) {va : Nat → Int} (hV : h.2.2 222 = .inl (0, 4, .inl va)) (st kd vl : Int) (i : Nat) (hi : i ≤ N) (hO : h.2.2 202 = TO N st ((i : Nat) : Int) kd vl) (hB : h.2.2 203 = .inl (1, 600, .inl tb)) : PrmP 6 47 [aR 201, aI 0] h N dp ex ek eo (fun d => va_up va 0 d) (fun d : Int => d) (dirA tx N i) := by
  obtain ⟨vl', c1, hv⟩ := v_64 hN hT st kd vl i hi hO hB
  have hw : ∀ {H : aH}, H.2.2 202 = TO N ((tOff tx N i : Nat) : Int) ((tEnd tx N i : Nat) : Int) (kM (tKnd tx N i)) vl' → H.2.2 203 = .inl (1, 600, .inl tb) → Ct 5 71 [aR 202, aC 21] H (.inl (some (aI (bz (saysB tx N i (sT 35))))), H) ∧ Ct 5 71 [aR 202, aC 22] H (.inl (some (aI (bz (saysB tx N i (sT 34))))), H) := fun a b => by
    have g1 := k_71 hN hT i hi vl' a b 21 (by decide) (by decide)
    have g2 := k_71 hN hT i hi vl' a b 22 (by decide) (by decide)
    rw [t_west] at g1
    rw [t_east] at g2
    exact ⟨g1, g2⟩
  by_cases hE : saysB tx N i (sT 34) = true
  · have hW := not_ew hE
    rw [show dirA tx N i = .inr (1, tEnd tx N i) from if_pos hE]
    refine ⟨(sw (sw h 202 (TO N ((tOff tx N i : Nat) : Int) ((tEnd tx N i : Nat) : Int) (kM (tKnd tx N i)) vl')) 222 (.inl (0, 4, .inl (va_up va 0 1)))), Ct.of [aR 201, aI 0] rfl ?_, (sw_ne (by decide)).trans ((sw_ne (by decide)).trans hS), ⟨_, _, _, (sw_ne (by decide)).trans (sw_at _ _ _)⟩, sw_at _ _ _, NV.rf.t.v⟩
    refine r_aldR cd_47_0 rfl rfl ?_
    refine r_get cd_47_1 rfl hS rfl ?_
    refine r_cV c1 cd_47_4 rfl rfl rfl (rc0 hO rfl) rfl rfl rfl ?_
    refine r_aldR cd_47_7 rfl rfl ?_
    refine r_get cd_47_8 rfl ((sw_ne (by decide)).trans hS) rfl ?_
    refine r_ild cd_47_11 rfl rfl ?_
    refine r_aldR cd_47_12 rfl rfl ?_
    refine r_get cd_47_13 rfl ((sw_ne (by decide)).trans hS) rfl ?_
    refine r_cst cd_47_16 rfl ?_
    refine r_cI (hw (sw_at _ _ _) ((sw_ne (by decide)).trans hB)).1 cd_47_18 rfl rfl rfl (rc0 (sw_at _ _ _) rfl) rfl rfl rfl ?_
    refine r_if51b cd_47_21 rfl (fun n1 => ?_) (fun n1 => ?_)
    · refine r_con (v := 1) cd_47_28 rfl (by decide) ?_
      refine r_arsI (i := 0) cd_47_29 rfl rfl ((sw_ne (by decide)).trans hV) rfl (by omega) rfl ?_
      refine r_aldR cd_47_30 rfl rfl ?_
      refine r_get cd_47_31 rfl ((sw_ne (by decide)).trans ((sw_ne (by decide)).trans hS)) rfl ?_
      refine r_cst cd_47_34 rfl ?_
      refine r_cI (hw ((sw_ne (by decide)).trans (sw_at _ _ _)) ((sw_ne (by decide)).trans ((sw_ne (by decide)).trans hB))).1 cd_47_36 rfl rfl rfl (rc0 ((sw_ne (by decide)).trans (sw_at _ _ _)) rfl) rfl rfl rfl ?_
      refine r_if52b cd_47_39 rfl (fun n2 => ?_) (fun n2 => ?_)
      · refine r_aldR cd_47_42 rfl rfl ?_
        refine r_get cd_47_43 rfl ((sw_ne (by decide)).trans ((sw_ne (by decide)).trans hS)) rfl ?_
        refine r_cst cd_47_46 rfl ?_
        refine r_cI (hw ((sw_ne (by decide)).trans (sw_at _ _ _)) ((sw_ne (by decide)).trans ((sw_ne (by decide)).trans hB))).2 cd_47_48 rfl rfl rfl (rc0 ((sw_ne (by decide)).trans (sw_at _ _ _)) rfl) rfl rfl rfl ?_
        refine r_if52b cd_47_51 rfl (fun n3 => ?_) (fun n3 => ?_)
        · exact Bool.noConfusion (n3.symm.trans hE)
        · refine r_con (v := 1) cd_47_62 rfl (by decide) ?_
          refine r_goto cd_47_63 ?_
          exact r_ret cd_47_67 (Or.inr rfl) (rfl)
      · exact Bool.noConfusion (n2.symm.trans n1)
    · exact Bool.noConfusion (n1.symm.trans hW)
  · have hE2 : saysB tx N i (sT 34) = false := by simpa using hE
    by_cases hW : saysB tx N i (sT 35) = true
    · rw [show dirA tx N i = .inr (-1, tEnd tx N i) by unfold dirA; rw [if_neg hE, if_pos hW]]
      refine ⟨(sw (sw h 202 (TO N ((tOff tx N i : Nat) : Int) ((tEnd tx N i : Nat) : Int) (kM (tKnd tx N i)) vl')) 222 (.inl (0, 4, .inl (va_up va 0 (-1))))), Ct.of [aR 201, aI 0] rfl ?_, (sw_ne (by decide)).trans ((sw_ne (by decide)).trans hS), ⟨_, _, _, (sw_ne (by decide)).trans (sw_at _ _ _)⟩, sw_at _ _ _, NV.rf.t.v⟩
      refine r_aldR cd_47_0 rfl rfl ?_
      refine r_get cd_47_1 rfl hS rfl ?_
      refine r_cV c1 cd_47_4 rfl rfl rfl (rc0 hO rfl) rfl rfl rfl ?_
      refine r_aldR cd_47_7 rfl rfl ?_
      refine r_get cd_47_8 rfl ((sw_ne (by decide)).trans hS) rfl ?_
      refine r_ild cd_47_11 rfl rfl ?_
      refine r_aldR cd_47_12 rfl rfl ?_
      refine r_get cd_47_13 rfl ((sw_ne (by decide)).trans hS) rfl ?_
      refine r_cst cd_47_16 rfl ?_
      refine r_cI (hw (sw_at _ _ _) ((sw_ne (by decide)).trans hB)).1 cd_47_18 rfl rfl rfl (rc0 (sw_at _ _ _) rfl) rfl rfl rfl ?_
      refine r_if51b cd_47_21 rfl (fun n1 => ?_) (fun n1 => ?_)
      · exact Bool.noConfusion (n1.symm.trans hW)
      · refine r_con (v := (-1)) cd_47_24 rfl (by decide) ?_
        refine r_goto cd_47_25 ?_
        refine r_arsI (i := 0) cd_47_29 rfl rfl ((sw_ne (by decide)).trans hV) rfl (by omega) rfl ?_
        refine r_aldR cd_47_30 rfl rfl ?_
        refine r_get cd_47_31 rfl ((sw_ne (by decide)).trans ((sw_ne (by decide)).trans hS)) rfl ?_
        refine r_cst cd_47_34 rfl ?_
        refine r_cI (hw ((sw_ne (by decide)).trans (sw_at _ _ _)) ((sw_ne (by decide)).trans ((sw_ne (by decide)).trans hB))).1 cd_47_36 rfl rfl rfl (rc0 ((sw_ne (by decide)).trans (sw_at _ _ _)) rfl) rfl rfl rfl ?_
        refine r_if52b cd_47_39 rfl (fun n2 => ?_) (fun n2 => ?_)
        · exact Bool.noConfusion (n2.symm.trans n1)
        · refine r_con (v := 1) cd_47_62 rfl (by decide) ?_
          refine r_goto cd_47_63 ?_
          exact r_ret cd_47_67 (Or.inr rfl) (rfl)
    · have hW2 : saysB tx N i (sT 35) = false := by simpa using hW
      rw [show dirA tx N i = .inl (1, ((tOff tx N i : Nat) : Int)) by unfold dirA; rw [if_neg hE, if_neg hW]]
      refine ⟨sw (sw (sw h 202 (TO N ((tOff tx N i : Nat) : Int) ((tEnd tx N i : Nat) : Int) (kM (tKnd tx N i)) vl')) 222 (.inl (0, 4, .inl (va_up va 0 1)))) 201 (SO dp ex 1 ((tOff tx N i : Nat) : Int)), Ct.of [aR 201, aI 0] rfl ?_, sw_at _ _ _, ⟨_, _, _, _, (sw_ne (by decide)).trans ((sw_ne (by decide)).trans (sw_at _ _ _))⟩, ⟨_, (sw_ne (by decide)).trans (sw_at _ _ _)⟩, NV.rf.t.v.s⟩
      refine r_aldR cd_47_0 rfl rfl ?_
      refine r_get cd_47_1 rfl hS rfl ?_
      refine r_cV c1 cd_47_4 rfl rfl rfl (rc0 hO rfl) rfl rfl rfl ?_
      refine r_aldR cd_47_7 rfl rfl ?_
      refine r_get cd_47_8 rfl ((sw_ne (by decide)).trans hS) rfl ?_
      refine r_ild cd_47_11 rfl rfl ?_
      refine r_aldR cd_47_12 rfl rfl ?_
      refine r_get cd_47_13 rfl ((sw_ne (by decide)).trans hS) rfl ?_
      refine r_cst cd_47_16 rfl ?_
      refine r_cI (hw (sw_at _ _ _) ((sw_ne (by decide)).trans hB)).1 cd_47_18 rfl rfl rfl (rc0 (sw_at _ _ _) rfl) rfl rfl rfl ?_
      refine r_if51b cd_47_21 rfl (fun n1 => ?_) (fun n1 => ?_)
      · refine r_con (v := 1) cd_47_28 rfl (by decide) ?_
        refine r_arsI (i := 0) cd_47_29 rfl rfl ((sw_ne (by decide)).trans hV) rfl (by omega) rfl ?_
        refine r_aldR cd_47_30 rfl rfl ?_
        refine r_get cd_47_31 rfl ((sw_ne (by decide)).trans ((sw_ne (by decide)).trans hS)) rfl ?_
        refine r_cst cd_47_34 rfl ?_
        refine r_cI (hw ((sw_ne (by decide)).trans (sw_at _ _ _)) ((sw_ne (by decide)).trans ((sw_ne (by decide)).trans hB))).1 cd_47_36 rfl rfl rfl (rc0 ((sw_ne (by decide)).trans (sw_at _ _ _)) rfl) rfl rfl rfl ?_
        refine r_if52b cd_47_39 rfl (fun n2 => ?_) (fun n2 => ?_)
        · refine r_aldR cd_47_42 rfl rfl ?_
          refine r_get cd_47_43 rfl ((sw_ne (by decide)).trans ((sw_ne (by decide)).trans hS)) rfl ?_
          refine r_cst cd_47_46 rfl ?_
          refine r_cI (hw ((sw_ne (by decide)).trans (sw_at _ _ _)) ((sw_ne (by decide)).trans ((sw_ne (by decide)).trans hB))).2 cd_47_48 rfl rfl rfl (rc0 ((sw_ne (by decide)).trans (sw_at _ _ _)) rfl) rfl rfl rfl ?_
          refine r_if52b cd_47_51 rfl (fun n3 => ?_) (fun n3 => ?_)
          · refine r_aldR cd_47_54 rfl rfl ?_
            refine r_con (v := 1) cd_47_55 rfl (by decide) ?_
            refine r_cI (k_36 dp ex ek eo ((sw_ne (by decide)).trans ((sw_ne (by decide)).trans hS)) N _ _ _ _ ((sw_ne (by decide)).trans (sw_at _ _ _)) 1) cd_47_56 rfl rfl rfl (rc0 ((sw_ne (by decide)).trans ((sw_ne (by decide)).trans hS)) rfl) rfl rfl rfl ?_
            refine r_if51 cd_47_59 rfl ⟨by omega, by omega⟩ (fun n4 => ?_) (fun n4 => ?_)
            · refine r_con (v := 0) cd_47_66 rfl (by decide) ?_
              exact r_ret cd_47_67 (Or.inl rfl) (rfl)
            · exact absurd n4 (by decide)
          · exact Bool.noConfusion (n3.symm.trans hE2)
        · exact Bool.noConfusion (n2.symm.trans n1)
      · exact Bool.noConfusion (n1.symm.trans hW2)
theorem v_46_p0 {h : aH} {tx tb : Nat → Int} {N : Nat} (hN : N ≤ 600) (hT : ∀ k, k < N → BT (tx k) (tb k)) (dp ex ek eo : Int) (hS : h.2.2 201 = SO dp ex ek eo) {w : Nat → Int} (hR : Rp h 204 w) (hI : Inv0 w) {va : Nat → Int} (hV : h.2.2 222 = .inl (0, 4, .inl va)) (hb : TxB tx) (st kd vl : Int) (i : Nat) (hi : i ≤ N) (hO : h.2.2 202 = TO N st ((i : Nat) : Int) kd vl) (hB : h.2.2 203 = .inl (1, 600, .inl tb)) : PrmP 7 46 [aR 201, aI 112, aI 0] h N dp ex ek eo (fun d => va_up va 0 d) (fun q : Nat => ((q : Nat) : Int)) (numA tx N i 0 (w 0 - 1)) := by
  have P1 := v_37_p hN hT dp ex ek eo hS hR hI hV hb st kd vl i hi hO hB
  rcases hA : numA tx N i 0 (w 0 - 1) with e | ⟨q, j⟩
  · rw [hA] at P1
    obtain ⟨h1, d1, s1, t1, n1⟩ := P1
    refine ⟨h1, Ct.of [aR 201, aI 112, aI 0] rfl ?_, s1, t1, ⟨va, (n1.1 222 (by decide) (by decide)).trans hV⟩, n1.nv⟩
    refine r_ild cd_46_0 rfl rfl ?_
    refine r_con (v := 100) cd_46_1 rfl (by decide) ?_
    refine r_ic62 cd_46_3 rfl ⟨by omega, by omega⟩ ⟨by omega, by omega⟩ (fun n21 => ?_) (fun n21 => ?_)
    · exact absurd n21 (by decide)
    · refine r_aldR cd_46_12 rfl rfl ?_
      refine r_ild cd_46_13 rfl rfl ?_
      refine r_cI d1 cd_46_14 rfl rfl rfl (rc0 hS rfl) rfl rfl rfl ?_
      refine r_if52 cd_46_17 rfl ⟨by omega, by omega⟩ (fun n22 => ?_) (fun n22 => ?_)
      · refine r_con (v := 0) cd_46_20 rfl (by decide) ?_
        exact r_ret cd_46_21 (Or.inl rfl) (rfl)
      · exact absurd n22 (by decide)
  · rw [hA] at P1
    obtain ⟨h1, d1, s1, ⟨st1, kd1, t1⟩, n1⟩ := P1
    have v1 := (n1.1 222 (by decide) (by decide)).trans hV
    refine ⟨sw h1 222 (.inl (0, 4, .inl (va_up va 0 ((q : Nat) : Int)))), Ct.of [aR 201, aI 112, aI 0] rfl ?_, (sw_ne (by decide)).trans s1, ⟨_, _, _, (sw_ne (by decide)).trans t1⟩, sw_at _ _ _, n1.nv.v⟩
    refine r_ild cd_46_0 rfl rfl ?_
    refine r_con (v := 100) cd_46_1 rfl (by decide) ?_
    refine r_ic62 cd_46_3 rfl ⟨by omega, by omega⟩ ⟨by omega, by omega⟩ (fun n21 => ?_) (fun n21 => ?_)
    · exact absurd n21 (by decide)
    · refine r_aldR cd_46_12 rfl rfl ?_
      refine r_ild cd_46_13 rfl rfl ?_
      refine r_cI d1 cd_46_14 rfl rfl rfl (rc0 hS rfl) rfl rfl rfl ?_
      refine r_if52 cd_46_17 rfl ⟨by omega, by omega⟩ (fun n22 => ?_) (fun n22 => ?_)
      · exact absurd n22 (by decide)
      · refine r_ild cd_46_22 rfl rfl ?_
        refine r_con (v := 103) cd_46_23 rfl (by decide) ?_
        refine r_ic62 cd_46_25 rfl ⟨by omega, by omega⟩ ⟨by omega, by omega⟩ (fun n23 => ?_) (fun n23 => ?_)
        · exact absurd n23 (by decide)
        · refine r_aldR cd_46_47 rfl rfl ?_
          refine r_get cd_46_48 rfl s1 rfl ?_
          refine r_ild cd_46_51 rfl rfl ?_
          refine r_aldR cd_46_52 rfl rfl ?_
          refine r_get cd_46_53 rfl s1 rfl ?_
          refine r_get cd_46_56 rfl t1 rfl ?_
          refine r_arsI (i := 0) cd_46_59 rfl rfl v1 rfl (by omega) rfl ?_
          refine r_con (v := 1) cd_46_60 rfl (by decide) ?_
          exact r_ret cd_46_61 (Or.inr rfl) (rfl)
theorem v_46_h1 {h : aH} {tx tb : Nat → Int} {N : Nat} (hN : N ≤ 600) (hT : ∀ k, k < N → BT (tx k) (tb k)) (dp ex ek eo : Int) (hS : h.2.2 201 = SO dp ex ek eo) {w : Nat → Int} (hR : Rp h 204 w) (hI : Inv0 w) {va : Nat → Int} (hV : h.2.2 222 = .inl (0, 4, .inl va)) (hb : TxB tx) (st kd vl : Int) (i : Nat) (hi : i ≤ N) (hO : h.2.2 202 = TO N st ((i : Nat) : Int) kd vl) (hB : h.2.2 203 = .inl (1, 600, .inl tb)) : PrmP 7 46 [aR 201, aI 104, aI 1] h N dp ex ek eo (fun d => va_up va 1 d) (fun q : Nat => ((q : Nat) : Int)) (numA tx N i 0 9) := by
  have P1 := v_37_h hN hT dp ex ek eo hS hR hI hV hb st kd vl i hi hO hB
  rcases hA : numA tx N i 0 9 with e | ⟨q, j⟩
  · rw [hA] at P1
    obtain ⟨h1, d1, s1, t1, n1⟩ := P1
    refine ⟨h1, Ct.of [aR 201, aI 104, aI 1] rfl ?_, s1, t1, ⟨va, (n1.1 222 (by decide) (by decide)).trans hV⟩, n1.nv⟩
    refine r_ild cd_46_0 rfl rfl ?_
    refine r_con (v := 100) cd_46_1 rfl (by decide) ?_
    refine r_ic62 cd_46_3 rfl ⟨by omega, by omega⟩ ⟨by omega, by omega⟩ (fun n21 => ?_) (fun n21 => ?_)
    · exact absurd n21 (by decide)
    · refine r_aldR cd_46_12 rfl rfl ?_
      refine r_ild cd_46_13 rfl rfl ?_
      refine r_cI d1 cd_46_14 rfl rfl rfl (rc0 hS rfl) rfl rfl rfl ?_
      refine r_if52 cd_46_17 rfl ⟨by omega, by omega⟩ (fun n22 => ?_) (fun n22 => ?_)
      · refine r_con (v := 0) cd_46_20 rfl (by decide) ?_
        exact r_ret cd_46_21 (Or.inl rfl) (rfl)
      · exact absurd n22 (by decide)
  · rw [hA] at P1
    obtain ⟨h1, d1, s1, ⟨st1, kd1, t1⟩, n1⟩ := P1
    have v1 := (n1.1 222 (by decide) (by decide)).trans hV
    refine ⟨sw h1 222 (.inl (0, 4, .inl (va_up va 1 ((q : Nat) : Int)))), Ct.of [aR 201, aI 104, aI 1] rfl ?_, (sw_ne (by decide)).trans s1, ⟨_, _, _, (sw_ne (by decide)).trans t1⟩, sw_at _ _ _, n1.nv.v⟩
    refine r_ild cd_46_0 rfl rfl ?_
    refine r_con (v := 100) cd_46_1 rfl (by decide) ?_
    refine r_ic62 cd_46_3 rfl ⟨by omega, by omega⟩ ⟨by omega, by omega⟩ (fun n21 => ?_) (fun n21 => ?_)
    · exact absurd n21 (by decide)
    · refine r_aldR cd_46_12 rfl rfl ?_
      refine r_ild cd_46_13 rfl rfl ?_
      refine r_cI d1 cd_46_14 rfl rfl rfl (rc0 hS rfl) rfl rfl rfl ?_
      refine r_if52 cd_46_17 rfl ⟨by omega, by omega⟩ (fun n22 => ?_) (fun n22 => ?_)
      · exact absurd n22 (by decide)
      · refine r_ild cd_46_22 rfl rfl ?_
        refine r_con (v := 103) cd_46_23 rfl (by decide) ?_
        refine r_ic62 cd_46_25 rfl ⟨by omega, by omega⟩ ⟨by omega, by omega⟩ (fun n23 => ?_) (fun n23 => ?_)
        · exact absurd n23 (by decide)
        · refine r_aldR cd_46_47 rfl rfl ?_
          refine r_get cd_46_48 rfl s1 rfl ?_
          refine r_ild cd_46_51 rfl rfl ?_
          refine r_aldR cd_46_52 rfl rfl ?_
          refine r_get cd_46_53 rfl s1 rfl ?_
          refine r_get cd_46_56 rfl t1 rfl ?_
          refine r_arsI (i := 1) cd_46_59 rfl rfl v1 rfl (by omega) rfl ?_
          refine r_con (v := 1) cd_46_60 rfl (by decide) ?_
          exact r_ret cd_46_61 (Or.inr rfl) (rfl)
theorem v_46_g1 {h : aH} {tx tb : Nat → Int} {N : Nat} (hN : N ≤ 600) (hT : ∀ k, k < N → BT (tx k) (tb k)) (dp ex ek eo : Int) (hS : h.2.2 201 = SO dp ex ek eo) {w : Nat → Int} (hR : Rp h 204 w) (hI : Inv0 w) {va : Nat → Int} (hV : h.2.2 222 = .inl (0, 4, .inl va)) (hb : TxB tx) (st kd vl : Int) (i : Nat) (hi : i ≤ N) (hO : h.2.2 202 = TO N st ((i : Nat) : Int) kd vl) (hB : h.2.2 203 = .inl (1, 600, .inl tb)) : PrmP 7 46 [aR 201, aI 103, aI 1] h N dp ex ek eo (fun d => va_up va 0 (va 0 * d)) (fun q : Nat => ((q : Nat) : Int)) (numA tx N i 0 3) := by
  have P1 := v_37_g hN hT dp ex ek eo hS hR hI hV hb st kd vl i hi hO hB
  rcases hA : numA tx N i 0 3 with e | ⟨q, j⟩
  · rw [hA] at P1
    obtain ⟨h1, d1, s1, t1, n1⟩ := P1
    refine ⟨h1, Ct.of [aR 201, aI 103, aI 1] rfl ?_, s1, t1, ⟨va, (n1.1 222 (by decide) (by decide)).trans hV⟩, n1.nv⟩
    refine r_ild cd_46_0 rfl rfl ?_
    refine r_con (v := 100) cd_46_1 rfl (by decide) ?_
    refine r_ic62 cd_46_3 rfl ⟨by omega, by omega⟩ ⟨by omega, by omega⟩ (fun n21 => ?_) (fun n21 => ?_)
    · exact absurd n21 (by decide)
    · refine r_aldR cd_46_12 rfl rfl ?_
      refine r_ild cd_46_13 rfl rfl ?_
      refine r_cI d1 cd_46_14 rfl rfl rfl (rc0 hS rfl) rfl rfl rfl ?_
      refine r_if52 cd_46_17 rfl ⟨by omega, by omega⟩ (fun n22 => ?_) (fun n22 => ?_)
      · refine r_con (v := 0) cd_46_20 rfl (by decide) ?_
        exact r_ret cd_46_21 (Or.inl rfl) (rfl)
      · exact absurd n22 (by decide)
  · rw [hA] at P1
    obtain ⟨h1, d1, s1, ⟨st1, kd1, t1⟩, n1⟩ := P1
    have v1 := (n1.1 222 (by decide) (by decide)).trans hV
    refine ⟨sw h1 222 (.inl (0, 4, .inl (va_up va 0 (va 0 * ((q : Nat) : Int))))), Ct.of [aR 201, aI 103, aI 1] rfl ?_, (sw_ne (by decide)).trans s1, ⟨_, _, _, (sw_ne (by decide)).trans t1⟩, sw_at _ _ _, n1.nv.v⟩
    refine r_ild cd_46_0 rfl rfl ?_
    refine r_con (v := 100) cd_46_1 rfl (by decide) ?_
    refine r_ic62 cd_46_3 rfl ⟨by omega, by omega⟩ ⟨by omega, by omega⟩ (fun n21 => ?_) (fun n21 => ?_)
    · exact absurd n21 (by decide)
    · refine r_aldR cd_46_12 rfl rfl ?_
      refine r_ild cd_46_13 rfl rfl ?_
      refine r_cI d1 cd_46_14 rfl rfl rfl (rc0 hS rfl) rfl rfl rfl ?_
      refine r_if52 cd_46_17 rfl ⟨by omega, by omega⟩ (fun n22 => ?_) (fun n22 => ?_)
      · exact absurd n22 (by decide)
      · refine r_ild cd_46_22 rfl rfl ?_
        refine r_con (v := 103) cd_46_23 rfl (by decide) ?_
        refine r_ic62 cd_46_25 rfl ⟨by omega, by omega⟩ ⟨by omega, by omega⟩ (fun n23 => ?_) (fun n23 => ?_)
        · refine r_aldR cd_46_28 rfl rfl ?_
          refine r_get cd_46_29 rfl s1 rfl ?_
          refine r_con (v := 0) cd_46_32 rfl (by decide) ?_
          refine r_dup2 cd_46_33 rfl rfl rfl ?_
          refine r_arr (i := 0) cd_46_34 rfl v1 rfl (by omega) rfl ?_
          refine r_aldR cd_46_35 rfl rfl ?_
          refine r_get cd_46_36 rfl s1 rfl ?_
          refine r_get cd_46_39 rfl t1 rfl ?_
          refine r_mul (v := (va 0) * ((q : Nat) : Int)) cd_46_42 rfl (by rfl) ?_
          refine r_arsI (i := 0) cd_46_43 rfl rfl v1 rfl (by omega) rfl ?_
          refine r_goto cd_46_44 ?_
          refine r_con (v := 1) cd_46_60 rfl (by decide) ?_
          exact r_ret cd_46_61 (Or.inr rfl) (rfl)
        · exact absurd rfl n23
theorem v_46_l0 {h : aH} {tx tb : Nat → Int} {N : Nat} (hN : N ≤ 600) (hT : ∀ k, k < N → BT (tx k) (tb k)) (dp ex ek eo : Int) (hS : h.2.2 201 = SO dp ex ek eo) {w : Nat → Int} (hR : Rp h 204 w) (hI : Inv0 w) {va : Nat → Int} (hV : h.2.2 222 = .inl (0, 4, .inl va)) (hb : TxB tx) (st kd vl : Int) (i : Nat) (hi : i ≤ N) (hO : h.2.2 202 = TO N st ((i : Nat) : Int) kd vl) (hB : h.2.2 203 = .inl (1, 600, .inl tb)) : PrmP 7 46 [aR 201, aI 108, aI 0] h N dp ex ek eo (fun d => va_up va 0 d) (fun q : Nat => ((q : Nat) : Int)) (numA tx N i 1 9) := by
  have P1 := v_37_l hN hT dp ex ek eo hS hR hI hV hb st kd vl i hi hO hB
  rcases hA : numA tx N i 1 9 with e | ⟨q, j⟩
  · rw [hA] at P1
    obtain ⟨h1, d1, s1, t1, n1⟩ := P1
    refine ⟨h1, Ct.of [aR 201, aI 108, aI 0] rfl ?_, s1, t1, ⟨va, (n1.1 222 (by decide) (by decide)).trans hV⟩, n1.nv⟩
    refine r_ild cd_46_0 rfl rfl ?_
    refine r_con (v := 100) cd_46_1 rfl (by decide) ?_
    refine r_ic62 cd_46_3 rfl ⟨by omega, by omega⟩ ⟨by omega, by omega⟩ (fun n21 => ?_) (fun n21 => ?_)
    · exact absurd n21 (by decide)
    · refine r_aldR cd_46_12 rfl rfl ?_
      refine r_ild cd_46_13 rfl rfl ?_
      refine r_cI d1 cd_46_14 rfl rfl rfl (rc0 hS rfl) rfl rfl rfl ?_
      refine r_if52 cd_46_17 rfl ⟨by omega, by omega⟩ (fun n22 => ?_) (fun n22 => ?_)
      · refine r_con (v := 0) cd_46_20 rfl (by decide) ?_
        exact r_ret cd_46_21 (Or.inl rfl) (rfl)
      · exact absurd n22 (by decide)
  · rw [hA] at P1
    obtain ⟨h1, d1, s1, ⟨st1, kd1, t1⟩, n1⟩ := P1
    have v1 := (n1.1 222 (by decide) (by decide)).trans hV
    refine ⟨sw h1 222 (.inl (0, 4, .inl (va_up va 0 ((q : Nat) : Int)))), Ct.of [aR 201, aI 108, aI 0] rfl ?_, (sw_ne (by decide)).trans s1, ⟨_, _, _, (sw_ne (by decide)).trans t1⟩, sw_at _ _ _, n1.nv.v⟩
    refine r_ild cd_46_0 rfl rfl ?_
    refine r_con (v := 100) cd_46_1 rfl (by decide) ?_
    refine r_ic62 cd_46_3 rfl ⟨by omega, by omega⟩ ⟨by omega, by omega⟩ (fun n21 => ?_) (fun n21 => ?_)
    · exact absurd n21 (by decide)
    · refine r_aldR cd_46_12 rfl rfl ?_
      refine r_ild cd_46_13 rfl rfl ?_
      refine r_cI d1 cd_46_14 rfl rfl rfl (rc0 hS rfl) rfl rfl rfl ?_
      refine r_if52 cd_46_17 rfl ⟨by omega, by omega⟩ (fun n22 => ?_) (fun n22 => ?_)
      · exact absurd n22 (by decide)
      · refine r_ild cd_46_22 rfl rfl ?_
        refine r_con (v := 103) cd_46_23 rfl (by decide) ?_
        refine r_ic62 cd_46_25 rfl ⟨by omega, by omega⟩ ⟨by omega, by omega⟩ (fun n23 => ?_) (fun n23 => ?_)
        · exact absurd n23 (by decide)
        · refine r_aldR cd_46_47 rfl rfl ?_
          refine r_get cd_46_48 rfl s1 rfl ?_
          refine r_ild cd_46_51 rfl rfl ?_
          refine r_aldR cd_46_52 rfl rfl ?_
          refine r_get cd_46_53 rfl s1 rfl ?_
          refine r_get cd_46_56 rfl t1 rfl ?_
          refine r_arsI (i := 0) cd_46_59 rfl rfl v1 rfl (by omega) rfl ?_
          refine r_con (v := 1) cd_46_60 rfl (by decide) ?_
          exact r_ret cd_46_61 (Or.inr rfl) (rfl)
theorem v_46_u1 {h : aH} {tx tb : Nat → Int} {N : Nat} (hN : N ≤ 600) (hT : ∀ k, k < N → BT (tx k) (tb k)) (dp ex ek eo : Int) (hS : h.2.2 201 = SO dp ex ek eo) {w : Nat → Int} (hR : Rp h 204 w) (hI : Inv0 w) {va : Nat → Int} (hV : h.2.2 222 = .inl (0, 4, .inl va)) (hb : TxB tx) (st kd vl : Int) (i : Nat) (hi : i ≤ N) (hO : h.2.2 202 = TO N st ((i : Nat) : Int) kd vl) (hB : h.2.2 203 = .inl (1, 600, .inl tb)) : PrmP 7 46 [aR 201, aI 117, aI 1] h N dp ex ek eo (fun d => va_up va 1 d) (fun q : Nat => ((q : Nat) : Int)) (numA tx N i 1 30) := by
  have P1 := v_37_u hN hT dp ex ek eo hS hR hI hV hb st kd vl i hi hO hB
  rcases hA : numA tx N i 1 30 with e | ⟨q, j⟩
  · rw [hA] at P1
    obtain ⟨h1, d1, s1, t1, n1⟩ := P1
    refine ⟨h1, Ct.of [aR 201, aI 117, aI 1] rfl ?_, s1, t1, ⟨va, (n1.1 222 (by decide) (by decide)).trans hV⟩, n1.nv⟩
    refine r_ild cd_46_0 rfl rfl ?_
    refine r_con (v := 100) cd_46_1 rfl (by decide) ?_
    refine r_ic62 cd_46_3 rfl ⟨by omega, by omega⟩ ⟨by omega, by omega⟩ (fun n21 => ?_) (fun n21 => ?_)
    · exact absurd n21 (by decide)
    · refine r_aldR cd_46_12 rfl rfl ?_
      refine r_ild cd_46_13 rfl rfl ?_
      refine r_cI d1 cd_46_14 rfl rfl rfl (rc0 hS rfl) rfl rfl rfl ?_
      refine r_if52 cd_46_17 rfl ⟨by omega, by omega⟩ (fun n22 => ?_) (fun n22 => ?_)
      · refine r_con (v := 0) cd_46_20 rfl (by decide) ?_
        exact r_ret cd_46_21 (Or.inl rfl) (rfl)
      · exact absurd n22 (by decide)
  · rw [hA] at P1
    obtain ⟨h1, d1, s1, ⟨st1, kd1, t1⟩, n1⟩ := P1
    have v1 := (n1.1 222 (by decide) (by decide)).trans hV
    refine ⟨sw h1 222 (.inl (0, 4, .inl (va_up va 1 ((q : Nat) : Int)))), Ct.of [aR 201, aI 117, aI 1] rfl ?_, (sw_ne (by decide)).trans s1, ⟨_, _, _, (sw_ne (by decide)).trans t1⟩, sw_at _ _ _, n1.nv.v⟩
    refine r_ild cd_46_0 rfl rfl ?_
    refine r_con (v := 100) cd_46_1 rfl (by decide) ?_
    refine r_ic62 cd_46_3 rfl ⟨by omega, by omega⟩ ⟨by omega, by omega⟩ (fun n21 => ?_) (fun n21 => ?_)
    · exact absurd n21 (by decide)
    · refine r_aldR cd_46_12 rfl rfl ?_
      refine r_ild cd_46_13 rfl rfl ?_
      refine r_cI d1 cd_46_14 rfl rfl rfl (rc0 hS rfl) rfl rfl rfl ?_
      refine r_if52 cd_46_17 rfl ⟨by omega, by omega⟩ (fun n22 => ?_) (fun n22 => ?_)
      · exact absurd n22 (by decide)
      · refine r_ild cd_46_22 rfl rfl ?_
        refine r_con (v := 103) cd_46_23 rfl (by decide) ?_
        refine r_ic62 cd_46_25 rfl ⟨by omega, by omega⟩ ⟨by omega, by omega⟩ (fun n23 => ?_) (fun n23 => ?_)
        · exact absurd n23 (by decide)
        · refine r_aldR cd_46_47 rfl rfl ?_
          refine r_get cd_46_48 rfl s1 rfl ?_
          refine r_ild cd_46_51 rfl rfl ?_
          refine r_aldR cd_46_52 rfl rfl ?_
          refine r_get cd_46_53 rfl s1 rfl ?_
          refine r_get cd_46_56 rfl t1 rfl ?_
          refine r_arsI (i := 1) cd_46_59 rfl rfl v1 rfl (by omega) rfl ?_
          refine r_con (v := 1) cd_46_60 rfl (by decide) ?_
          exact r_ret cd_46_61 (Or.inr rfl) (rfl)
theorem v_46_s2 {h : aH} {tx tb : Nat → Int} {N : Nat} (hN : N ≤ 600) (hT : ∀ k, k < N → BT (tx k) (tb k)) (dp ex ek eo : Int) (hS : h.2.2 201 = SO dp ex ek eo) {w : Nat → Int} (hR : Rp h 204 w) (hI : Inv0 w) {va : Nat → Int} (hV : h.2.2 222 = .inl (0, 4, .inl va)) (hb : TxB tx) (st kd vl : Int) (i : Nat) (hi : i ≤ N) (hO : h.2.2 202 = TO N st ((i : Nat) : Int) kd vl) (hB : h.2.2 203 = .inl (1, 600, .inl tb)) : PrmP 7 46 [aR 201, aI 115, aI 2] h N dp ex ek eo (fun d => va_up va 2 d) (fun q : Nat => ((q : Nat) : Int)) (numA tx N i 1 9) := by
  have P1 := v_37_s hN hT dp ex ek eo hS hR hI hV hb st kd vl i hi hO hB
  rcases hA : numA tx N i 1 9 with e | ⟨q, j⟩
  · rw [hA] at P1
    obtain ⟨h1, d1, s1, t1, n1⟩ := P1
    refine ⟨h1, Ct.of [aR 201, aI 115, aI 2] rfl ?_, s1, t1, ⟨va, (n1.1 222 (by decide) (by decide)).trans hV⟩, n1.nv⟩
    refine r_ild cd_46_0 rfl rfl ?_
    refine r_con (v := 100) cd_46_1 rfl (by decide) ?_
    refine r_ic62 cd_46_3 rfl ⟨by omega, by omega⟩ ⟨by omega, by omega⟩ (fun n21 => ?_) (fun n21 => ?_)
    · exact absurd n21 (by decide)
    · refine r_aldR cd_46_12 rfl rfl ?_
      refine r_ild cd_46_13 rfl rfl ?_
      refine r_cI d1 cd_46_14 rfl rfl rfl (rc0 hS rfl) rfl rfl rfl ?_
      refine r_if52 cd_46_17 rfl ⟨by omega, by omega⟩ (fun n22 => ?_) (fun n22 => ?_)
      · refine r_con (v := 0) cd_46_20 rfl (by decide) ?_
        exact r_ret cd_46_21 (Or.inl rfl) (rfl)
      · exact absurd n22 (by decide)
  · rw [hA] at P1
    obtain ⟨h1, d1, s1, ⟨st1, kd1, t1⟩, n1⟩ := P1
    have v1 := (n1.1 222 (by decide) (by decide)).trans hV
    refine ⟨sw h1 222 (.inl (0, 4, .inl (va_up va 2 ((q : Nat) : Int)))), Ct.of [aR 201, aI 115, aI 2] rfl ?_, (sw_ne (by decide)).trans s1, ⟨_, _, _, (sw_ne (by decide)).trans t1⟩, sw_at _ _ _, n1.nv.v⟩
    refine r_ild cd_46_0 rfl rfl ?_
    refine r_con (v := 100) cd_46_1 rfl (by decide) ?_
    refine r_ic62 cd_46_3 rfl ⟨by omega, by omega⟩ ⟨by omega, by omega⟩ (fun n21 => ?_) (fun n21 => ?_)
    · exact absurd n21 (by decide)
    · refine r_aldR cd_46_12 rfl rfl ?_
      refine r_ild cd_46_13 rfl rfl ?_
      refine r_cI d1 cd_46_14 rfl rfl rfl (rc0 hS rfl) rfl rfl rfl ?_
      refine r_if52 cd_46_17 rfl ⟨by omega, by omega⟩ (fun n22 => ?_) (fun n22 => ?_)
      · exact absurd n22 (by decide)
      · refine r_ild cd_46_22 rfl rfl ?_
        refine r_con (v := 103) cd_46_23 rfl (by decide) ?_
        refine r_ic62 cd_46_25 rfl ⟨by omega, by omega⟩ ⟨by omega, by omega⟩ (fun n23 => ?_) (fun n23 => ?_)
        · exact absurd n23 (by decide)
        · refine r_aldR cd_46_47 rfl rfl ?_
          refine r_get cd_46_48 rfl s1 rfl ?_
          refine r_ild cd_46_51 rfl rfl ?_
          refine r_aldR cd_46_52 rfl rfl ?_
          refine r_get cd_46_53 rfl s1 rfl ?_
          refine r_get cd_46_56 rfl t1 rfl ?_
          refine r_arsI (i := 2) cd_46_59 rfl rfl v1 rfl (by omega) rfl ?_
          refine r_con (v := 1) cd_46_60 rfl (by decide) ?_
          exact r_ret cd_46_61 (Or.inr rfl) (rfl)
theorem v_46_w0 {h : aH} {tx tb : Nat → Int} {N : Nat} (hN : N ≤ 600) (hT : ∀ k, k < N → BT (tx k) (tb k)) (dp ex ek eo : Int) (hS : h.2.2 201 = SO dp ex ek eo) {w : Nat → Int} (hR : Rp h 204 w) (hI : Inv0 w) {va : Nat → Int} (hV : h.2.2 222 = .inl (0, 4, .inl va)) (hb : TxB tx) (st kd vl : Int) (i : Nat) (hi : i ≤ N) (hO : h.2.2 202 = TO N st ((i : Nat) : Int) kd vl) (hB : h.2.2 203 = .inl (1, 600, .inl tb)) : PrmP 7 46 [aR 201, aI 119, aI 0] h N dp ex ek eo (fun d => va_up va 0 d) (fun q : Nat => ((q : Nat) : Int)) (numA tx N i 1 9) := by
  have P1 := v_37_w hN hT dp ex ek eo hS hR hI hV hb st kd vl i hi hO hB
  rcases hA : numA tx N i 1 9 with e | ⟨q, j⟩
  · rw [hA] at P1
    obtain ⟨h1, d1, s1, t1, n1⟩ := P1
    refine ⟨h1, Ct.of [aR 201, aI 119, aI 0] rfl ?_, s1, t1, ⟨va, (n1.1 222 (by decide) (by decide)).trans hV⟩, n1.nv⟩
    refine r_ild cd_46_0 rfl rfl ?_
    refine r_con (v := 100) cd_46_1 rfl (by decide) ?_
    refine r_ic62 cd_46_3 rfl ⟨by omega, by omega⟩ ⟨by omega, by omega⟩ (fun n21 => ?_) (fun n21 => ?_)
    · exact absurd n21 (by decide)
    · refine r_aldR cd_46_12 rfl rfl ?_
      refine r_ild cd_46_13 rfl rfl ?_
      refine r_cI d1 cd_46_14 rfl rfl rfl (rc0 hS rfl) rfl rfl rfl ?_
      refine r_if52 cd_46_17 rfl ⟨by omega, by omega⟩ (fun n22 => ?_) (fun n22 => ?_)
      · refine r_con (v := 0) cd_46_20 rfl (by decide) ?_
        exact r_ret cd_46_21 (Or.inl rfl) (rfl)
      · exact absurd n22 (by decide)
  · rw [hA] at P1
    obtain ⟨h1, d1, s1, ⟨st1, kd1, t1⟩, n1⟩ := P1
    have v1 := (n1.1 222 (by decide) (by decide)).trans hV
    refine ⟨sw h1 222 (.inl (0, 4, .inl (va_up va 0 ((q : Nat) : Int)))), Ct.of [aR 201, aI 119, aI 0] rfl ?_, (sw_ne (by decide)).trans s1, ⟨_, _, _, (sw_ne (by decide)).trans t1⟩, sw_at _ _ _, n1.nv.v⟩
    refine r_ild cd_46_0 rfl rfl ?_
    refine r_con (v := 100) cd_46_1 rfl (by decide) ?_
    refine r_ic62 cd_46_3 rfl ⟨by omega, by omega⟩ ⟨by omega, by omega⟩ (fun n21 => ?_) (fun n21 => ?_)
    · exact absurd n21 (by decide)
    · refine r_aldR cd_46_12 rfl rfl ?_
      refine r_ild cd_46_13 rfl rfl ?_
      refine r_cI d1 cd_46_14 rfl rfl rfl (rc0 hS rfl) rfl rfl rfl ?_
      refine r_if52 cd_46_17 rfl ⟨by omega, by omega⟩ (fun n22 => ?_) (fun n22 => ?_)
      · exact absurd n22 (by decide)
      · refine r_ild cd_46_22 rfl rfl ?_
        refine r_con (v := 103) cd_46_23 rfl (by decide) ?_
        refine r_ic62 cd_46_25 rfl ⟨by omega, by omega⟩ ⟨by omega, by omega⟩ (fun n23 => ?_) (fun n23 => ?_)
        · exact absurd n23 (by decide)
        · refine r_aldR cd_46_47 rfl rfl ?_
          refine r_get cd_46_48 rfl s1 rfl ?_
          refine r_ild cd_46_51 rfl rfl ?_
          refine r_aldR cd_46_52 rfl rfl ?_
          refine r_get cd_46_53 rfl s1 rfl ?_
          refine r_get cd_46_56 rfl t1 rfl ?_
          refine r_arsI (i := 0) cd_46_59 rfl rfl v1 rfl (by omega) rfl ?_
          refine r_con (v := 1) cd_46_60 rfl (by decide) ?_
          exact r_ret cd_46_61 (Or.inr rfl) (rfl)
theorem v_46_p1 {h : aH} {tx tb : Nat → Int} {N : Nat} (hN : N ≤ 600) (hT : ∀ k, k < N → BT (tx k) (tb k)) (dp ex ek eo : Int) (hS : h.2.2 201 = SO dp ex ek eo) {w : Nat → Int} (hR : Rp h 204 w) (hI : Inv0 w) {va : Nat → Int} (hV : h.2.2 222 = .inl (0, 4, .inl va)) (hb : TxB tx) (st kd vl : Int) (i : Nat) (hi : i ≤ N) (hO : h.2.2 202 = TO N st ((i : Nat) : Int) kd vl) (hB : h.2.2 203 = .inl (1, 600, .inl tb)) : PrmP 7 46 [aR 201, aI 112, aI 1] h N dp ex ek eo (fun d => va_up va 1 d) (fun q : Nat => ((q : Nat) : Int)) (numA tx N i 0 (w 0 - 1)) := by
  have P1 := v_37_p hN hT dp ex ek eo hS hR hI hV hb st kd vl i hi hO hB
  rcases hA : numA tx N i 0 (w 0 - 1) with e | ⟨q, j⟩
  · rw [hA] at P1
    obtain ⟨h1, d1, s1, t1, n1⟩ := P1
    refine ⟨h1, Ct.of [aR 201, aI 112, aI 1] rfl ?_, s1, t1, ⟨va, (n1.1 222 (by decide) (by decide)).trans hV⟩, n1.nv⟩
    refine r_ild cd_46_0 rfl rfl ?_
    refine r_con (v := 100) cd_46_1 rfl (by decide) ?_
    refine r_ic62 cd_46_3 rfl ⟨by omega, by omega⟩ ⟨by omega, by omega⟩ (fun n21 => ?_) (fun n21 => ?_)
    · exact absurd n21 (by decide)
    · refine r_aldR cd_46_12 rfl rfl ?_
      refine r_ild cd_46_13 rfl rfl ?_
      refine r_cI d1 cd_46_14 rfl rfl rfl (rc0 hS rfl) rfl rfl rfl ?_
      refine r_if52 cd_46_17 rfl ⟨by omega, by omega⟩ (fun n22 => ?_) (fun n22 => ?_)
      · refine r_con (v := 0) cd_46_20 rfl (by decide) ?_
        exact r_ret cd_46_21 (Or.inl rfl) (rfl)
      · exact absurd n22 (by decide)
  · rw [hA] at P1
    obtain ⟨h1, d1, s1, ⟨st1, kd1, t1⟩, n1⟩ := P1
    have v1 := (n1.1 222 (by decide) (by decide)).trans hV
    refine ⟨sw h1 222 (.inl (0, 4, .inl (va_up va 1 ((q : Nat) : Int)))), Ct.of [aR 201, aI 112, aI 1] rfl ?_, (sw_ne (by decide)).trans s1, ⟨_, _, _, (sw_ne (by decide)).trans t1⟩, sw_at _ _ _, n1.nv.v⟩
    refine r_ild cd_46_0 rfl rfl ?_
    refine r_con (v := 100) cd_46_1 rfl (by decide) ?_
    refine r_ic62 cd_46_3 rfl ⟨by omega, by omega⟩ ⟨by omega, by omega⟩ (fun n21 => ?_) (fun n21 => ?_)
    · exact absurd n21 (by decide)
    · refine r_aldR cd_46_12 rfl rfl ?_
      refine r_ild cd_46_13 rfl rfl ?_
      refine r_cI d1 cd_46_14 rfl rfl rfl (rc0 hS rfl) rfl rfl rfl ?_
      refine r_if52 cd_46_17 rfl ⟨by omega, by omega⟩ (fun n22 => ?_) (fun n22 => ?_)
      · exact absurd n22 (by decide)
      · refine r_ild cd_46_22 rfl rfl ?_
        refine r_con (v := 103) cd_46_23 rfl (by decide) ?_
        refine r_ic62 cd_46_25 rfl ⟨by omega, by omega⟩ ⟨by omega, by omega⟩ (fun n23 => ?_) (fun n23 => ?_)
        · exact absurd n23 (by decide)
        · refine r_aldR cd_46_47 rfl rfl ?_
          refine r_get cd_46_48 rfl s1 rfl ?_
          refine r_ild cd_46_51 rfl rfl ?_
          refine r_aldR cd_46_52 rfl rfl ?_
          refine r_get cd_46_53 rfl s1 rfl ?_
          refine r_get cd_46_56 rfl t1 rfl ?_
          refine r_arsI (i := 1) cd_46_59 rfl rfl v1 rfl (by omega) rfl ?_
          refine r_con (v := 1) cd_46_60 rfl (by decide) ?_
          exact r_ret cd_46_61 (Or.inr rfl) (rfl)
theorem v_46_o2 {h : aH} {tx tb : Nat → Int} {N : Nat} (hN : N ≤ 600) (hT : ∀ k, k < N → BT (tx k) (tb k)) (dp ex ek eo : Int) (hS : h.2.2 201 = SO dp ex ek eo) {w : Nat → Int} (hR : Rp h 204 w) (hI : Inv0 w) {va : Nat → Int} (hV : h.2.2 222 = .inl (0, 4, .inl va)) (hb : TxB tx) (st kd vl : Int) (i : Nat) (hi : i ≤ N) (hO : h.2.2 202 = TO N st ((i : Nat) : Int) kd vl) (hB : h.2.2 203 = .inl (1, 600, .inl tb)) (x : Nat) (hx : x < 30) (hv1 : va 1 = ((x : Nat) : Int)) : PrmP 7 46 [aR 201, aI 111, aI 2] h N dp ex ek eo (fun d => va_up va 2 d) (fun q : Nat => ((q : Nat) : Int)) (othA tx N i x w) := by
  have P1 := v_37_o hN hT dp ex ek eo hS hR hI hV hb st kd vl i hi hO hB x hx hv1
  rcases hA : othA tx N i x w with e | ⟨q, j⟩
  · rw [hA] at P1
    obtain ⟨h1, d1, s1, t1, n1⟩ := P1
    refine ⟨h1, Ct.of [aR 201, aI 111, aI 2] rfl ?_, s1, t1, ⟨va, (n1.1 222 (by decide) (by decide)).trans hV⟩, n1.nv⟩
    refine r_ild cd_46_0 rfl rfl ?_
    refine r_con (v := 100) cd_46_1 rfl (by decide) ?_
    refine r_ic62 cd_46_3 rfl ⟨by omega, by omega⟩ ⟨by omega, by omega⟩ (fun n21 => ?_) (fun n21 => ?_)
    · exact absurd n21 (by decide)
    · refine r_aldR cd_46_12 rfl rfl ?_
      refine r_ild cd_46_13 rfl rfl ?_
      refine r_cI d1 cd_46_14 rfl rfl rfl (rc0 hS rfl) rfl rfl rfl ?_
      refine r_if52 cd_46_17 rfl ⟨by omega, by omega⟩ (fun n22 => ?_) (fun n22 => ?_)
      · refine r_con (v := 0) cd_46_20 rfl (by decide) ?_
        exact r_ret cd_46_21 (Or.inl rfl) (rfl)
      · exact absurd n22 (by decide)
  · rw [hA] at P1
    obtain ⟨h1, d1, s1, ⟨st1, kd1, t1⟩, n1⟩ := P1
    have v1 := (n1.1 222 (by decide) (by decide)).trans hV
    refine ⟨sw h1 222 (.inl (0, 4, .inl (va_up va 2 ((q : Nat) : Int)))), Ct.of [aR 201, aI 111, aI 2] rfl ?_, (sw_ne (by decide)).trans s1, ⟨_, _, _, (sw_ne (by decide)).trans t1⟩, sw_at _ _ _, n1.nv.v⟩
    refine r_ild cd_46_0 rfl rfl ?_
    refine r_con (v := 100) cd_46_1 rfl (by decide) ?_
    refine r_ic62 cd_46_3 rfl ⟨by omega, by omega⟩ ⟨by omega, by omega⟩ (fun n21 => ?_) (fun n21 => ?_)
    · exact absurd n21 (by decide)
    · refine r_aldR cd_46_12 rfl rfl ?_
      refine r_ild cd_46_13 rfl rfl ?_
      refine r_cI d1 cd_46_14 rfl rfl rfl (rc0 hS rfl) rfl rfl rfl ?_
      refine r_if52 cd_46_17 rfl ⟨by omega, by omega⟩ (fun n22 => ?_) (fun n22 => ?_)
      · exact absurd n22 (by decide)
      · refine r_ild cd_46_22 rfl rfl ?_
        refine r_con (v := 103) cd_46_23 rfl (by decide) ?_
        refine r_ic62 cd_46_25 rfl ⟨by omega, by omega⟩ ⟨by omega, by omega⟩ (fun n23 => ?_) (fun n23 => ?_)
        · exact absurd n23 (by decide)
        · refine r_aldR cd_46_47 rfl rfl ?_
          refine r_get cd_46_48 rfl s1 rfl ?_
          refine r_ild cd_46_51 rfl rfl ?_
          refine r_aldR cd_46_52 rfl rfl ?_
          refine r_get cd_46_53 rfl s1 rfl ?_
          refine r_get cd_46_56 rfl t1 rfl ?_
          refine r_arsI (i := 2) cd_46_59 rfl rfl v1 rfl (by omega) rfl ?_
          refine r_con (v := 1) cd_46_60 rfl (by decide) ?_
          exact r_ret cd_46_61 (Or.inr rfl) (rfl)
theorem v_46_n3 {h : aH} {tx tb : Nat → Int} {N : Nat} (hN : N ≤ 600) (hT : ∀ k, k < N → BT (tx k) (tb k)) (dp ex ek eo : Int) (hS : h.2.2 201 = SO dp ex ek eo) {w : Nat → Int} (hR : Rp h 204 w) (hI : Inv0 w) {va : Nat → Int} (hV : h.2.2 222 = .inl (0, 4, .inl va)) (hb : TxB tx) (st kd vl : Int) (i : Nat) (hi : i ≤ N) (hO : h.2.2 202 = TO N st ((i : Nat) : Int) kd vl) (hB : h.2.2 203 = .inl (1, 600, .inl tb)) : PrmP 7 46 [aR 201, aI 110, aI 3] h N dp ex ek eo (fun d => va_up va 3 d) (fun q : Nat => ((q : Nat) : Int)) (numA tx N i 0 99) := by
  have P1 := v_37_n hN hT dp ex ek eo hS hR hI hV hb st kd vl i hi hO hB
  rcases hA : numA tx N i 0 99 with e | ⟨q, j⟩
  · rw [hA] at P1
    obtain ⟨h1, d1, s1, t1, n1⟩ := P1
    refine ⟨h1, Ct.of [aR 201, aI 110, aI 3] rfl ?_, s1, t1, ⟨va, (n1.1 222 (by decide) (by decide)).trans hV⟩, n1.nv⟩
    refine r_ild cd_46_0 rfl rfl ?_
    refine r_con (v := 100) cd_46_1 rfl (by decide) ?_
    refine r_ic62 cd_46_3 rfl ⟨by omega, by omega⟩ ⟨by omega, by omega⟩ (fun n21 => ?_) (fun n21 => ?_)
    · exact absurd n21 (by decide)
    · refine r_aldR cd_46_12 rfl rfl ?_
      refine r_ild cd_46_13 rfl rfl ?_
      refine r_cI d1 cd_46_14 rfl rfl rfl (rc0 hS rfl) rfl rfl rfl ?_
      refine r_if52 cd_46_17 rfl ⟨by omega, by omega⟩ (fun n22 => ?_) (fun n22 => ?_)
      · refine r_con (v := 0) cd_46_20 rfl (by decide) ?_
        exact r_ret cd_46_21 (Or.inl rfl) (rfl)
      · exact absurd n22 (by decide)
  · rw [hA] at P1
    obtain ⟨h1, d1, s1, ⟨st1, kd1, t1⟩, n1⟩ := P1
    have v1 := (n1.1 222 (by decide) (by decide)).trans hV
    refine ⟨sw h1 222 (.inl (0, 4, .inl (va_up va 3 ((q : Nat) : Int)))), Ct.of [aR 201, aI 110, aI 3] rfl ?_, (sw_ne (by decide)).trans s1, ⟨_, _, _, (sw_ne (by decide)).trans t1⟩, sw_at _ _ _, n1.nv.v⟩
    refine r_ild cd_46_0 rfl rfl ?_
    refine r_con (v := 100) cd_46_1 rfl (by decide) ?_
    refine r_ic62 cd_46_3 rfl ⟨by omega, by omega⟩ ⟨by omega, by omega⟩ (fun n21 => ?_) (fun n21 => ?_)
    · exact absurd n21 (by decide)
    · refine r_aldR cd_46_12 rfl rfl ?_
      refine r_ild cd_46_13 rfl rfl ?_
      refine r_cI d1 cd_46_14 rfl rfl rfl (rc0 hS rfl) rfl rfl rfl ?_
      refine r_if52 cd_46_17 rfl ⟨by omega, by omega⟩ (fun n22 => ?_) (fun n22 => ?_)
      · exact absurd n22 (by decide)
      · refine r_ild cd_46_22 rfl rfl ?_
        refine r_con (v := 103) cd_46_23 rfl (by decide) ?_
        refine r_ic62 cd_46_25 rfl ⟨by omega, by omega⟩ ⟨by omega, by omega⟩ (fun n23 => ?_) (fun n23 => ?_)
        · exact absurd n23 (by decide)
        · refine r_aldR cd_46_47 rfl rfl ?_
          refine r_get cd_46_48 rfl s1 rfl ?_
          refine r_ild cd_46_51 rfl rfl ?_
          refine r_aldR cd_46_52 rfl rfl ?_
          refine r_get cd_46_53 rfl s1 rfl ?_
          refine r_get cd_46_56 rfl t1 rfl ?_
          refine r_arsI (i := 3) cd_46_59 rfl rfl v1 rfl (by omega) rfl ?_
          refine r_con (v := 1) cd_46_60 rfl (by decide) ?_
          exact r_ret cd_46_61 (Or.inr rfl) (rfl)
theorem v_46_c0 {h : aH} {tx tb : Nat → Int} {N : Nat} (hN : N ≤ 600) (hT : ∀ k, k < N → BT (tx k) (tb k)) (dp ex ek eo : Int) (hS : h.2.2 201 = SO dp ex ek eo) {w : Nat → Int} (hR : Rp h 204 w) (hI : Inv0 w) {va : Nat → Int} (hV : h.2.2 222 = .inl (0, 4, .inl va)) (hb : TxB tx) (st kd vl : Int) (i : Nat) (hi : i ≤ N) (hO : h.2.2 202 = TO N st ((i : Nat) : Int) kd vl) (hB : h.2.2 203 = .inl (1, 600, .inl tb)) : PrmP 7 46 [aR 201, aI 99, aI 0] h N dp ex ek eo (fun d => va_up va 0 d) (fun q : Nat => ((q : Nat) : Int)) (numA tx N i 0 (w 6 - 1)) := by
  have P1 := v_37_c hN hT dp ex ek eo hS hR hI hV hb st kd vl i hi hO hB
  rcases hA : numA tx N i 0 (w 6 - 1) with e | ⟨q, j⟩
  · rw [hA] at P1
    obtain ⟨h1, d1, s1, t1, n1⟩ := P1
    refine ⟨h1, Ct.of [aR 201, aI 99, aI 0] rfl ?_, s1, t1, ⟨va, (n1.1 222 (by decide) (by decide)).trans hV⟩, n1.nv⟩
    refine r_ild cd_46_0 rfl rfl ?_
    refine r_con (v := 100) cd_46_1 rfl (by decide) ?_
    refine r_ic62 cd_46_3 rfl ⟨by omega, by omega⟩ ⟨by omega, by omega⟩ (fun n21 => ?_) (fun n21 => ?_)
    · exact absurd n21 (by decide)
    · refine r_aldR cd_46_12 rfl rfl ?_
      refine r_ild cd_46_13 rfl rfl ?_
      refine r_cI d1 cd_46_14 rfl rfl rfl (rc0 hS rfl) rfl rfl rfl ?_
      refine r_if52 cd_46_17 rfl ⟨by omega, by omega⟩ (fun n22 => ?_) (fun n22 => ?_)
      · refine r_con (v := 0) cd_46_20 rfl (by decide) ?_
        exact r_ret cd_46_21 (Or.inl rfl) (rfl)
      · exact absurd n22 (by decide)
  · rw [hA] at P1
    obtain ⟨h1, d1, s1, ⟨st1, kd1, t1⟩, n1⟩ := P1
    have v1 := (n1.1 222 (by decide) (by decide)).trans hV
    refine ⟨sw h1 222 (.inl (0, 4, .inl (va_up va 0 ((q : Nat) : Int)))), Ct.of [aR 201, aI 99, aI 0] rfl ?_, (sw_ne (by decide)).trans s1, ⟨_, _, _, (sw_ne (by decide)).trans t1⟩, sw_at _ _ _, n1.nv.v⟩
    refine r_ild cd_46_0 rfl rfl ?_
    refine r_con (v := 100) cd_46_1 rfl (by decide) ?_
    refine r_ic62 cd_46_3 rfl ⟨by omega, by omega⟩ ⟨by omega, by omega⟩ (fun n21 => ?_) (fun n21 => ?_)
    · exact absurd n21 (by decide)
    · refine r_aldR cd_46_12 rfl rfl ?_
      refine r_ild cd_46_13 rfl rfl ?_
      refine r_cI d1 cd_46_14 rfl rfl rfl (rc0 hS rfl) rfl rfl rfl ?_
      refine r_if52 cd_46_17 rfl ⟨by omega, by omega⟩ (fun n22 => ?_) (fun n22 => ?_)
      · exact absurd n22 (by decide)
      · refine r_ild cd_46_22 rfl rfl ?_
        refine r_con (v := 103) cd_46_23 rfl (by decide) ?_
        refine r_ic62 cd_46_25 rfl ⟨by omega, by omega⟩ ⟨by omega, by omega⟩ (fun n23 => ?_) (fun n23 => ?_)
        · exact absurd n23 (by decide)
        · refine r_aldR cd_46_47 rfl rfl ?_
          refine r_get cd_46_48 rfl s1 rfl ?_
          refine r_ild cd_46_51 rfl rfl ?_
          refine r_aldR cd_46_52 rfl rfl ?_
          refine r_get cd_46_53 rfl s1 rfl ?_
          refine r_get cd_46_56 rfl t1 rfl ?_
          refine r_arsI (i := 0) cd_46_59 rfl rfl v1 rfl (by omega) rfl ?_
          refine r_con (v := 1) cd_46_60 rfl (by decide) ?_
          exact r_ret cd_46_61 (Or.inr rfl) (rfl)
theorem v_46_b1 {h : aH} {tx tb : Nat → Int} {N : Nat} (hN : N ≤ 600) (hT : ∀ k, k < N → BT (tx k) (tb k)) (dp ex ek eo : Int) (hS : h.2.2 201 = SO dp ex ek eo) {w : Nat → Int} (hR : Rp h 204 w) (hI : Inv0 w) {va : Nat → Int} (hV : h.2.2 222 = .inl (0, 4, .inl va)) (hb : TxB tx) (st kd vl : Int) (i : Nat) (hi : i ≤ N) (hO : h.2.2 202 = TO N st ((i : Nat) : Int) kd vl) (hB : h.2.2 203 = .inl (1, 600, .inl tb)) : PrmP 7 46 [aR 201, aI 98, aI 1] h N dp ex ek eo (fun d => va_up va 1 d) (fun q : Nat => ((q : Nat) : Int)) (numA tx N i 0 (w 5 - 1)) := by
  have P1 := v_37_b hN hT dp ex ek eo hS hR hI hV hb st kd vl i hi hO hB
  rcases hA : numA tx N i 0 (w 5 - 1) with e | ⟨q, j⟩
  · rw [hA] at P1
    obtain ⟨h1, d1, s1, t1, n1⟩ := P1
    refine ⟨h1, Ct.of [aR 201, aI 98, aI 1] rfl ?_, s1, t1, ⟨va, (n1.1 222 (by decide) (by decide)).trans hV⟩, n1.nv⟩
    refine r_ild cd_46_0 rfl rfl ?_
    refine r_con (v := 100) cd_46_1 rfl (by decide) ?_
    refine r_ic62 cd_46_3 rfl ⟨by omega, by omega⟩ ⟨by omega, by omega⟩ (fun n21 => ?_) (fun n21 => ?_)
    · exact absurd n21 (by decide)
    · refine r_aldR cd_46_12 rfl rfl ?_
      refine r_ild cd_46_13 rfl rfl ?_
      refine r_cI d1 cd_46_14 rfl rfl rfl (rc0 hS rfl) rfl rfl rfl ?_
      refine r_if52 cd_46_17 rfl ⟨by omega, by omega⟩ (fun n22 => ?_) (fun n22 => ?_)
      · refine r_con (v := 0) cd_46_20 rfl (by decide) ?_
        exact r_ret cd_46_21 (Or.inl rfl) (rfl)
      · exact absurd n22 (by decide)
  · rw [hA] at P1
    obtain ⟨h1, d1, s1, ⟨st1, kd1, t1⟩, n1⟩ := P1
    have v1 := (n1.1 222 (by decide) (by decide)).trans hV
    refine ⟨sw h1 222 (.inl (0, 4, .inl (va_up va 1 ((q : Nat) : Int)))), Ct.of [aR 201, aI 98, aI 1] rfl ?_, (sw_ne (by decide)).trans s1, ⟨_, _, _, (sw_ne (by decide)).trans t1⟩, sw_at _ _ _, n1.nv.v⟩
    refine r_ild cd_46_0 rfl rfl ?_
    refine r_con (v := 100) cd_46_1 rfl (by decide) ?_
    refine r_ic62 cd_46_3 rfl ⟨by omega, by omega⟩ ⟨by omega, by omega⟩ (fun n21 => ?_) (fun n21 => ?_)
    · exact absurd n21 (by decide)
    · refine r_aldR cd_46_12 rfl rfl ?_
      refine r_ild cd_46_13 rfl rfl ?_
      refine r_cI d1 cd_46_14 rfl rfl rfl (rc0 hS rfl) rfl rfl rfl ?_
      refine r_if52 cd_46_17 rfl ⟨by omega, by omega⟩ (fun n22 => ?_) (fun n22 => ?_)
      · exact absurd n22 (by decide)
      · refine r_ild cd_46_22 rfl rfl ?_
        refine r_con (v := 103) cd_46_23 rfl (by decide) ?_
        refine r_ic62 cd_46_25 rfl ⟨by omega, by omega⟩ ⟨by omega, by omega⟩ (fun n23 => ?_) (fun n23 => ?_)
        · exact absurd n23 (by decide)
        · refine r_aldR cd_46_47 rfl rfl ?_
          refine r_get cd_46_48 rfl s1 rfl ?_
          refine r_ild cd_46_51 rfl rfl ?_
          refine r_aldR cd_46_52 rfl rfl ?_
          refine r_get cd_46_53 rfl s1 rfl ?_
          refine r_get cd_46_56 rfl t1 rfl ?_
          refine r_arsI (i := 1) cd_46_59 rfl rfl v1 rfl (by omega) rfl ?_
          refine r_con (v := 1) cd_46_60 rfl (by decide) ?_
          exact r_ret cd_46_61 (Or.inr rfl) (rfl)
theorem v_46_b0 {h : aH} {tx tb : Nat → Int} {N : Nat} (hN : N ≤ 600) (hT : ∀ k, k < N → BT (tx k) (tb k)) (dp ex ek eo : Int) (hS : h.2.2 201 = SO dp ex ek eo) {w : Nat → Int} (hR : Rp h 204 w) (hI : Inv0 w) {va : Nat → Int} (hV : h.2.2 222 = .inl (0, 4, .inl va)) (hb : TxB tx) (st kd vl : Int) (i : Nat) (hi : i ≤ N) (hO : h.2.2 202 = TO N st ((i : Nat) : Int) kd vl) (hB : h.2.2 203 = .inl (1, 600, .inl tb)) : PrmP 7 46 [aR 201, aI 98, aI 0] h N dp ex ek eo (fun d => va_up va 0 d) (fun q : Nat => ((q : Nat) : Int)) (numA tx N i 0 (w 5 - 1)) := by
  have P1 := v_37_b hN hT dp ex ek eo hS hR hI hV hb st kd vl i hi hO hB
  rcases hA : numA tx N i 0 (w 5 - 1) with e | ⟨q, j⟩
  · rw [hA] at P1
    obtain ⟨h1, d1, s1, t1, n1⟩ := P1
    refine ⟨h1, Ct.of [aR 201, aI 98, aI 0] rfl ?_, s1, t1, ⟨va, (n1.1 222 (by decide) (by decide)).trans hV⟩, n1.nv⟩
    refine r_ild cd_46_0 rfl rfl ?_
    refine r_con (v := 100) cd_46_1 rfl (by decide) ?_
    refine r_ic62 cd_46_3 rfl ⟨by omega, by omega⟩ ⟨by omega, by omega⟩ (fun n21 => ?_) (fun n21 => ?_)
    · exact absurd n21 (by decide)
    · refine r_aldR cd_46_12 rfl rfl ?_
      refine r_ild cd_46_13 rfl rfl ?_
      refine r_cI d1 cd_46_14 rfl rfl rfl (rc0 hS rfl) rfl rfl rfl ?_
      refine r_if52 cd_46_17 rfl ⟨by omega, by omega⟩ (fun n22 => ?_) (fun n22 => ?_)
      · refine r_con (v := 0) cd_46_20 rfl (by decide) ?_
        exact r_ret cd_46_21 (Or.inl rfl) (rfl)
      · exact absurd n22 (by decide)
  · rw [hA] at P1
    obtain ⟨h1, d1, s1, ⟨st1, kd1, t1⟩, n1⟩ := P1
    have v1 := (n1.1 222 (by decide) (by decide)).trans hV
    refine ⟨sw h1 222 (.inl (0, 4, .inl (va_up va 0 ((q : Nat) : Int)))), Ct.of [aR 201, aI 98, aI 0] rfl ?_, (sw_ne (by decide)).trans s1, ⟨_, _, _, (sw_ne (by decide)).trans t1⟩, sw_at _ _ _, n1.nv.v⟩
    refine r_ild cd_46_0 rfl rfl ?_
    refine r_con (v := 100) cd_46_1 rfl (by decide) ?_
    refine r_ic62 cd_46_3 rfl ⟨by omega, by omega⟩ ⟨by omega, by omega⟩ (fun n21 => ?_) (fun n21 => ?_)
    · exact absurd n21 (by decide)
    · refine r_aldR cd_46_12 rfl rfl ?_
      refine r_ild cd_46_13 rfl rfl ?_
      refine r_cI d1 cd_46_14 rfl rfl rfl (rc0 hS rfl) rfl rfl rfl ?_
      refine r_if52 cd_46_17 rfl ⟨by omega, by omega⟩ (fun n22 => ?_) (fun n22 => ?_)
      · exact absurd n22 (by decide)
      · refine r_ild cd_46_22 rfl rfl ?_
        refine r_con (v := 103) cd_46_23 rfl (by decide) ?_
        refine r_ic62 cd_46_25 rfl ⟨by omega, by omega⟩ ⟨by omega, by omega⟩ (fun n23 => ?_) (fun n23 => ?_)
        · exact absurd n23 (by decide)
        · refine r_aldR cd_46_47 rfl rfl ?_
          refine r_get cd_46_48 rfl s1 rfl ?_
          refine r_ild cd_46_51 rfl rfl ?_
          refine r_aldR cd_46_52 rfl rfl ?_
          refine r_get cd_46_53 rfl s1 rfl ?_
          refine r_get cd_46_56 rfl t1 rfl ?_
          refine r_arsI (i := 0) cd_46_59 rfl rfl v1 rfl (by omega) rfl ?_
          refine r_con (v := 1) cd_46_60 rfl (by decide) ?_
          exact r_ret cd_46_61 (Or.inr rfl) (rfl)
theorem v_46_f1 {h : aH} {tx tb : Nat → Int} {N : Nat} (hN : N ≤ 600) (hT : ∀ k, k < N → BT (tx k) (tb k)) (dp ex ek eo : Int) (hS : h.2.2 201 = SO dp ex ek eo) {w : Nat → Int} (hR : Rp h 204 w) (hI : Inv0 w) {va : Nat → Int} (hV : h.2.2 222 = .inl (0, 4, .inl va)) (hb : TxB tx) (st kd vl : Int) (i : Nat) (hi : i ≤ N) (hO : h.2.2 202 = TO N st ((i : Nat) : Int) kd vl) (hB : h.2.2 203 = .inl (1, 600, .inl tb)) : PrmP 7 46 [aR 201, aI 102, aI 1] h N dp ex ek eo (fun d => va_up va 1 d) (fun q : Nat => ((q : Nat) : Int)) (numA tx N i 1 29) := by
  have P1 := v_37_f hN hT dp ex ek eo hS hR hI hV hb st kd vl i hi hO hB
  rcases hA : numA tx N i 1 29 with e | ⟨q, j⟩
  · rw [hA] at P1
    obtain ⟨h1, d1, s1, t1, n1⟩ := P1
    refine ⟨h1, Ct.of [aR 201, aI 102, aI 1] rfl ?_, s1, t1, ⟨va, (n1.1 222 (by decide) (by decide)).trans hV⟩, n1.nv⟩
    refine r_ild cd_46_0 rfl rfl ?_
    refine r_con (v := 100) cd_46_1 rfl (by decide) ?_
    refine r_ic62 cd_46_3 rfl ⟨by omega, by omega⟩ ⟨by omega, by omega⟩ (fun n21 => ?_) (fun n21 => ?_)
    · exact absurd n21 (by decide)
    · refine r_aldR cd_46_12 rfl rfl ?_
      refine r_ild cd_46_13 rfl rfl ?_
      refine r_cI d1 cd_46_14 rfl rfl rfl (rc0 hS rfl) rfl rfl rfl ?_
      refine r_if52 cd_46_17 rfl ⟨by omega, by omega⟩ (fun n22 => ?_) (fun n22 => ?_)
      · refine r_con (v := 0) cd_46_20 rfl (by decide) ?_
        exact r_ret cd_46_21 (Or.inl rfl) (rfl)
      · exact absurd n22 (by decide)
  · rw [hA] at P1
    obtain ⟨h1, d1, s1, ⟨st1, kd1, t1⟩, n1⟩ := P1
    have v1 := (n1.1 222 (by decide) (by decide)).trans hV
    refine ⟨sw h1 222 (.inl (0, 4, .inl (va_up va 1 ((q : Nat) : Int)))), Ct.of [aR 201, aI 102, aI 1] rfl ?_, (sw_ne (by decide)).trans s1, ⟨_, _, _, (sw_ne (by decide)).trans t1⟩, sw_at _ _ _, n1.nv.v⟩
    refine r_ild cd_46_0 rfl rfl ?_
    refine r_con (v := 100) cd_46_1 rfl (by decide) ?_
    refine r_ic62 cd_46_3 rfl ⟨by omega, by omega⟩ ⟨by omega, by omega⟩ (fun n21 => ?_) (fun n21 => ?_)
    · exact absurd n21 (by decide)
    · refine r_aldR cd_46_12 rfl rfl ?_
      refine r_ild cd_46_13 rfl rfl ?_
      refine r_cI d1 cd_46_14 rfl rfl rfl (rc0 hS rfl) rfl rfl rfl ?_
      refine r_if52 cd_46_17 rfl ⟨by omega, by omega⟩ (fun n22 => ?_) (fun n22 => ?_)
      · exact absurd n22 (by decide)
      · refine r_ild cd_46_22 rfl rfl ?_
        refine r_con (v := 103) cd_46_23 rfl (by decide) ?_
        refine r_ic62 cd_46_25 rfl ⟨by omega, by omega⟩ ⟨by omega, by omega⟩ (fun n23 => ?_) (fun n23 => ?_)
        · exact absurd n23 (by decide)
        · refine r_aldR cd_46_47 rfl rfl ?_
          refine r_get cd_46_48 rfl s1 rfl ?_
          refine r_ild cd_46_51 rfl rfl ?_
          refine r_aldR cd_46_52 rfl rfl ?_
          refine r_get cd_46_53 rfl s1 rfl ?_
          refine r_get cd_46_56 rfl t1 rfl ?_
          refine r_arsI (i := 1) cd_46_59 rfl rfl v1 rfl (by omega) rfl ?_
          refine r_con (v := 1) cd_46_60 rfl (by decide) ?_
          exact r_ret cd_46_61 (Or.inr rfl) (rfl)
theorem v_46_a0 {h : aH} {tx tb : Nat → Int} {N : Nat} (hN : N ≤ 600) (hT : ∀ k, k < N → BT (tx k) (tb k)) (dp ex ek eo : Int) (hS : h.2.2 201 = SO dp ex ek eo) {w : Nat → Int} (hR : Rp h 204 w) (hI : Inv0 w) {va : Nat → Int} (hV : h.2.2 222 = .inl (0, 4, .inl va)) (hb : TxB tx) (st kd vl : Int) (i : Nat) (hi : i ≤ N) (hO : h.2.2 202 = TO N st ((i : Nat) : Int) kd vl) (hB : h.2.2 203 = .inl (1, 600, .inl tb)) : PrmP 7 46 [aR 201, aI 97, aI 0] h N dp ex ek eo (fun d => va_up va 0 d) (fun q : Nat => ((q : Nat) : Int)) (numA tx N i 1 200) := by
  have P1 := v_37_a hN hT dp ex ek eo hS hR hI hV hb st kd vl i hi hO hB
  rcases hA : numA tx N i 1 200 with e | ⟨q, j⟩
  · rw [hA] at P1
    obtain ⟨h1, d1, s1, t1, n1⟩ := P1
    refine ⟨h1, Ct.of [aR 201, aI 97, aI 0] rfl ?_, s1, t1, ⟨va, (n1.1 222 (by decide) (by decide)).trans hV⟩, n1.nv⟩
    refine r_ild cd_46_0 rfl rfl ?_
    refine r_con (v := 100) cd_46_1 rfl (by decide) ?_
    refine r_ic62 cd_46_3 rfl ⟨by omega, by omega⟩ ⟨by omega, by omega⟩ (fun n21 => ?_) (fun n21 => ?_)
    · exact absurd n21 (by decide)
    · refine r_aldR cd_46_12 rfl rfl ?_
      refine r_ild cd_46_13 rfl rfl ?_
      refine r_cI d1 cd_46_14 rfl rfl rfl (rc0 hS rfl) rfl rfl rfl ?_
      refine r_if52 cd_46_17 rfl ⟨by omega, by omega⟩ (fun n22 => ?_) (fun n22 => ?_)
      · refine r_con (v := 0) cd_46_20 rfl (by decide) ?_
        exact r_ret cd_46_21 (Or.inl rfl) (rfl)
      · exact absurd n22 (by decide)
  · rw [hA] at P1
    obtain ⟨h1, d1, s1, ⟨st1, kd1, t1⟩, n1⟩ := P1
    have v1 := (n1.1 222 (by decide) (by decide)).trans hV
    refine ⟨sw h1 222 (.inl (0, 4, .inl (va_up va 0 ((q : Nat) : Int)))), Ct.of [aR 201, aI 97, aI 0] rfl ?_, (sw_ne (by decide)).trans s1, ⟨_, _, _, (sw_ne (by decide)).trans t1⟩, sw_at _ _ _, n1.nv.v⟩
    refine r_ild cd_46_0 rfl rfl ?_
    refine r_con (v := 100) cd_46_1 rfl (by decide) ?_
    refine r_ic62 cd_46_3 rfl ⟨by omega, by omega⟩ ⟨by omega, by omega⟩ (fun n21 => ?_) (fun n21 => ?_)
    · exact absurd n21 (by decide)
    · refine r_aldR cd_46_12 rfl rfl ?_
      refine r_ild cd_46_13 rfl rfl ?_
      refine r_cI d1 cd_46_14 rfl rfl rfl (rc0 hS rfl) rfl rfl rfl ?_
      refine r_if52 cd_46_17 rfl ⟨by omega, by omega⟩ (fun n22 => ?_) (fun n22 => ?_)
      · exact absurd n22 (by decide)
      · refine r_ild cd_46_22 rfl rfl ?_
        refine r_con (v := 103) cd_46_23 rfl (by decide) ?_
        refine r_ic62 cd_46_25 rfl ⟨by omega, by omega⟩ ⟨by omega, by omega⟩ (fun n23 => ?_) (fun n23 => ?_)
        · exact absurd n23 (by decide)
        · refine r_aldR cd_46_47 rfl rfl ?_
          refine r_get cd_46_48 rfl s1 rfl ?_
          refine r_ild cd_46_51 rfl rfl ?_
          refine r_aldR cd_46_52 rfl rfl ?_
          refine r_get cd_46_53 rfl s1 rfl ?_
          refine r_get cd_46_56 rfl t1 rfl ?_
          refine r_arsI (i := 0) cd_46_59 rfl rfl v1 rfl (by omega) rfl ?_
          refine r_con (v := 1) cd_46_60 rfl (by decide) ?_
          exact r_ret cd_46_61 (Or.inr rfl) (rfl)
theorem v_46_k1 {h : aH} {tx tb : Nat → Int} {N : Nat} (hN : N ≤ 600) (hT : ∀ k, k < N → BT (tx k) (tb k)) (dp ex ek eo : Int) (hS : h.2.2 201 = SO dp ex ek eo) {w : Nat → Int} (hR : Rp h 204 w) (hI : Inv0 w) {va : Nat → Int} (hV : h.2.2 222 = .inl (0, 4, .inl va)) (hb : TxB tx) (st kd vl : Int) (i : Nat) (hi : i ≤ N) (hO : h.2.2 202 = TO N st ((i : Nat) : Int) kd vl) (hB : h.2.2 203 = .inl (1, 600, .inl tb)) (x : Nat) (hx : x < 30) (hv0 : va 0 = ((x : Nat) : Int)) : PrmP 7 46 [aR 201, aI 107, aI 1] h N dp ex ek eo (fun d => va_up va 1 d) (fun q : Nat => ((q : Nat) : Int)) (clmA tx N i x w) := by
  have P1 := v_37_k hN hT dp ex ek eo hS hR hI hV hb st kd vl i hi hO hB x hx hv0
  rcases hA : clmA tx N i x w with e | ⟨q, j⟩
  · rw [hA] at P1
    obtain ⟨h1, d1, s1, t1, n1⟩ := P1
    refine ⟨h1, Ct.of [aR 201, aI 107, aI 1] rfl ?_, s1, t1, ⟨va, (n1.1 222 (by decide) (by decide)).trans hV⟩, n1.nv⟩
    refine r_ild cd_46_0 rfl rfl ?_
    refine r_con (v := 100) cd_46_1 rfl (by decide) ?_
    refine r_ic62 cd_46_3 rfl ⟨by omega, by omega⟩ ⟨by omega, by omega⟩ (fun n21 => ?_) (fun n21 => ?_)
    · exact absurd n21 (by decide)
    · refine r_aldR cd_46_12 rfl rfl ?_
      refine r_ild cd_46_13 rfl rfl ?_
      refine r_cI d1 cd_46_14 rfl rfl rfl (rc0 hS rfl) rfl rfl rfl ?_
      refine r_if52 cd_46_17 rfl ⟨by omega, by omega⟩ (fun n22 => ?_) (fun n22 => ?_)
      · refine r_con (v := 0) cd_46_20 rfl (by decide) ?_
        exact r_ret cd_46_21 (Or.inl rfl) (rfl)
      · exact absurd n22 (by decide)
  · rw [hA] at P1
    obtain ⟨h1, d1, s1, ⟨st1, kd1, t1⟩, n1⟩ := P1
    have v1 := (n1.1 222 (by decide) (by decide)).trans hV
    refine ⟨sw h1 222 (.inl (0, 4, .inl (va_up va 1 ((q : Nat) : Int)))), Ct.of [aR 201, aI 107, aI 1] rfl ?_, (sw_ne (by decide)).trans s1, ⟨_, _, _, (sw_ne (by decide)).trans t1⟩, sw_at _ _ _, n1.nv.v⟩
    refine r_ild cd_46_0 rfl rfl ?_
    refine r_con (v := 100) cd_46_1 rfl (by decide) ?_
    refine r_ic62 cd_46_3 rfl ⟨by omega, by omega⟩ ⟨by omega, by omega⟩ (fun n21 => ?_) (fun n21 => ?_)
    · exact absurd n21 (by decide)
    · refine r_aldR cd_46_12 rfl rfl ?_
      refine r_ild cd_46_13 rfl rfl ?_
      refine r_cI d1 cd_46_14 rfl rfl rfl (rc0 hS rfl) rfl rfl rfl ?_
      refine r_if52 cd_46_17 rfl ⟨by omega, by omega⟩ (fun n22 => ?_) (fun n22 => ?_)
      · exact absurd n22 (by decide)
      · refine r_ild cd_46_22 rfl rfl ?_
        refine r_con (v := 103) cd_46_23 rfl (by decide) ?_
        refine r_ic62 cd_46_25 rfl ⟨by omega, by omega⟩ ⟨by omega, by omega⟩ (fun n23 => ?_) (fun n23 => ?_)
        · exact absurd n23 (by decide)
        · refine r_aldR cd_46_47 rfl rfl ?_
          refine r_get cd_46_48 rfl s1 rfl ?_
          refine r_ild cd_46_51 rfl rfl ?_
          refine r_aldR cd_46_52 rfl rfl ?_
          refine r_get cd_46_53 rfl s1 rfl ?_
          refine r_get cd_46_56 rfl t1 rfl ?_
          refine r_arsI (i := 1) cd_46_59 rfl rfl v1 rfl (by omega) rfl ?_
          refine r_con (v := 1) cd_46_60 rfl (by decide) ?_
          exact r_ret cd_46_61 (Or.inr rfl) (rfl)
theorem v_46_t0 {h : aH} {tx tb : Nat → Int} {N : Nat} (hN : N ≤ 600) (hT : ∀ k, k < N → BT (tx k) (tb k)) (dp ex ek eo : Int) (hS : h.2.2 201 = SO dp ex ek eo) {w : Nat → Int} (hR : Rp h 204 w) (hI : Inv0 w) {va : Nat → Int} (hV : h.2.2 222 = .inl (0, 4, .inl va)) (hb : TxB tx) (st kd vl : Int) (i : Nat) (hi : i ≤ N) (hO : h.2.2 202 = TO N st ((i : Nat) : Int) kd vl) (hB : h.2.2 203 = .inl (1, 600, .inl tb)) : PrmP 7 46 [aR 201, aI 116, aI 0] h N dp ex ek eo (fun d => va_up va 0 d) (fun q : Nat => ((q : Nat) : Int)) (numA tx N i 1 24) := by
  have P1 := v_37_t hN hT dp ex ek eo hS hR hI hV hb st kd vl i hi hO hB
  rcases hA : numA tx N i 1 24 with e | ⟨q, j⟩
  · rw [hA] at P1
    obtain ⟨h1, d1, s1, t1, n1⟩ := P1
    refine ⟨h1, Ct.of [aR 201, aI 116, aI 0] rfl ?_, s1, t1, ⟨va, (n1.1 222 (by decide) (by decide)).trans hV⟩, n1.nv⟩
    refine r_ild cd_46_0 rfl rfl ?_
    refine r_con (v := 100) cd_46_1 rfl (by decide) ?_
    refine r_ic62 cd_46_3 rfl ⟨by omega, by omega⟩ ⟨by omega, by omega⟩ (fun n21 => ?_) (fun n21 => ?_)
    · exact absurd n21 (by decide)
    · refine r_aldR cd_46_12 rfl rfl ?_
      refine r_ild cd_46_13 rfl rfl ?_
      refine r_cI d1 cd_46_14 rfl rfl rfl (rc0 hS rfl) rfl rfl rfl ?_
      refine r_if52 cd_46_17 rfl ⟨by omega, by omega⟩ (fun n22 => ?_) (fun n22 => ?_)
      · refine r_con (v := 0) cd_46_20 rfl (by decide) ?_
        exact r_ret cd_46_21 (Or.inl rfl) (rfl)
      · exact absurd n22 (by decide)
  · rw [hA] at P1
    obtain ⟨h1, d1, s1, ⟨st1, kd1, t1⟩, n1⟩ := P1
    have v1 := (n1.1 222 (by decide) (by decide)).trans hV
    refine ⟨sw h1 222 (.inl (0, 4, .inl (va_up va 0 ((q : Nat) : Int)))), Ct.of [aR 201, aI 116, aI 0] rfl ?_, (sw_ne (by decide)).trans s1, ⟨_, _, _, (sw_ne (by decide)).trans t1⟩, sw_at _ _ _, n1.nv.v⟩
    refine r_ild cd_46_0 rfl rfl ?_
    refine r_con (v := 100) cd_46_1 rfl (by decide) ?_
    refine r_ic62 cd_46_3 rfl ⟨by omega, by omega⟩ ⟨by omega, by omega⟩ (fun n21 => ?_) (fun n21 => ?_)
    · exact absurd n21 (by decide)
    · refine r_aldR cd_46_12 rfl rfl ?_
      refine r_ild cd_46_13 rfl rfl ?_
      refine r_cI d1 cd_46_14 rfl rfl rfl (rc0 hS rfl) rfl rfl rfl ?_
      refine r_if52 cd_46_17 rfl ⟨by omega, by omega⟩ (fun n22 => ?_) (fun n22 => ?_)
      · exact absurd n22 (by decide)
      · refine r_ild cd_46_22 rfl rfl ?_
        refine r_con (v := 103) cd_46_23 rfl (by decide) ?_
        refine r_ic62 cd_46_25 rfl ⟨by omega, by omega⟩ ⟨by omega, by omega⟩ (fun n23 => ?_) (fun n23 => ?_)
        · exact absurd n23 (by decide)
        · refine r_aldR cd_46_47 rfl rfl ?_
          refine r_get cd_46_48 rfl s1 rfl ?_
          refine r_ild cd_46_51 rfl rfl ?_
          refine r_aldR cd_46_52 rfl rfl ?_
          refine r_get cd_46_53 rfl s1 rfl ?_
          refine r_get cd_46_56 rfl t1 rfl ?_
          refine r_arsI (i := 0) cd_46_59 rfl rfl v1 rfl (by omega) rfl ?_
          refine r_con (v := 1) cd_46_60 rfl (by decide) ?_
          exact r_ret cd_46_61 (Or.inr rfl) (rfl)
theorem v_46_d0 {h : aH} {tx tb : Nat → Int} {N : Nat} (hN : N ≤ 600) (hT : ∀ k, k < N → BT (tx k) (tb k)) (dp ex ek eo : Int) (hS : h.2.2 201 = SO dp ex ek eo) {va : Nat → Int} (hV : h.2.2 222 = .inl (0, 4, .inl va)) (st kd vl : Int) (i : Nat) (hi : i ≤ N) (hO : h.2.2 202 = TO N st ((i : Nat) : Int) kd vl) (hB : h.2.2 203 = .inl (1, 600, .inl tb)) : PrmP 7 46 [aR 201, aI 100, aI 0] h N dp ex ek eo (fun d => va_up va 0 d) (fun d : Int => d) (dirA tx N i) := by
  have P1 := v_47 hN hT dp ex ek eo hS hV st kd vl i hi hO hB
  rcases hA : dirA tx N i with e | ⟨d, j⟩
  · rw [hA] at P1
    obtain ⟨h1, d1, r1⟩ := P1
    refine ⟨h1, Ct.of [aR 201, aI 100, aI 0] rfl ?_, r1⟩
    refine r_ild cd_46_0 rfl rfl ?_
    refine r_con (v := 100) cd_46_1 rfl (by decide) ?_
    refine r_ic62 cd_46_3 rfl ⟨by omega, by omega⟩ ⟨by omega, by omega⟩ (fun n21 => ?_) (fun n21 => ?_)
    · refine r_aldR cd_46_6 rfl rfl ?_
      refine r_ild cd_46_7 rfl rfl ?_
      refine r_cI d1 cd_46_8 rfl rfl rfl (rc0 hS rfl) rfl rfl rfl ?_
      exact r_ret cd_46_11 (Or.inl rfl) (rfl)
    · exact absurd rfl n21
  · rw [hA] at P1
    obtain ⟨h1, d1, r1⟩ := P1
    refine ⟨h1, Ct.of [aR 201, aI 100, aI 0] rfl ?_, r1⟩
    refine r_ild cd_46_0 rfl rfl ?_
    refine r_con (v := 100) cd_46_1 rfl (by decide) ?_
    refine r_ic62 cd_46_3 rfl ⟨by omega, by omega⟩ ⟨by omega, by omega⟩ (fun n21 => ?_) (fun n21 => ?_)
    · refine r_aldR cd_46_6 rfl rfl ?_
      refine r_ild cd_46_7 rfl rfl ?_
      refine r_cI d1 cd_46_8 rfl rfl rfl (rc0 hS rfl) rfl rfl rfl ?_
      exact r_ret cd_46_11 (Or.inr rfl) (rfl)
    · exact absurd rfl n21
