/-! THE CLASS: one step of a script (written by wip/whole/gen67.py) -/
/-- the cells but the script's own are as before; its text too -/
def NX (h h' : aH) : Prop := (∀ a, a < 201 ∨ a = 203 ∨ 225 ≤ a → h'.2.2 a = h.2.2 a) ∧ h'.1 = h.1 ∧ h'.2.1 = h.2.1
theorem NX.rf {h : aH} : NX h h := ⟨fun _ _ => rfl, rfl, rfl⟩
theorem NX.tr {h h1 h2 : aH} (a : NX h h1) (b : NX h1 h2) : NX h h2 := ⟨fun q x => (b.1 q x).trans (a.1 q x), b.2.1.trans a.2.1, b.2.2.trans a.2.2⟩
theorem NO.nx {h h' : aH} (a : NO h h') : NX h h' := ⟨fun q x => a.1 q (by omega) (by omega), a.2⟩
theorem NC.nx {h h' : aH} (a : NC h h') : NX h h' := ⟨fun q x => a.1 q (by omega), a.2⟩
theorem NR.nx {h h' : aH} (a : NR h h') : NX h h' := ⟨fun q x => a.1 q (by omega) (by omega) (by omega) (by omega), a.2⟩
/-- a script under way: the next token begins behind i, w is its World, ex commands are carried out, d repeats are open -/
def XS (h : aH) (tb : Nat → Int) (N i : Nat) (w : Nat → Int) (ex d : Nat) (rd bd : Nat → Int) : Prop := h.2.2 201 = SO ((d : Nat) : Int) ((ex : Nat) : Int) 0 (-1) ∧ (∃ st kd vl, h.2.2 202 = TO N st ((i : Nat) : Int) kd vl) ∧ h.2.2 203 = .inl (1, 600, .inl tb) ∧ Rp h 204 w ∧ (∃ va, h.2.2 222 = .inl (0, 4, .inl va)) ∧ h.2.2 223 = .inl (0, 2, .inl bd) ∧ h.2.2 224 = .inl (0, 2, .inl rd)
/-- how a script ends -/
def Fin (N : Nat) (r : Rs) (h h' : aH) : Prop := (match r with
  | .inl e => ∃ dp ex, h'.2.2 201 = SO dp ex e.1 e.2
  | .inr a => (∃ dp ex, h'.2.2 201 = SO dp ex 0 (-1)) ∧ Rp h' 204 a.2.1) ∧ (∃ st nx kd vl, h'.2.2 202 = TO N st nx kd vl) ∧ Ex h' 204 ∧ (∃ va, h'.2.2 222 = .inl (0, 4, .inl va)) ∧ (∃ bd, h'.2.2 223 = .inl (0, 2, .inl bd)) ∧ (∃ rd, h'.2.2 224 = .inl (0, 2, .inl rd)) ∧ NX h h'
def JP (v : Int) (n : Nat) (h h1 : aH) : Prop := ∀ res, RU 9 34 res (129, [aR 201, aI v, aI ((n : Nat) : Int)], [], 0, 0, h1) → RU 9 34 res (35, [aR 201, aI 1, aI ((n : Nat) : Int)], [], 0, 0, h)
theorem st_end {h : aH} {tx tb : Nat → Int} {N : Nat} (hN : N ≤ 600) (hT : ∀ k, k < N → BT (tx k) (tb k)) (hb : TxB tx) {i ex : Nat} {w rd bd : Nat → Int} {n : Nat} (hX : XS h tb N i w ex 0 rd bd) (hi : i ≤ N) (hn : n < 1000000) (hk5 : tKnd tx N i = 0) : ∃ h1, JP 0 n h h1 ∧ Fin N (.inr (i, w, ex)) h h1 := by
  obtain ⟨hS, ⟨st, kd, vl, hO⟩, hB, hR, ⟨va, hV⟩, hD, hQ⟩ := hX
  obtain ⟨vl', c1, -⟩ := v_64 hN hT st kd vl i hi hO hB
  have hkb := kM_b (k := tKnd tx N i)
  have k0 : kM (tKnd tx N i) = 0 ↔ tKnd tx N i = 0 := kM_i (r := 0) (by decide) (by decide)
  have k4 : kM (tKnd tx N i) = 4 ↔ tKnd tx N i = 5 := kM_i (r := 5) (by decide) (by decide)
  have he := (tPos (tx := tx) hi).2
  have s1 : (sw h 202 (TO N ((tOff tx N i : Nat) : Int) ((tEnd tx N i : Nat) : Int) (kM (tKnd tx N i)) vl')).2.2 201 = _ := (sw_ne (by decide)).trans hS
  have o1 : (sw h 202 (TO N ((tOff tx N i : Nat) : Int) ((tEnd tx N i : Nat) : Int) (kM (tKnd tx N i)) vl')).2.2 202 = _ := sw_at _ _ _
  have b1 : (sw h 202 (TO N ((tOff tx N i : Nat) : Int) ((tEnd tx N i : Nat) : Int) (kM (tKnd tx N i)) vl')).2.2 203 = _ := (sw_ne (by decide)).trans hB
  have d1 : (sw h 202 (TO N ((tOff tx N i : Nat) : Int) ((tEnd tx N i : Nat) : Int) (kM (tKnd tx N i)) vl')).2.2 223 = _ := (sw_ne (by decide)).trans hD
  have q1 : (sw h 202 (TO N ((tOff tx N i : Nat) : Int) ((tEnd tx N i : Nat) : Int) (kM (tKnd tx N i)) vl')).2.2 224 = _ := (sw_ne (by decide)).trans hQ
  have v1 : (sw h 202 (TO N ((tOff tx N i : Nat) : Int) ((tEnd tx N i : Nat) : Int) (kM (tKnd tx N i)) vl')).2.2 222 = _ := (sw_ne (by decide)).trans hV
  have R1 : Rp (sw h 202 (TO N ((tOff tx N i : Nat) : Int) ((tEnd tx N i : Nat) : Int) (kM (tKnd tx N i)) vl')) 204 w := (NO.rf.t).rp hR
  have N1 : NO h (sw h 202 (TO N ((tOff tx N i : Nat) : Int) ((tEnd tx N i : Nat) : Int) (kM (tKnd tx N i)) vl')) := NO.rf.t
  refine ⟨(sw h 202 (TO N ((tOff tx N i : Nat) : Int) ((tEnd tx N i : Nat) : Int) (kM (tKnd tx N i)) vl')), fun res hk => ?_, ⟨⟨⟨_, _, s1⟩, R1⟩, ⟨_, _, _, _, o1⟩, R1.ex, ⟨_, v1⟩, ⟨_, d1⟩, ⟨_, q1⟩, N1.nx⟩⟩
  refine r_ild cd_34_35 rfl rfl ?_
  refine r_if51 cd_34_36 rfl ⟨by omega, by omega⟩ (fun n1 => ?_) (fun n1 => ?_)
  · exact absurd n1 (by decide)
  · refine r_ild cd_34_39 rfl rfl ?_
    refine r_con (v := 1000000) cd_34_40 rfl (by decide) ?_
    refine r_ic64 cd_34_42 rfl ⟨by omega, by omega⟩ ⟨by omega, by omega⟩ (fun n2 => ?_) (fun n2 => ?_)
    · refine r_aldR cd_34_45 rfl rfl ?_
      refine r_get cd_34_46 rfl hS rfl ?_
      refine r_cV c1 cd_34_49 rfl rfl rfl (rc0 hO rfl) rfl rfl rfl ?_
      refine r_aldR cd_34_52 rfl rfl ?_
      refine r_get cd_34_53 rfl ((sw_ne (by decide)).trans hS) rfl ?_
      refine r_get cd_34_56 rfl (sw_at _ _ _) rfl ?_
      refine r_if52 cd_34_59 rfl ⟨by omega, by omega⟩ (fun n3 => ?_) (fun n3 => ?_)
      · refine r_aldR cd_34_62 rfl rfl ?_
        refine r_get cd_34_63 rfl ((sw_ne (by decide)).trans hS) rfl ?_
        refine r_if52 cd_34_66 rfl ⟨by omega, by omega⟩ (fun n4 => ?_) (fun n4 => ?_)
        · refine r_con (v := 0) cd_34_69 rfl (by decide) ?_
          refine r_ist cd_34_70 rfl rfl (L' := [aR 201, aI 0, aI ((n : Nat) : Int)]) rfl ?_
          refine r_goto cd_34_71 ?_
          exact hk
        · exact absurd n4 (by decide)
      · exact absurd (k0.mpr hk5) n3
    · exact absurd n2 (by omega)
theorem st_close_0a {h : aH} {tx tb : Nat → Int} {N : Nat} (hN : N ≤ 600) (hT : ∀ k, k < N → BT (tx k) (tb k)) (hb : TxB tx) {i ex : Nat} {w rd bd : Nat → Int} {n : Nat} (hX : XS h tb N i w ex 1 rd bd) (hi : i ≤ N) (hn : n < 1000000) (hk5 : tKnd tx N i = 5) (t : Nat) (hr : rd 0 = ((t + 1 : Nat) : Int)) (ht : t < 20) (h0 : 0 < t) (ib : Nat) (hbd : bd 0 = ((ib : Nat) : Int)) : ∃ h1, JP 1 n h h1 ∧ XS h1 tb N ib w ex 1 (va_up rd 0 ((t : Nat) : Int)) bd ∧ NX h h1 := by
  obtain ⟨hS, ⟨st, kd, vl, hO⟩, hB, hR, ⟨va, hV⟩, hD, hQ⟩ := hX
  obtain ⟨vl', c1, -⟩ := v_64 hN hT st kd vl i hi hO hB
  have hkb := kM_b (k := tKnd tx N i)
  have k0 : kM (tKnd tx N i) = 0 ↔ tKnd tx N i = 0 := kM_i (r := 0) (by decide) (by decide)
  have k4 : kM (tKnd tx N i) = 4 ↔ tKnd tx N i = 5 := kM_i (r := 5) (by decide) (by decide)
  have he := (tPos (tx := tx) hi).2
  have s1 : (sw h 202 (TO N ((tOff tx N i : Nat) : Int) ((tEnd tx N i : Nat) : Int) (kM (tKnd tx N i)) vl')).2.2 201 = _ := (sw_ne (by decide)).trans hS
  have o1 : (sw h 202 (TO N ((tOff tx N i : Nat) : Int) ((tEnd tx N i : Nat) : Int) (kM (tKnd tx N i)) vl')).2.2 202 = _ := sw_at _ _ _
  have b1 : (sw h 202 (TO N ((tOff tx N i : Nat) : Int) ((tEnd tx N i : Nat) : Int) (kM (tKnd tx N i)) vl')).2.2 203 = _ := (sw_ne (by decide)).trans hB
  have d1 : (sw h 202 (TO N ((tOff tx N i : Nat) : Int) ((tEnd tx N i : Nat) : Int) (kM (tKnd tx N i)) vl')).2.2 223 = _ := (sw_ne (by decide)).trans hD
  have q1 : (sw h 202 (TO N ((tOff tx N i : Nat) : Int) ((tEnd tx N i : Nat) : Int) (kM (tKnd tx N i)) vl')).2.2 224 = _ := (sw_ne (by decide)).trans hQ
  have v1 : (sw h 202 (TO N ((tOff tx N i : Nat) : Int) ((tEnd tx N i : Nat) : Int) (kM (tKnd tx N i)) vl')).2.2 222 = _ := (sw_ne (by decide)).trans hV
  have R1 : Rp (sw h 202 (TO N ((tOff tx N i : Nat) : Int) ((tEnd tx N i : Nat) : Int) (kM (tKnd tx N i)) vl')) 204 w := (NO.rf.t).rp hR
  have N1 : NO h (sw h 202 (TO N ((tOff tx N i : Nat) : Int) ((tEnd tx N i : Nat) : Int) (kM (tKnd tx N i)) vl')) := NO.rf.t
  have ce := v_42_0a (h := (sw h 202 (TO N ((tOff tx N i : Nat) : Int) ((tEnd tx N i : Nat) : Int) (kM (tKnd tx N i)) vl'))) hN hT ((ex : Nat) : Int) 0 (-1) s1 d1 q1 ((tOff tx N i : Nat) : Int) (kM (tKnd tx N i)) vl' (tEnd tx N i) he o1 b1 t hr ht h0
  rw [hbd] at ce
  have NG : NR h (sw (sw (sw h 202 (TO N ((tOff tx N i : Nat) : Int) ((tEnd tx N i : Nat) : Int) (kM (tKnd tx N i)) vl')) 224 (.inl (0, 2, .inl (va_up rd 0 ((t : Nat) : Int))))) 202 (TO N ((tOff tx N i : Nat) : Int) ((ib : Nat) : Int) (kM (tKnd tx N i)) vl')) := N1.nr.r.t
  refine ⟨(sw (sw (sw h 202 (TO N ((tOff tx N i : Nat) : Int) ((tEnd tx N i : Nat) : Int) (kM (tKnd tx N i)) vl')) 224 (.inl (0, 2, .inl (va_up rd 0 ((t : Nat) : Int))))) 202 (TO N ((tOff tx N i : Nat) : Int) ((ib : Nat) : Int) (kM (tKnd tx N i)) vl')), fun res hk => ?_, ⟨(sw_ne (by decide)).trans ((sw_ne (by decide)).trans s1), ⟨_, _, _, sw_at _ _ _⟩, (sw_ne (by decide)).trans ((sw_ne (by decide)).trans b1), NG.rp hR, ⟨_, (sw_ne (by decide)).trans ((sw_ne (by decide)).trans v1)⟩, (sw_ne (by decide)).trans ((sw_ne (by decide)).trans d1), (sw_ne (by decide)).trans (sw_at _ _ _)⟩, NG.nx⟩
  refine r_ild cd_34_35 rfl rfl ?_
  refine r_if51 cd_34_36 rfl ⟨by omega, by omega⟩ (fun n1 => ?_) (fun n1 => ?_)
  · exact absurd n1 (by decide)
  · refine r_ild cd_34_39 rfl rfl ?_
    refine r_con (v := 1000000) cd_34_40 rfl (by decide) ?_
    refine r_ic64 cd_34_42 rfl ⟨by omega, by omega⟩ ⟨by omega, by omega⟩ (fun n2 => ?_) (fun n2 => ?_)
    · refine r_aldR cd_34_45 rfl rfl ?_
      refine r_get cd_34_46 rfl hS rfl ?_
      refine r_cV c1 cd_34_49 rfl rfl rfl (rc0 hO rfl) rfl rfl rfl ?_
      refine r_aldR cd_34_52 rfl rfl ?_
      refine r_get cd_34_53 rfl ((sw_ne (by decide)).trans hS) rfl ?_
      refine r_get cd_34_56 rfl (sw_at _ _ _) rfl ?_
      refine r_if52 cd_34_59 rfl ⟨by omega, by omega⟩ (fun n3 => ?_) (fun n3 => ?_)
      · exact absurd (k0.mp n3) (by omega)
      · refine r_aldR cd_34_74 rfl rfl ?_
        refine r_get cd_34_75 rfl ((sw_ne (by decide)).trans hS) rfl ?_
        refine r_get cd_34_78 rfl (sw_at _ _ _) rfl ?_
        refine r_con (v := 4) cd_34_81 rfl (by decide) ?_
        refine r_ic62 cd_34_82 rfl ⟨by omega, by omega⟩ ⟨by omega, by omega⟩ (fun n4 => ?_) (fun n4 => ?_)
        · refine r_aldR cd_34_85 rfl rfl ?_
          refine r_get cd_34_86 rfl ((sw_ne (by decide)).trans hS) rfl ?_
          refine r_if56 cd_34_89 rfl ⟨by omega, by omega⟩ (fun n5 => ?_) (fun n5 => ?_)
          · refine r_aldR cd_34_92 rfl rfl ?_
            refine r_cI ce cd_34_93 rfl rfl rfl (rc0 ((sw_ne (by decide)).trans hS) rfl) rfl rfl rfl ?_
            refine r_ist cd_34_96 rfl rfl (L' := [aR 201, aI 1, aI ((n : Nat) : Int)]) rfl ?_
            refine r_goto cd_34_97 ?_
            exact hk
          · exact absurd n5 (by decide)
        · exact absurd (k4.mpr hk5) n4
    · exact absurd n2 (by omega)
theorem st_close_0b {h : aH} {tx tb : Nat → Int} {N : Nat} (hN : N ≤ 600) (hT : ∀ k, k < N → BT (tx k) (tb k)) (hb : TxB tx) {i ex : Nat} {w rd bd : Nat → Int} {n : Nat} (hX : XS h tb N i w ex 1 rd bd) (hi : i ≤ N) (hn : n < 1000000) (hk5 : tKnd tx N i = 5) (t : Nat) (hr : rd 0 = ((t + 1 : Nat) : Int)) (ht : t < 20) (h0 : t = 0) (hk1 : tKnd tx N (tEnd tx N i) = 1) : ∃ h1, JP 1 n h h1 ∧ XS h1 tb N (tEnd tx N (tEnd tx N i)) w ex 0 (va_up rd 0 0) bd ∧ NX h h1 := by
  obtain ⟨hS, ⟨st, kd, vl, hO⟩, hB, hR, ⟨va, hV⟩, hD, hQ⟩ := hX
  obtain ⟨vl', c1, -⟩ := v_64 hN hT st kd vl i hi hO hB
  have hkb := kM_b (k := tKnd tx N i)
  have k0 : kM (tKnd tx N i) = 0 ↔ tKnd tx N i = 0 := kM_i (r := 0) (by decide) (by decide)
  have k4 : kM (tKnd tx N i) = 4 ↔ tKnd tx N i = 5 := kM_i (r := 5) (by decide) (by decide)
  have he := (tPos (tx := tx) hi).2
  have s1 : (sw h 202 (TO N ((tOff tx N i : Nat) : Int) ((tEnd tx N i : Nat) : Int) (kM (tKnd tx N i)) vl')).2.2 201 = _ := (sw_ne (by decide)).trans hS
  have o1 : (sw h 202 (TO N ((tOff tx N i : Nat) : Int) ((tEnd tx N i : Nat) : Int) (kM (tKnd tx N i)) vl')).2.2 202 = _ := sw_at _ _ _
  have b1 : (sw h 202 (TO N ((tOff tx N i : Nat) : Int) ((tEnd tx N i : Nat) : Int) (kM (tKnd tx N i)) vl')).2.2 203 = _ := (sw_ne (by decide)).trans hB
  have d1 : (sw h 202 (TO N ((tOff tx N i : Nat) : Int) ((tEnd tx N i : Nat) : Int) (kM (tKnd tx N i)) vl')).2.2 223 = _ := (sw_ne (by decide)).trans hD
  have q1 : (sw h 202 (TO N ((tOff tx N i : Nat) : Int) ((tEnd tx N i : Nat) : Int) (kM (tKnd tx N i)) vl')).2.2 224 = _ := (sw_ne (by decide)).trans hQ
  have v1 : (sw h 202 (TO N ((tOff tx N i : Nat) : Int) ((tEnd tx N i : Nat) : Int) (kM (tKnd tx N i)) vl')).2.2 222 = _ := (sw_ne (by decide)).trans hV
  have R1 : Rp (sw h 202 (TO N ((tOff tx N i : Nat) : Int) ((tEnd tx N i : Nat) : Int) (kM (tKnd tx N i)) vl')) 204 w := (NO.rf.t).rp hR
  have N1 : NO h (sw h 202 (TO N ((tOff tx N i : Nat) : Int) ((tEnd tx N i : Nat) : Int) (kM (tKnd tx N i)) vl')) := NO.rf.t
  obtain ⟨gc, ce, sc, tc, dc, qc, nc⟩ := v_42_0b (h := (sw h 202 (TO N ((tOff tx N i : Nat) : Int) ((tEnd tx N i : Nat) : Int) (kM (tKnd tx N i)) vl'))) hN hT ((ex : Nat) : Int) 0 (-1) s1 d1 q1 ((tOff tx N i : Nat) : Int) (kM (tKnd tx N i)) vl' (tEnd tx N i) he o1 b1 t hr ht h0 hk1
  have NG : NR h gc := N1.nr.tr nc
  refine ⟨gc, fun res hk => ?_, ⟨sc, tc, (NG.1 203 (by decide) (by decide) (by decide) (by decide)).trans hB, NG.rp hR, ⟨_, (NG.1 222 (by decide) (by decide) (by decide) (by decide)).trans hV⟩, dc, qc⟩, NG.nx⟩
  refine r_ild cd_34_35 rfl rfl ?_
  refine r_if51 cd_34_36 rfl ⟨by omega, by omega⟩ (fun n1 => ?_) (fun n1 => ?_)
  · exact absurd n1 (by decide)
  · refine r_ild cd_34_39 rfl rfl ?_
    refine r_con (v := 1000000) cd_34_40 rfl (by decide) ?_
    refine r_ic64 cd_34_42 rfl ⟨by omega, by omega⟩ ⟨by omega, by omega⟩ (fun n2 => ?_) (fun n2 => ?_)
    · refine r_aldR cd_34_45 rfl rfl ?_
      refine r_get cd_34_46 rfl hS rfl ?_
      refine r_cV c1 cd_34_49 rfl rfl rfl (rc0 hO rfl) rfl rfl rfl ?_
      refine r_aldR cd_34_52 rfl rfl ?_
      refine r_get cd_34_53 rfl ((sw_ne (by decide)).trans hS) rfl ?_
      refine r_get cd_34_56 rfl (sw_at _ _ _) rfl ?_
      refine r_if52 cd_34_59 rfl ⟨by omega, by omega⟩ (fun n3 => ?_) (fun n3 => ?_)
      · exact absurd (k0.mp n3) (by omega)
      · refine r_aldR cd_34_74 rfl rfl ?_
        refine r_get cd_34_75 rfl ((sw_ne (by decide)).trans hS) rfl ?_
        refine r_get cd_34_78 rfl (sw_at _ _ _) rfl ?_
        refine r_con (v := 4) cd_34_81 rfl (by decide) ?_
        refine r_ic62 cd_34_82 rfl ⟨by omega, by omega⟩ ⟨by omega, by omega⟩ (fun n4 => ?_) (fun n4 => ?_)
        · refine r_aldR cd_34_85 rfl rfl ?_
          refine r_get cd_34_86 rfl ((sw_ne (by decide)).trans hS) rfl ?_
          refine r_if56 cd_34_89 rfl ⟨by omega, by omega⟩ (fun n5 => ?_) (fun n5 => ?_)
          · refine r_aldR cd_34_92 rfl rfl ?_
            refine r_cI ce cd_34_93 rfl rfl rfl (rc0 ((sw_ne (by decide)).trans hS) rfl) rfl rfl rfl ?_
            refine r_ist cd_34_96 rfl rfl (L' := [aR 201, aI 1, aI ((n : Nat) : Int)]) rfl ?_
            refine r_goto cd_34_97 ?_
            exact hk
          · exact absurd n5 (by decide)
        · exact absurd (k4.mpr hk5) n4
    · exact absurd n2 (by omega)
theorem st_close_0c {h : aH} {tx tb : Nat → Int} {N : Nat} (hN : N ≤ 600) (hT : ∀ k, k < N → BT (tx k) (tb k)) (hb : TxB tx) {i ex : Nat} {w rd bd : Nat → Int} {n : Nat} (hX : XS h tb N i w ex 1 rd bd) (hi : i ≤ N) (hn : n < 1000000) (hk5 : tKnd tx N i = 5) (t : Nat) (hr : rd 0 = ((t + 1 : Nat) : Int)) (ht : t < 20) (h0 : t = 0) (hk1 : ¬ tKnd tx N (tEnd tx N i) = 1) : ∃ h1, JP 0 n h h1 ∧ Fin N (.inl (1, ((tOff tx N (tEnd tx N i) : Nat) : Int))) h h1 := by
  obtain ⟨hS, ⟨st, kd, vl, hO⟩, hB, hR, ⟨va, hV⟩, hD, hQ⟩ := hX
  obtain ⟨vl', c1, -⟩ := v_64 hN hT st kd vl i hi hO hB
  have hkb := kM_b (k := tKnd tx N i)
  have k0 : kM (tKnd tx N i) = 0 ↔ tKnd tx N i = 0 := kM_i (r := 0) (by decide) (by decide)
  have k4 : kM (tKnd tx N i) = 4 ↔ tKnd tx N i = 5 := kM_i (r := 5) (by decide) (by decide)
  have he := (tPos (tx := tx) hi).2
  have s1 : (sw h 202 (TO N ((tOff tx N i : Nat) : Int) ((tEnd tx N i : Nat) : Int) (kM (tKnd tx N i)) vl')).2.2 201 = _ := (sw_ne (by decide)).trans hS
  have o1 : (sw h 202 (TO N ((tOff tx N i : Nat) : Int) ((tEnd tx N i : Nat) : Int) (kM (tKnd tx N i)) vl')).2.2 202 = _ := sw_at _ _ _
  have b1 : (sw h 202 (TO N ((tOff tx N i : Nat) : Int) ((tEnd tx N i : Nat) : Int) (kM (tKnd tx N i)) vl')).2.2 203 = _ := (sw_ne (by decide)).trans hB
  have d1 : (sw h 202 (TO N ((tOff tx N i : Nat) : Int) ((tEnd tx N i : Nat) : Int) (kM (tKnd tx N i)) vl')).2.2 223 = _ := (sw_ne (by decide)).trans hD
  have q1 : (sw h 202 (TO N ((tOff tx N i : Nat) : Int) ((tEnd tx N i : Nat) : Int) (kM (tKnd tx N i)) vl')).2.2 224 = _ := (sw_ne (by decide)).trans hQ
  have v1 : (sw h 202 (TO N ((tOff tx N i : Nat) : Int) ((tEnd tx N i : Nat) : Int) (kM (tKnd tx N i)) vl')).2.2 222 = _ := (sw_ne (by decide)).trans hV
  have R1 : Rp (sw h 202 (TO N ((tOff tx N i : Nat) : Int) ((tEnd tx N i : Nat) : Int) (kM (tKnd tx N i)) vl')) 204 w := (NO.rf.t).rp hR
  have N1 : NO h (sw h 202 (TO N ((tOff tx N i : Nat) : Int) ((tEnd tx N i : Nat) : Int) (kM (tKnd tx N i)) vl')) := NO.rf.t
  obtain ⟨gc, ce, sc, tc, dc, qc, nc⟩ := v_42_0c (h := (sw h 202 (TO N ((tOff tx N i : Nat) : Int) ((tEnd tx N i : Nat) : Int) (kM (tKnd tx N i)) vl'))) hN hT ((ex : Nat) : Int) 0 (-1) s1 d1 q1 ((tOff tx N i : Nat) : Int) (kM (tKnd tx N i)) vl' (tEnd tx N i) he o1 b1 t hr ht h0 hk1
  have NG : NR h gc := N1.nr.tr nc
  refine ⟨gc, fun res hk => ?_, ⟨⟨_, _, sc⟩, tc, (NG.rp hR).ex, ⟨_, (NG.1 222 (by decide) (by decide) (by decide) (by decide)).trans hV⟩, ⟨_, dc⟩, ⟨_, qc⟩, NG.nx⟩⟩
  refine r_ild cd_34_35 rfl rfl ?_
  refine r_if51 cd_34_36 rfl ⟨by omega, by omega⟩ (fun n1 => ?_) (fun n1 => ?_)
  · exact absurd n1 (by decide)
  · refine r_ild cd_34_39 rfl rfl ?_
    refine r_con (v := 1000000) cd_34_40 rfl (by decide) ?_
    refine r_ic64 cd_34_42 rfl ⟨by omega, by omega⟩ ⟨by omega, by omega⟩ (fun n2 => ?_) (fun n2 => ?_)
    · refine r_aldR cd_34_45 rfl rfl ?_
      refine r_get cd_34_46 rfl hS rfl ?_
      refine r_cV c1 cd_34_49 rfl rfl rfl (rc0 hO rfl) rfl rfl rfl ?_
      refine r_aldR cd_34_52 rfl rfl ?_
      refine r_get cd_34_53 rfl ((sw_ne (by decide)).trans hS) rfl ?_
      refine r_get cd_34_56 rfl (sw_at _ _ _) rfl ?_
      refine r_if52 cd_34_59 rfl ⟨by omega, by omega⟩ (fun n3 => ?_) (fun n3 => ?_)
      · exact absurd (k0.mp n3) (by omega)
      · refine r_aldR cd_34_74 rfl rfl ?_
        refine r_get cd_34_75 rfl ((sw_ne (by decide)).trans hS) rfl ?_
        refine r_get cd_34_78 rfl (sw_at _ _ _) rfl ?_
        refine r_con (v := 4) cd_34_81 rfl (by decide) ?_
        refine r_ic62 cd_34_82 rfl ⟨by omega, by omega⟩ ⟨by omega, by omega⟩ (fun n4 => ?_) (fun n4 => ?_)
        · refine r_aldR cd_34_85 rfl rfl ?_
          refine r_get cd_34_86 rfl ((sw_ne (by decide)).trans hS) rfl ?_
          refine r_if56 cd_34_89 rfl ⟨by omega, by omega⟩ (fun n5 => ?_) (fun n5 => ?_)
          · refine r_aldR cd_34_92 rfl rfl ?_
            refine r_cI ce cd_34_93 rfl rfl rfl (rc0 ((sw_ne (by decide)).trans hS) rfl) rfl rfl rfl ?_
            refine r_ist cd_34_96 rfl rfl (L' := [aR 201, aI 0, aI ((n : Nat) : Int)]) rfl ?_
            refine r_goto cd_34_97 ?_
            exact hk
          · exact absurd n5 (by decide)
        · exact absurd (k4.mpr hk5) n4
    · exact absurd n2 (by omega)
theorem st_close_1a {h : aH} {tx tb : Nat → Int} {N : Nat} (hN : N ≤ 600) (hT : ∀ k, k < N → BT (tx k) (tb k)) (hb : TxB tx) {i ex : Nat} {w rd bd : Nat → Int} {n : Nat} (hX : XS h tb N i w ex 2 rd bd) (hi : i ≤ N) (hn : n < 1000000) (hk5 : tKnd tx N i = 5) (t : Nat) (hr : rd 1 = ((t + 1 : Nat) : Int)) (ht : t < 20) (h0 : 0 < t) (ib : Nat) (hbd : bd 1 = ((ib : Nat) : Int)) : ∃ h1, JP 1 n h h1 ∧ XS h1 tb N ib w ex 2 (va_up rd 1 ((t : Nat) : Int)) bd ∧ NX h h1 := by
  obtain ⟨hS, ⟨st, kd, vl, hO⟩, hB, hR, ⟨va, hV⟩, hD, hQ⟩ := hX
  obtain ⟨vl', c1, -⟩ := v_64 hN hT st kd vl i hi hO hB
  have hkb := kM_b (k := tKnd tx N i)
  have k0 : kM (tKnd tx N i) = 0 ↔ tKnd tx N i = 0 := kM_i (r := 0) (by decide) (by decide)
  have k4 : kM (tKnd tx N i) = 4 ↔ tKnd tx N i = 5 := kM_i (r := 5) (by decide) (by decide)
  have he := (tPos (tx := tx) hi).2
  have s1 : (sw h 202 (TO N ((tOff tx N i : Nat) : Int) ((tEnd tx N i : Nat) : Int) (kM (tKnd tx N i)) vl')).2.2 201 = _ := (sw_ne (by decide)).trans hS
  have o1 : (sw h 202 (TO N ((tOff tx N i : Nat) : Int) ((tEnd tx N i : Nat) : Int) (kM (tKnd tx N i)) vl')).2.2 202 = _ := sw_at _ _ _
  have b1 : (sw h 202 (TO N ((tOff tx N i : Nat) : Int) ((tEnd tx N i : Nat) : Int) (kM (tKnd tx N i)) vl')).2.2 203 = _ := (sw_ne (by decide)).trans hB
  have d1 : (sw h 202 (TO N ((tOff tx N i : Nat) : Int) ((tEnd tx N i : Nat) : Int) (kM (tKnd tx N i)) vl')).2.2 223 = _ := (sw_ne (by decide)).trans hD
  have q1 : (sw h 202 (TO N ((tOff tx N i : Nat) : Int) ((tEnd tx N i : Nat) : Int) (kM (tKnd tx N i)) vl')).2.2 224 = _ := (sw_ne (by decide)).trans hQ
  have v1 : (sw h 202 (TO N ((tOff tx N i : Nat) : Int) ((tEnd tx N i : Nat) : Int) (kM (tKnd tx N i)) vl')).2.2 222 = _ := (sw_ne (by decide)).trans hV
  have R1 : Rp (sw h 202 (TO N ((tOff tx N i : Nat) : Int) ((tEnd tx N i : Nat) : Int) (kM (tKnd tx N i)) vl')) 204 w := (NO.rf.t).rp hR
  have N1 : NO h (sw h 202 (TO N ((tOff tx N i : Nat) : Int) ((tEnd tx N i : Nat) : Int) (kM (tKnd tx N i)) vl')) := NO.rf.t
  have ce := v_42_1a (h := (sw h 202 (TO N ((tOff tx N i : Nat) : Int) ((tEnd tx N i : Nat) : Int) (kM (tKnd tx N i)) vl'))) hN hT ((ex : Nat) : Int) 0 (-1) s1 d1 q1 ((tOff tx N i : Nat) : Int) (kM (tKnd tx N i)) vl' (tEnd tx N i) he o1 b1 t hr ht h0
  rw [hbd] at ce
  have NG : NR h (sw (sw (sw h 202 (TO N ((tOff tx N i : Nat) : Int) ((tEnd tx N i : Nat) : Int) (kM (tKnd tx N i)) vl')) 224 (.inl (0, 2, .inl (va_up rd 1 ((t : Nat) : Int))))) 202 (TO N ((tOff tx N i : Nat) : Int) ((ib : Nat) : Int) (kM (tKnd tx N i)) vl')) := N1.nr.r.t
  refine ⟨(sw (sw (sw h 202 (TO N ((tOff tx N i : Nat) : Int) ((tEnd tx N i : Nat) : Int) (kM (tKnd tx N i)) vl')) 224 (.inl (0, 2, .inl (va_up rd 1 ((t : Nat) : Int))))) 202 (TO N ((tOff tx N i : Nat) : Int) ((ib : Nat) : Int) (kM (tKnd tx N i)) vl')), fun res hk => ?_, ⟨(sw_ne (by decide)).trans ((sw_ne (by decide)).trans s1), ⟨_, _, _, sw_at _ _ _⟩, (sw_ne (by decide)).trans ((sw_ne (by decide)).trans b1), NG.rp hR, ⟨_, (sw_ne (by decide)).trans ((sw_ne (by decide)).trans v1)⟩, (sw_ne (by decide)).trans ((sw_ne (by decide)).trans d1), (sw_ne (by decide)).trans (sw_at _ _ _)⟩, NG.nx⟩
  refine r_ild cd_34_35 rfl rfl ?_
  refine r_if51 cd_34_36 rfl ⟨by omega, by omega⟩ (fun n1 => ?_) (fun n1 => ?_)
  · exact absurd n1 (by decide)
  · refine r_ild cd_34_39 rfl rfl ?_
    refine r_con (v := 1000000) cd_34_40 rfl (by decide) ?_
    refine r_ic64 cd_34_42 rfl ⟨by omega, by omega⟩ ⟨by omega, by omega⟩ (fun n2 => ?_) (fun n2 => ?_)
    · refine r_aldR cd_34_45 rfl rfl ?_
      refine r_get cd_34_46 rfl hS rfl ?_
      refine r_cV c1 cd_34_49 rfl rfl rfl (rc0 hO rfl) rfl rfl rfl ?_
      refine r_aldR cd_34_52 rfl rfl ?_
      refine r_get cd_34_53 rfl ((sw_ne (by decide)).trans hS) rfl ?_
      refine r_get cd_34_56 rfl (sw_at _ _ _) rfl ?_
      refine r_if52 cd_34_59 rfl ⟨by omega, by omega⟩ (fun n3 => ?_) (fun n3 => ?_)
      · exact absurd (k0.mp n3) (by omega)
      · refine r_aldR cd_34_74 rfl rfl ?_
        refine r_get cd_34_75 rfl ((sw_ne (by decide)).trans hS) rfl ?_
        refine r_get cd_34_78 rfl (sw_at _ _ _) rfl ?_
        refine r_con (v := 4) cd_34_81 rfl (by decide) ?_
        refine r_ic62 cd_34_82 rfl ⟨by omega, by omega⟩ ⟨by omega, by omega⟩ (fun n4 => ?_) (fun n4 => ?_)
        · refine r_aldR cd_34_85 rfl rfl ?_
          refine r_get cd_34_86 rfl ((sw_ne (by decide)).trans hS) rfl ?_
          refine r_if56 cd_34_89 rfl ⟨by omega, by omega⟩ (fun n5 => ?_) (fun n5 => ?_)
          · refine r_aldR cd_34_92 rfl rfl ?_
            refine r_cI ce cd_34_93 rfl rfl rfl (rc0 ((sw_ne (by decide)).trans hS) rfl) rfl rfl rfl ?_
            refine r_ist cd_34_96 rfl rfl (L' := [aR 201, aI 1, aI ((n : Nat) : Int)]) rfl ?_
            refine r_goto cd_34_97 ?_
            exact hk
          · exact absurd n5 (by decide)
        · exact absurd (k4.mpr hk5) n4
    · exact absurd n2 (by omega)
theorem st_close_1b {h : aH} {tx tb : Nat → Int} {N : Nat} (hN : N ≤ 600) (hT : ∀ k, k < N → BT (tx k) (tb k)) (hb : TxB tx) {i ex : Nat} {w rd bd : Nat → Int} {n : Nat} (hX : XS h tb N i w ex 2 rd bd) (hi : i ≤ N) (hn : n < 1000000) (hk5 : tKnd tx N i = 5) (t : Nat) (hr : rd 1 = ((t + 1 : Nat) : Int)) (ht : t < 20) (h0 : t = 0) (hk1 : tKnd tx N (tEnd tx N i) = 1) : ∃ h1, JP 1 n h h1 ∧ XS h1 tb N (tEnd tx N (tEnd tx N i)) w ex 1 (va_up rd 1 0) bd ∧ NX h h1 := by
  obtain ⟨hS, ⟨st, kd, vl, hO⟩, hB, hR, ⟨va, hV⟩, hD, hQ⟩ := hX
  obtain ⟨vl', c1, -⟩ := v_64 hN hT st kd vl i hi hO hB
  have hkb := kM_b (k := tKnd tx N i)
  have k0 : kM (tKnd tx N i) = 0 ↔ tKnd tx N i = 0 := kM_i (r := 0) (by decide) (by decide)
  have k4 : kM (tKnd tx N i) = 4 ↔ tKnd tx N i = 5 := kM_i (r := 5) (by decide) (by decide)
  have he := (tPos (tx := tx) hi).2
  have s1 : (sw h 202 (TO N ((tOff tx N i : Nat) : Int) ((tEnd tx N i : Nat) : Int) (kM (tKnd tx N i)) vl')).2.2 201 = _ := (sw_ne (by decide)).trans hS
  have o1 : (sw h 202 (TO N ((tOff tx N i : Nat) : Int) ((tEnd tx N i : Nat) : Int) (kM (tKnd tx N i)) vl')).2.2 202 = _ := sw_at _ _ _
  have b1 : (sw h 202 (TO N ((tOff tx N i : Nat) : Int) ((tEnd tx N i : Nat) : Int) (kM (tKnd tx N i)) vl')).2.2 203 = _ := (sw_ne (by decide)).trans hB
  have d1 : (sw h 202 (TO N ((tOff tx N i : Nat) : Int) ((tEnd tx N i : Nat) : Int) (kM (tKnd tx N i)) vl')).2.2 223 = _ := (sw_ne (by decide)).trans hD
  have q1 : (sw h 202 (TO N ((tOff tx N i : Nat) : Int) ((tEnd tx N i : Nat) : Int) (kM (tKnd tx N i)) vl')).2.2 224 = _ := (sw_ne (by decide)).trans hQ
  have v1 : (sw h 202 (TO N ((tOff tx N i : Nat) : Int) ((tEnd tx N i : Nat) : Int) (kM (tKnd tx N i)) vl')).2.2 222 = _ := (sw_ne (by decide)).trans hV
  have R1 : Rp (sw h 202 (TO N ((tOff tx N i : Nat) : Int) ((tEnd tx N i : Nat) : Int) (kM (tKnd tx N i)) vl')) 204 w := (NO.rf.t).rp hR
  have N1 : NO h (sw h 202 (TO N ((tOff tx N i : Nat) : Int) ((tEnd tx N i : Nat) : Int) (kM (tKnd tx N i)) vl')) := NO.rf.t
  obtain ⟨gc, ce, sc, tc, dc, qc, nc⟩ := v_42_1b (h := (sw h 202 (TO N ((tOff tx N i : Nat) : Int) ((tEnd tx N i : Nat) : Int) (kM (tKnd tx N i)) vl'))) hN hT ((ex : Nat) : Int) 0 (-1) s1 d1 q1 ((tOff tx N i : Nat) : Int) (kM (tKnd tx N i)) vl' (tEnd tx N i) he o1 b1 t hr ht h0 hk1
  have NG : NR h gc := N1.nr.tr nc
  refine ⟨gc, fun res hk => ?_, ⟨sc, tc, (NG.1 203 (by decide) (by decide) (by decide) (by decide)).trans hB, NG.rp hR, ⟨_, (NG.1 222 (by decide) (by decide) (by decide) (by decide)).trans hV⟩, dc, qc⟩, NG.nx⟩
  refine r_ild cd_34_35 rfl rfl ?_
  refine r_if51 cd_34_36 rfl ⟨by omega, by omega⟩ (fun n1 => ?_) (fun n1 => ?_)
  · exact absurd n1 (by decide)
  · refine r_ild cd_34_39 rfl rfl ?_
    refine r_con (v := 1000000) cd_34_40 rfl (by decide) ?_
    refine r_ic64 cd_34_42 rfl ⟨by omega, by omega⟩ ⟨by omega, by omega⟩ (fun n2 => ?_) (fun n2 => ?_)
    · refine r_aldR cd_34_45 rfl rfl ?_
      refine r_get cd_34_46 rfl hS rfl ?_
      refine r_cV c1 cd_34_49 rfl rfl rfl (rc0 hO rfl) rfl rfl rfl ?_
      refine r_aldR cd_34_52 rfl rfl ?_
      refine r_get cd_34_53 rfl ((sw_ne (by decide)).trans hS) rfl ?_
      refine r_get cd_34_56 rfl (sw_at _ _ _) rfl ?_
      refine r_if52 cd_34_59 rfl ⟨by omega, by omega⟩ (fun n3 => ?_) (fun n3 => ?_)
      · exact absurd (k0.mp n3) (by omega)
      · refine r_aldR cd_34_74 rfl rfl ?_
        refine r_get cd_34_75 rfl ((sw_ne (by decide)).trans hS) rfl ?_
        refine r_get cd_34_78 rfl (sw_at _ _ _) rfl ?_
        refine r_con (v := 4) cd_34_81 rfl (by decide) ?_
        refine r_ic62 cd_34_82 rfl ⟨by omega, by omega⟩ ⟨by omega, by omega⟩ (fun n4 => ?_) (fun n4 => ?_)
        · refine r_aldR cd_34_85 rfl rfl ?_
          refine r_get cd_34_86 rfl ((sw_ne (by decide)).trans hS) rfl ?_
          refine r_if56 cd_34_89 rfl ⟨by omega, by omega⟩ (fun n5 => ?_) (fun n5 => ?_)
          · refine r_aldR cd_34_92 rfl rfl ?_
            refine r_cI ce cd_34_93 rfl rfl rfl (rc0 ((sw_ne (by decide)).trans hS) rfl) rfl rfl rfl ?_
            refine r_ist cd_34_96 rfl rfl (L' := [aR 201, aI 1, aI ((n : Nat) : Int)]) rfl ?_
            refine r_goto cd_34_97 ?_
            exact hk
          · exact absurd n5 (by decide)
        · exact absurd (k4.mpr hk5) n4
    · exact absurd n2 (by omega)
theorem st_close_1c {h : aH} {tx tb : Nat → Int} {N : Nat} (hN : N ≤ 600) (hT : ∀ k, k < N → BT (tx k) (tb k)) (hb : TxB tx) {i ex : Nat} {w rd bd : Nat → Int} {n : Nat} (hX : XS h tb N i w ex 2 rd bd) (hi : i ≤ N) (hn : n < 1000000) (hk5 : tKnd tx N i = 5) (t : Nat) (hr : rd 1 = ((t + 1 : Nat) : Int)) (ht : t < 20) (h0 : t = 0) (hk1 : ¬ tKnd tx N (tEnd tx N i) = 1) : ∃ h1, JP 0 n h h1 ∧ Fin N (.inl (1, ((tOff tx N (tEnd tx N i) : Nat) : Int))) h h1 := by
  obtain ⟨hS, ⟨st, kd, vl, hO⟩, hB, hR, ⟨va, hV⟩, hD, hQ⟩ := hX
  obtain ⟨vl', c1, -⟩ := v_64 hN hT st kd vl i hi hO hB
  have hkb := kM_b (k := tKnd tx N i)
  have k0 : kM (tKnd tx N i) = 0 ↔ tKnd tx N i = 0 := kM_i (r := 0) (by decide) (by decide)
  have k4 : kM (tKnd tx N i) = 4 ↔ tKnd tx N i = 5 := kM_i (r := 5) (by decide) (by decide)
  have he := (tPos (tx := tx) hi).2
  have s1 : (sw h 202 (TO N ((tOff tx N i : Nat) : Int) ((tEnd tx N i : Nat) : Int) (kM (tKnd tx N i)) vl')).2.2 201 = _ := (sw_ne (by decide)).trans hS
  have o1 : (sw h 202 (TO N ((tOff tx N i : Nat) : Int) ((tEnd tx N i : Nat) : Int) (kM (tKnd tx N i)) vl')).2.2 202 = _ := sw_at _ _ _
  have b1 : (sw h 202 (TO N ((tOff tx N i : Nat) : Int) ((tEnd tx N i : Nat) : Int) (kM (tKnd tx N i)) vl')).2.2 203 = _ := (sw_ne (by decide)).trans hB
  have d1 : (sw h 202 (TO N ((tOff tx N i : Nat) : Int) ((tEnd tx N i : Nat) : Int) (kM (tKnd tx N i)) vl')).2.2 223 = _ := (sw_ne (by decide)).trans hD
  have q1 : (sw h 202 (TO N ((tOff tx N i : Nat) : Int) ((tEnd tx N i : Nat) : Int) (kM (tKnd tx N i)) vl')).2.2 224 = _ := (sw_ne (by decide)).trans hQ
  have v1 : (sw h 202 (TO N ((tOff tx N i : Nat) : Int) ((tEnd tx N i : Nat) : Int) (kM (tKnd tx N i)) vl')).2.2 222 = _ := (sw_ne (by decide)).trans hV
  have R1 : Rp (sw h 202 (TO N ((tOff tx N i : Nat) : Int) ((tEnd tx N i : Nat) : Int) (kM (tKnd tx N i)) vl')) 204 w := (NO.rf.t).rp hR
  have N1 : NO h (sw h 202 (TO N ((tOff tx N i : Nat) : Int) ((tEnd tx N i : Nat) : Int) (kM (tKnd tx N i)) vl')) := NO.rf.t
  obtain ⟨gc, ce, sc, tc, dc, qc, nc⟩ := v_42_1c (h := (sw h 202 (TO N ((tOff tx N i : Nat) : Int) ((tEnd tx N i : Nat) : Int) (kM (tKnd tx N i)) vl'))) hN hT ((ex : Nat) : Int) 0 (-1) s1 d1 q1 ((tOff tx N i : Nat) : Int) (kM (tKnd tx N i)) vl' (tEnd tx N i) he o1 b1 t hr ht h0 hk1
  have NG : NR h gc := N1.nr.tr nc
  refine ⟨gc, fun res hk => ?_, ⟨⟨_, _, sc⟩, tc, (NG.rp hR).ex, ⟨_, (NG.1 222 (by decide) (by decide) (by decide) (by decide)).trans hV⟩, ⟨_, dc⟩, ⟨_, qc⟩, NG.nx⟩⟩
  refine r_ild cd_34_35 rfl rfl ?_
  refine r_if51 cd_34_36 rfl ⟨by omega, by omega⟩ (fun n1 => ?_) (fun n1 => ?_)
  · exact absurd n1 (by decide)
  · refine r_ild cd_34_39 rfl rfl ?_
    refine r_con (v := 1000000) cd_34_40 rfl (by decide) ?_
    refine r_ic64 cd_34_42 rfl ⟨by omega, by omega⟩ ⟨by omega, by omega⟩ (fun n2 => ?_) (fun n2 => ?_)
    · refine r_aldR cd_34_45 rfl rfl ?_
      refine r_get cd_34_46 rfl hS rfl ?_
      refine r_cV c1 cd_34_49 rfl rfl rfl (rc0 hO rfl) rfl rfl rfl ?_
      refine r_aldR cd_34_52 rfl rfl ?_
      refine r_get cd_34_53 rfl ((sw_ne (by decide)).trans hS) rfl ?_
      refine r_get cd_34_56 rfl (sw_at _ _ _) rfl ?_
      refine r_if52 cd_34_59 rfl ⟨by omega, by omega⟩ (fun n3 => ?_) (fun n3 => ?_)
      · exact absurd (k0.mp n3) (by omega)
      · refine r_aldR cd_34_74 rfl rfl ?_
        refine r_get cd_34_75 rfl ((sw_ne (by decide)).trans hS) rfl ?_
        refine r_get cd_34_78 rfl (sw_at _ _ _) rfl ?_
        refine r_con (v := 4) cd_34_81 rfl (by decide) ?_
        refine r_ic62 cd_34_82 rfl ⟨by omega, by omega⟩ ⟨by omega, by omega⟩ (fun n4 => ?_) (fun n4 => ?_)
        · refine r_aldR cd_34_85 rfl rfl ?_
          refine r_get cd_34_86 rfl ((sw_ne (by decide)).trans hS) rfl ?_
          refine r_if56 cd_34_89 rfl ⟨by omega, by omega⟩ (fun n5 => ?_) (fun n5 => ?_)
          · refine r_aldR cd_34_92 rfl rfl ?_
            refine r_cI ce cd_34_93 rfl rfl rfl (rc0 ((sw_ne (by decide)).trans hS) rfl) rfl rfl rfl ?_
            refine r_ist cd_34_96 rfl rfl (L' := [aR 201, aI 0, aI ((n : Nat) : Int)]) rfl ?_
            refine r_goto cd_34_97 ?_
            exact hk
          · exact absurd n5 (by decide)
        · exact absurd (k4.mpr hk5) n4
    · exact absurd n2 (by omega)
theorem st_rep_0 {h : aH} {tx tb : Nat → Int} {N : Nat} (hN : N ≤ 600) (hT : ∀ k, k < N → BT (tx k) (tb k)) (hb : TxB tx) {i ex : Nat} {w rd bd : Nat → Int} {n : Nat} (hX : XS h tb N i w ex 0 rd bd) (hi : i ≤ N) (hn : n < 1000000) (hw : wordI tx N i = 15) (hI : Inv0 w) : match begA tx N (tEnd tx N i) with
  | .inl e => ∃ h1, JP 0 n h h1 ∧ Fin N (.inl e) h h1
  | .inr a => ∃ h1, JP 1 n h h1 ∧ XS h1 tb N a.2 w ex 1 (va_up rd 0 ((a.1 : Nat) : Int)) (va_up bd 0 ((a.2 : Nat) : Int)) ∧ NX h h1 := by
  obtain ⟨hS, ⟨st, kd, vl, hO⟩, hB, hR, ⟨va, hV⟩, hD, hQ⟩ := hX
  obtain ⟨vl', c1, -⟩ := v_64 hN hT st kd vl i hi hO hB
  have hkb := kM_b (k := tKnd tx N i)
  have k0 : kM (tKnd tx N i) = 0 ↔ tKnd tx N i = 0 := kM_i (r := 0) (by decide) (by decide)
  have k4 : kM (tKnd tx N i) = 4 ↔ tKnd tx N i = 5 := kM_i (r := 5) (by decide) (by decide)
  have he := (tPos (tx := tx) hi).2
  have s1 : (sw h 202 (TO N ((tOff tx N i : Nat) : Int) ((tEnd tx N i : Nat) : Int) (kM (tKnd tx N i)) vl')).2.2 201 = _ := (sw_ne (by decide)).trans hS
  have o1 : (sw h 202 (TO N ((tOff tx N i : Nat) : Int) ((tEnd tx N i : Nat) : Int) (kM (tKnd tx N i)) vl')).2.2 202 = _ := sw_at _ _ _
  have b1 : (sw h 202 (TO N ((tOff tx N i : Nat) : Int) ((tEnd tx N i : Nat) : Int) (kM (tKnd tx N i)) vl')).2.2 203 = _ := (sw_ne (by decide)).trans hB
  have d1 : (sw h 202 (TO N ((tOff tx N i : Nat) : Int) ((tEnd tx N i : Nat) : Int) (kM (tKnd tx N i)) vl')).2.2 223 = _ := (sw_ne (by decide)).trans hD
  have q1 : (sw h 202 (TO N ((tOff tx N i : Nat) : Int) ((tEnd tx N i : Nat) : Int) (kM (tKnd tx N i)) vl')).2.2 224 = _ := (sw_ne (by decide)).trans hQ
  have v1 : (sw h 202 (TO N ((tOff tx N i : Nat) : Int) ((tEnd tx N i : Nat) : Int) (kM (tKnd tx N i)) vl')).2.2 222 = _ := (sw_ne (by decide)).trans hV
  have R1 : Rp (sw h 202 (TO N ((tOff tx N i : Nat) : Int) ((tEnd tx N i : Nat) : Int) (kM (tKnd tx N i)) vl')) 204 w := (NO.rf.t).rp hR
  have N1 : NO h (sw h 202 (TO N ((tOff tx N i : Nat) : Int) ((tEnd tx N i : Nat) : Int) (kM (tKnd tx N i)) vl')) := NO.rf.t
  have hy := word_o hw
  have hk2 : tKnd tx N i = 2 := (wordI_b (tx := tx) (N := N) (i := i)).2.2 (by rw [hw]; decide)
  have cw := k_71 (h := (sw h 202 (TO N ((tOff tx N i : Nat) : Int) ((tEnd tx N i : Nat) : Int) (kM (tKnd tx N i)) vl'))) hN hT i hi vl' o1 b1 19 (by decide) (by decide)
  rw [t_rep] at cw
  have P1 := v_43_0 (h := (sw h 202 (TO N ((tOff tx N i : Nat) : Int) ((tEnd tx N i : Nat) : Int) (kM (tKnd tx N i)) vl'))) hN hT ((ex : Nat) : Int) 0 (-1) s1 R1 hI v1 d1 q1 hb ((tOff tx N i : Nat) : Int) (kM (tKnd tx N i)) vl' (tEnd tx N i) he o1 b1
  rcases hA : begA tx N (tEnd tx N i) with e | a
  · rw [hA] at P1
    obtain ⟨gc, ce, sc, tc, dc, ⟨rc, qc⟩, nc⟩ := P1
    have NG : NR h gc := N1.nr.tr nc
    refine ⟨gc, fun res hk => ?_, ⟨⟨_, _, sc⟩, tc, (NG.rp hR).ex, ⟨_, (NG.1 222 (by decide) (by decide) (by decide) (by decide)).trans hV⟩, ⟨_, dc⟩, ⟨_, qc⟩, NG.nx⟩⟩
    refine r_ild cd_34_35 rfl rfl ?_
    refine r_if51 cd_34_36 rfl ⟨by omega, by omega⟩ (fun n1 => ?_) (fun n1 => ?_)
    · exact absurd n1 (by decide)
    · refine r_ild cd_34_39 rfl rfl ?_
      refine r_con (v := 1000000) cd_34_40 rfl (by decide) ?_
      refine r_ic64 cd_34_42 rfl ⟨by omega, by omega⟩ ⟨by omega, by omega⟩ (fun n2 => ?_) (fun n2 => ?_)
      · refine r_aldR cd_34_45 rfl rfl ?_
        refine r_get cd_34_46 rfl hS rfl ?_
        refine r_cV c1 cd_34_49 rfl rfl rfl (rc0 hO rfl) rfl rfl rfl ?_
        refine r_aldR cd_34_52 rfl rfl ?_
        refine r_get cd_34_53 rfl ((sw_ne (by decide)).trans hS) rfl ?_
        refine r_get cd_34_56 rfl (sw_at _ _ _) rfl ?_
        refine r_if52 cd_34_59 rfl ⟨by omega, by omega⟩ (fun n3 => ?_) (fun n3 => ?_)
        · exact absurd (k0.mp n3) (by omega)
        · refine r_aldR cd_34_74 rfl rfl ?_
          refine r_get cd_34_75 rfl ((sw_ne (by decide)).trans hS) rfl ?_
          refine r_get cd_34_78 rfl (sw_at _ _ _) rfl ?_
          refine r_con (v := 4) cd_34_81 rfl (by decide) ?_
          refine r_ic62 cd_34_82 rfl ⟨by omega, by omega⟩ ⟨by omega, by omega⟩ (fun n4 => ?_) (fun n4 => ?_)
          · exact absurd (k4.mp n4) (by omega)
          · refine r_aldR cd_34_100 rfl rfl ?_
            refine r_get cd_34_101 rfl ((sw_ne (by decide)).trans hS) rfl ?_
            refine r_cst cd_34_104 rfl ?_
            refine r_cI cw cd_34_106 rfl rfl rfl (rc0 (sw_at _ _ _) rfl) rfl rfl rfl ?_
            refine r_if51b cd_34_109 rfl (fun n5 => ?_) (fun n5 => ?_)
            · exact Bool.noConfusion (n5.symm.trans hy)
            · refine r_aldR cd_34_112 rfl rfl ?_
              refine r_cI ce cd_34_113 rfl rfl rfl (rc0 ((sw_ne (by decide)).trans hS) rfl) rfl rfl rfl ?_
              refine r_ist cd_34_116 rfl rfl (L' := [aR 201, aI 0, aI ((n : Nat) : Int)]) rfl ?_
              refine r_goto cd_34_117 ?_
              exact hk
      · exact absurd n2 (by omega)
  · rw [hA] at P1
    obtain ⟨gc, ce, sc, tc, dc, qc, nc⟩ := P1
    have NG : NR h gc := N1.nr.tr nc
    refine ⟨gc, fun res hk => ?_, ⟨sc, tc, (NG.1 203 (by decide) (by decide) (by decide) (by decide)).trans hB, NG.rp hR, ⟨_, (NG.1 222 (by decide) (by decide) (by decide) (by decide)).trans hV⟩, dc, qc⟩, NG.nx⟩
    refine r_ild cd_34_35 rfl rfl ?_
    refine r_if51 cd_34_36 rfl ⟨by omega, by omega⟩ (fun n1 => ?_) (fun n1 => ?_)
    · exact absurd n1 (by decide)
    · refine r_ild cd_34_39 rfl rfl ?_
      refine r_con (v := 1000000) cd_34_40 rfl (by decide) ?_
      refine r_ic64 cd_34_42 rfl ⟨by omega, by omega⟩ ⟨by omega, by omega⟩ (fun n2 => ?_) (fun n2 => ?_)
      · refine r_aldR cd_34_45 rfl rfl ?_
        refine r_get cd_34_46 rfl hS rfl ?_
        refine r_cV c1 cd_34_49 rfl rfl rfl (rc0 hO rfl) rfl rfl rfl ?_
        refine r_aldR cd_34_52 rfl rfl ?_
        refine r_get cd_34_53 rfl ((sw_ne (by decide)).trans hS) rfl ?_
        refine r_get cd_34_56 rfl (sw_at _ _ _) rfl ?_
        refine r_if52 cd_34_59 rfl ⟨by omega, by omega⟩ (fun n3 => ?_) (fun n3 => ?_)
        · exact absurd (k0.mp n3) (by omega)
        · refine r_aldR cd_34_74 rfl rfl ?_
          refine r_get cd_34_75 rfl ((sw_ne (by decide)).trans hS) rfl ?_
          refine r_get cd_34_78 rfl (sw_at _ _ _) rfl ?_
          refine r_con (v := 4) cd_34_81 rfl (by decide) ?_
          refine r_ic62 cd_34_82 rfl ⟨by omega, by omega⟩ ⟨by omega, by omega⟩ (fun n4 => ?_) (fun n4 => ?_)
          · exact absurd (k4.mp n4) (by omega)
          · refine r_aldR cd_34_100 rfl rfl ?_
            refine r_get cd_34_101 rfl ((sw_ne (by decide)).trans hS) rfl ?_
            refine r_cst cd_34_104 rfl ?_
            refine r_cI cw cd_34_106 rfl rfl rfl (rc0 (sw_at _ _ _) rfl) rfl rfl rfl ?_
            refine r_if51b cd_34_109 rfl (fun n5 => ?_) (fun n5 => ?_)
            · exact Bool.noConfusion (n5.symm.trans hy)
            · refine r_aldR cd_34_112 rfl rfl ?_
              refine r_cI ce cd_34_113 rfl rfl rfl (rc0 ((sw_ne (by decide)).trans hS) rfl) rfl rfl rfl ?_
              refine r_ist cd_34_116 rfl rfl (L' := [aR 201, aI 1, aI ((n : Nat) : Int)]) rfl ?_
              refine r_goto cd_34_117 ?_
              exact hk
      · exact absurd n2 (by omega)
theorem st_rep_1 {h : aH} {tx tb : Nat → Int} {N : Nat} (hN : N ≤ 600) (hT : ∀ k, k < N → BT (tx k) (tb k)) (hb : TxB tx) {i ex : Nat} {w rd bd : Nat → Int} {n : Nat} (hX : XS h tb N i w ex 1 rd bd) (hi : i ≤ N) (hn : n < 1000000) (hw : wordI tx N i = 15) (hI : Inv0 w) : match begA tx N (tEnd tx N i) with
  | .inl e => ∃ h1, JP 0 n h h1 ∧ Fin N (.inl e) h h1
  | .inr a => ∃ h1, JP 1 n h h1 ∧ XS h1 tb N a.2 w ex 2 (va_up rd 1 ((a.1 : Nat) : Int)) (va_up bd 1 ((a.2 : Nat) : Int)) ∧ NX h h1 := by
  obtain ⟨hS, ⟨st, kd, vl, hO⟩, hB, hR, ⟨va, hV⟩, hD, hQ⟩ := hX
  obtain ⟨vl', c1, -⟩ := v_64 hN hT st kd vl i hi hO hB
  have hkb := kM_b (k := tKnd tx N i)
  have k0 : kM (tKnd tx N i) = 0 ↔ tKnd tx N i = 0 := kM_i (r := 0) (by decide) (by decide)
  have k4 : kM (tKnd tx N i) = 4 ↔ tKnd tx N i = 5 := kM_i (r := 5) (by decide) (by decide)
  have he := (tPos (tx := tx) hi).2
  have s1 : (sw h 202 (TO N ((tOff tx N i : Nat) : Int) ((tEnd tx N i : Nat) : Int) (kM (tKnd tx N i)) vl')).2.2 201 = _ := (sw_ne (by decide)).trans hS
  have o1 : (sw h 202 (TO N ((tOff tx N i : Nat) : Int) ((tEnd tx N i : Nat) : Int) (kM (tKnd tx N i)) vl')).2.2 202 = _ := sw_at _ _ _
  have b1 : (sw h 202 (TO N ((tOff tx N i : Nat) : Int) ((tEnd tx N i : Nat) : Int) (kM (tKnd tx N i)) vl')).2.2 203 = _ := (sw_ne (by decide)).trans hB
  have d1 : (sw h 202 (TO N ((tOff tx N i : Nat) : Int) ((tEnd tx N i : Nat) : Int) (kM (tKnd tx N i)) vl')).2.2 223 = _ := (sw_ne (by decide)).trans hD
  have q1 : (sw h 202 (TO N ((tOff tx N i : Nat) : Int) ((tEnd tx N i : Nat) : Int) (kM (tKnd tx N i)) vl')).2.2 224 = _ := (sw_ne (by decide)).trans hQ
  have v1 : (sw h 202 (TO N ((tOff tx N i : Nat) : Int) ((tEnd tx N i : Nat) : Int) (kM (tKnd tx N i)) vl')).2.2 222 = _ := (sw_ne (by decide)).trans hV
  have R1 : Rp (sw h 202 (TO N ((tOff tx N i : Nat) : Int) ((tEnd tx N i : Nat) : Int) (kM (tKnd tx N i)) vl')) 204 w := (NO.rf.t).rp hR
  have N1 : NO h (sw h 202 (TO N ((tOff tx N i : Nat) : Int) ((tEnd tx N i : Nat) : Int) (kM (tKnd tx N i)) vl')) := NO.rf.t
  have hy := word_o hw
  have hk2 : tKnd tx N i = 2 := (wordI_b (tx := tx) (N := N) (i := i)).2.2 (by rw [hw]; decide)
  have cw := k_71 (h := (sw h 202 (TO N ((tOff tx N i : Nat) : Int) ((tEnd tx N i : Nat) : Int) (kM (tKnd tx N i)) vl'))) hN hT i hi vl' o1 b1 19 (by decide) (by decide)
  rw [t_rep] at cw
  have P1 := v_43_1 (h := (sw h 202 (TO N ((tOff tx N i : Nat) : Int) ((tEnd tx N i : Nat) : Int) (kM (tKnd tx N i)) vl'))) hN hT ((ex : Nat) : Int) 0 (-1) s1 R1 hI v1 d1 q1 hb ((tOff tx N i : Nat) : Int) (kM (tKnd tx N i)) vl' (tEnd tx N i) he o1 b1
  rcases hA : begA tx N (tEnd tx N i) with e | a
  · rw [hA] at P1
    obtain ⟨gc, ce, sc, tc, dc, ⟨rc, qc⟩, nc⟩ := P1
    have NG : NR h gc := N1.nr.tr nc
    refine ⟨gc, fun res hk => ?_, ⟨⟨_, _, sc⟩, tc, (NG.rp hR).ex, ⟨_, (NG.1 222 (by decide) (by decide) (by decide) (by decide)).trans hV⟩, ⟨_, dc⟩, ⟨_, qc⟩, NG.nx⟩⟩
    refine r_ild cd_34_35 rfl rfl ?_
    refine r_if51 cd_34_36 rfl ⟨by omega, by omega⟩ (fun n1 => ?_) (fun n1 => ?_)
    · exact absurd n1 (by decide)
    · refine r_ild cd_34_39 rfl rfl ?_
      refine r_con (v := 1000000) cd_34_40 rfl (by decide) ?_
      refine r_ic64 cd_34_42 rfl ⟨by omega, by omega⟩ ⟨by omega, by omega⟩ (fun n2 => ?_) (fun n2 => ?_)
      · refine r_aldR cd_34_45 rfl rfl ?_
        refine r_get cd_34_46 rfl hS rfl ?_
        refine r_cV c1 cd_34_49 rfl rfl rfl (rc0 hO rfl) rfl rfl rfl ?_
        refine r_aldR cd_34_52 rfl rfl ?_
        refine r_get cd_34_53 rfl ((sw_ne (by decide)).trans hS) rfl ?_
        refine r_get cd_34_56 rfl (sw_at _ _ _) rfl ?_
        refine r_if52 cd_34_59 rfl ⟨by omega, by omega⟩ (fun n3 => ?_) (fun n3 => ?_)
        · exact absurd (k0.mp n3) (by omega)
        · refine r_aldR cd_34_74 rfl rfl ?_
          refine r_get cd_34_75 rfl ((sw_ne (by decide)).trans hS) rfl ?_
          refine r_get cd_34_78 rfl (sw_at _ _ _) rfl ?_
          refine r_con (v := 4) cd_34_81 rfl (by decide) ?_
          refine r_ic62 cd_34_82 rfl ⟨by omega, by omega⟩ ⟨by omega, by omega⟩ (fun n4 => ?_) (fun n4 => ?_)
          · exact absurd (k4.mp n4) (by omega)
          · refine r_aldR cd_34_100 rfl rfl ?_
            refine r_get cd_34_101 rfl ((sw_ne (by decide)).trans hS) rfl ?_
            refine r_cst cd_34_104 rfl ?_
            refine r_cI cw cd_34_106 rfl rfl rfl (rc0 (sw_at _ _ _) rfl) rfl rfl rfl ?_
            refine r_if51b cd_34_109 rfl (fun n5 => ?_) (fun n5 => ?_)
            · exact Bool.noConfusion (n5.symm.trans hy)
            · refine r_aldR cd_34_112 rfl rfl ?_
              refine r_cI ce cd_34_113 rfl rfl rfl (rc0 ((sw_ne (by decide)).trans hS) rfl) rfl rfl rfl ?_
              refine r_ist cd_34_116 rfl rfl (L' := [aR 201, aI 0, aI ((n : Nat) : Int)]) rfl ?_
              refine r_goto cd_34_117 ?_
              exact hk
      · exact absurd n2 (by omega)
  · rw [hA] at P1
    obtain ⟨gc, ce, sc, tc, dc, qc, nc⟩ := P1
    have NG : NR h gc := N1.nr.tr nc
    refine ⟨gc, fun res hk => ?_, ⟨sc, tc, (NG.1 203 (by decide) (by decide) (by decide) (by decide)).trans hB, NG.rp hR, ⟨_, (NG.1 222 (by decide) (by decide) (by decide) (by decide)).trans hV⟩, dc, qc⟩, NG.nx⟩
    refine r_ild cd_34_35 rfl rfl ?_
    refine r_if51 cd_34_36 rfl ⟨by omega, by omega⟩ (fun n1 => ?_) (fun n1 => ?_)
    · exact absurd n1 (by decide)
    · refine r_ild cd_34_39 rfl rfl ?_
      refine r_con (v := 1000000) cd_34_40 rfl (by decide) ?_
      refine r_ic64 cd_34_42 rfl ⟨by omega, by omega⟩ ⟨by omega, by omega⟩ (fun n2 => ?_) (fun n2 => ?_)
      · refine r_aldR cd_34_45 rfl rfl ?_
        refine r_get cd_34_46 rfl hS rfl ?_
        refine r_cV c1 cd_34_49 rfl rfl rfl (rc0 hO rfl) rfl rfl rfl ?_
        refine r_aldR cd_34_52 rfl rfl ?_
        refine r_get cd_34_53 rfl ((sw_ne (by decide)).trans hS) rfl ?_
        refine r_get cd_34_56 rfl (sw_at _ _ _) rfl ?_
        refine r_if52 cd_34_59 rfl ⟨by omega, by omega⟩ (fun n3 => ?_) (fun n3 => ?_)
        · exact absurd (k0.mp n3) (by omega)
        · refine r_aldR cd_34_74 rfl rfl ?_
          refine r_get cd_34_75 rfl ((sw_ne (by decide)).trans hS) rfl ?_
          refine r_get cd_34_78 rfl (sw_at _ _ _) rfl ?_
          refine r_con (v := 4) cd_34_81 rfl (by decide) ?_
          refine r_ic62 cd_34_82 rfl ⟨by omega, by omega⟩ ⟨by omega, by omega⟩ (fun n4 => ?_) (fun n4 => ?_)
          · exact absurd (k4.mp n4) (by omega)
          · refine r_aldR cd_34_100 rfl rfl ?_
            refine r_get cd_34_101 rfl ((sw_ne (by decide)).trans hS) rfl ?_
            refine r_cst cd_34_104 rfl ?_
            refine r_cI cw cd_34_106 rfl rfl rfl (rc0 (sw_at _ _ _) rfl) rfl rfl rfl ?_
            refine r_if51b cd_34_109 rfl (fun n5 => ?_) (fun n5 => ?_)
            · exact Bool.noConfusion (n5.symm.trans hy)
            · refine r_aldR cd_34_112 rfl rfl ?_
              refine r_cI ce cd_34_113 rfl rfl rfl (rc0 ((sw_ne (by decide)).trans hS) rfl) rfl rfl rfl ?_
              refine r_ist cd_34_116 rfl rfl (L' := [aR 201, aI 1, aI ((n : Nat) : Int)]) rfl ?_
              refine r_goto cd_34_117 ?_
              exact hk
      · exact absurd n2 (by omega)
theorem st_rep_2 {h : aH} {tx tb : Nat → Int} {N : Nat} (hN : N ≤ 600) (hT : ∀ k, k < N → BT (tx k) (tb k)) (hb : TxB tx) {i ex : Nat} {w rd bd : Nat → Int} {n : Nat} (hX : XS h tb N i w ex 2 rd bd) (hi : i ≤ N) (hn : n < 1000000) (hw : wordI tx N i = 15) : ∃ h1, JP 0 n h h1 ∧ Fin N (.inl (4, ((tOff tx N i : Nat) : Int))) h h1 := by
  obtain ⟨hS, ⟨st, kd, vl, hO⟩, hB, hR, ⟨va, hV⟩, hD, hQ⟩ := hX
  obtain ⟨vl', c1, -⟩ := v_64 hN hT st kd vl i hi hO hB
  have hkb := kM_b (k := tKnd tx N i)
  have k0 : kM (tKnd tx N i) = 0 ↔ tKnd tx N i = 0 := kM_i (r := 0) (by decide) (by decide)
  have k4 : kM (tKnd tx N i) = 4 ↔ tKnd tx N i = 5 := kM_i (r := 5) (by decide) (by decide)
  have he := (tPos (tx := tx) hi).2
  have s1 : (sw h 202 (TO N ((tOff tx N i : Nat) : Int) ((tEnd tx N i : Nat) : Int) (kM (tKnd tx N i)) vl')).2.2 201 = _ := (sw_ne (by decide)).trans hS
  have o1 : (sw h 202 (TO N ((tOff tx N i : Nat) : Int) ((tEnd tx N i : Nat) : Int) (kM (tKnd tx N i)) vl')).2.2 202 = _ := sw_at _ _ _
  have b1 : (sw h 202 (TO N ((tOff tx N i : Nat) : Int) ((tEnd tx N i : Nat) : Int) (kM (tKnd tx N i)) vl')).2.2 203 = _ := (sw_ne (by decide)).trans hB
  have d1 : (sw h 202 (TO N ((tOff tx N i : Nat) : Int) ((tEnd tx N i : Nat) : Int) (kM (tKnd tx N i)) vl')).2.2 223 = _ := (sw_ne (by decide)).trans hD
  have q1 : (sw h 202 (TO N ((tOff tx N i : Nat) : Int) ((tEnd tx N i : Nat) : Int) (kM (tKnd tx N i)) vl')).2.2 224 = _ := (sw_ne (by decide)).trans hQ
  have v1 : (sw h 202 (TO N ((tOff tx N i : Nat) : Int) ((tEnd tx N i : Nat) : Int) (kM (tKnd tx N i)) vl')).2.2 222 = _ := (sw_ne (by decide)).trans hV
  have R1 : Rp (sw h 202 (TO N ((tOff tx N i : Nat) : Int) ((tEnd tx N i : Nat) : Int) (kM (tKnd tx N i)) vl')) 204 w := (NO.rf.t).rp hR
  have N1 : NO h (sw h 202 (TO N ((tOff tx N i : Nat) : Int) ((tEnd tx N i : Nat) : Int) (kM (tKnd tx N i)) vl')) := NO.rf.t
  have hy := word_o hw
  have hk2 : tKnd tx N i = 2 := (wordI_b (tx := tx) (N := N) (i := i)).2.2 (by rw [hw]; decide)
  have cw := k_71 (h := (sw h 202 (TO N ((tOff tx N i : Nat) : Int) ((tEnd tx N i : Nat) : Int) (kM (tKnd tx N i)) vl'))) hN hT i hi vl' o1 b1 19 (by decide) (by decide)
  rw [t_rep] at cw
  have ce := v_43_f (h := (sw h 202 (TO N ((tOff tx N i : Nat) : Int) ((tEnd tx N i : Nat) : Int) (kM (tKnd tx N i)) vl'))) ((ex : Nat) : Int) 0 (-1) s1 N _ _ _ _ o1
  have NG : NO h (sw (sw h 202 (TO N ((tOff tx N i : Nat) : Int) ((tEnd tx N i : Nat) : Int) (kM (tKnd tx N i)) vl')) 201 (SO 2 ((ex : Nat) : Int) 4 ((tOff tx N i : Nat) : Int))) := N1.s
  refine ⟨sw (sw h 202 (TO N ((tOff tx N i : Nat) : Int) ((tEnd tx N i : Nat) : Int) (kM (tKnd tx N i)) vl')) 201 (SO 2 ((ex : Nat) : Int) 4 ((tOff tx N i : Nat) : Int)), fun res hk => ?_, ⟨⟨_, _, sw_at _ _ _⟩, ⟨_, _, _, _, (sw_ne (by decide)).trans o1⟩, (NG.rp hR).ex, ⟨_, (sw_ne (by decide)).trans v1⟩, ⟨_, (sw_ne (by decide)).trans d1⟩, ⟨_, (sw_ne (by decide)).trans q1⟩, NG.nx⟩⟩
  refine r_ild cd_34_35 rfl rfl ?_
  refine r_if51 cd_34_36 rfl ⟨by omega, by omega⟩ (fun n1 => ?_) (fun n1 => ?_)
  · exact absurd n1 (by decide)
  · refine r_ild cd_34_39 rfl rfl ?_
    refine r_con (v := 1000000) cd_34_40 rfl (by decide) ?_
    refine r_ic64 cd_34_42 rfl ⟨by omega, by omega⟩ ⟨by omega, by omega⟩ (fun n2 => ?_) (fun n2 => ?_)
    · refine r_aldR cd_34_45 rfl rfl ?_
      refine r_get cd_34_46 rfl hS rfl ?_
      refine r_cV c1 cd_34_49 rfl rfl rfl (rc0 hO rfl) rfl rfl rfl ?_
      refine r_aldR cd_34_52 rfl rfl ?_
      refine r_get cd_34_53 rfl ((sw_ne (by decide)).trans hS) rfl ?_
      refine r_get cd_34_56 rfl (sw_at _ _ _) rfl ?_
      refine r_if52 cd_34_59 rfl ⟨by omega, by omega⟩ (fun n3 => ?_) (fun n3 => ?_)
      · exact absurd (k0.mp n3) (by omega)
      · refine r_aldR cd_34_74 rfl rfl ?_
        refine r_get cd_34_75 rfl ((sw_ne (by decide)).trans hS) rfl ?_
        refine r_get cd_34_78 rfl (sw_at _ _ _) rfl ?_
        refine r_con (v := 4) cd_34_81 rfl (by decide) ?_
        refine r_ic62 cd_34_82 rfl ⟨by omega, by omega⟩ ⟨by omega, by omega⟩ (fun n4 => ?_) (fun n4 => ?_)
        · exact absurd (k4.mp n4) (by omega)
        · refine r_aldR cd_34_100 rfl rfl ?_
          refine r_get cd_34_101 rfl ((sw_ne (by decide)).trans hS) rfl ?_
          refine r_cst cd_34_104 rfl ?_
          refine r_cI cw cd_34_106 rfl rfl rfl (rc0 (sw_at _ _ _) rfl) rfl rfl rfl ?_
          refine r_if51b cd_34_109 rfl (fun n5 => ?_) (fun n5 => ?_)
          · exact Bool.noConfusion (n5.symm.trans hy)
          · refine r_aldR cd_34_112 rfl rfl ?_
            refine r_cI ce cd_34_113 rfl rfl rfl (rc0 ((sw_ne (by decide)).trans hS) rfl) rfl rfl rfl ?_
            refine r_ist cd_34_116 rfl rfl (L' := [aR 201, aI 0, aI ((n : Nat) : Int)]) rfl ?_
            refine r_goto cd_34_117 ?_
            exact hk
    · exact absurd n2 (by omega)
theorem v_45 {h : aH} {tx tb : Nat → Int} {N : Nat} (hN : N ≤ 600) (hT : ∀ k, k < N → BT (tx k) (tb k)) (dp ex ek eo : Int) (hS : h.2.2 201 = SO dp ex ek eo) (hx0 : 0 ≤ ex) (hx : ex < 200) {w : Nat → Int} (hR : Rp h 204 w) (hI : Inv w) {va : Nat → Int} (hV : h.2.2 222 = .inl (0, 4, .inl va)) (hb : TxB tx) (st kd vl : Int) (i : Nat) (hi : i ≤ N) (hO : h.2.2 202 = TO N st ((i : Nat) : Int) kd vl) (hB : h.2.2 203 = .inl (1, 600, .inl tb)) (j : Nat) (hj : j < 15) : CmdP 8 45 [aR 201, aC (4 + j)] h N dp ex ek eo (cmdA ((j : Nat) : Int) tx N i w) := by
  have hh : j = 0 ∨ j = 1 ∨ j = 2 ∨ j = 3 ∨ j = 4 ∨ j = 5 ∨ j = 6 ∨ j = 7 ∨ j = 8 ∨ j = 9 ∨ j = 10 ∨ j = 11 ∨ j = 12 ∨ j = 13 ∨ j = 14 := by omega
  rcases hh with rfl | rfl | rfl | rfl | rfl | rfl | rfl | rfl | rfl | rfl | rfl | rfl | rfl | rfl | rfl
  · exact v_45_0 hN hT dp ex ek eo hS hx0 hx hR hI hV hb st kd vl i hi hO hB
  · exact v_45_1 hN hT dp ex ek eo hS hx0 hx hR hI hV hb st kd vl i hi hO hB
  · exact v_45_2 hN hT dp ex ek eo hS hx0 hx hR hI hV hb st kd vl i hi hO hB
  · exact v_45_3 hN hT dp ex ek eo hS hx0 hx hR hI hV hb st kd vl i hi hO hB
  · exact v_45_4 hN hT dp ex ek eo hS hx0 hx hR hI hV hb st kd vl i hi hO hB
  · exact v_45_5 hN hT dp ex ek eo hS hx0 hx hR hI hV hb st kd vl i hi hO hB
  · exact v_45_6 hN hT dp ex ek eo hS hx0 hx hR hI hV hb st kd vl i hi hO hB
  · exact v_45_7 hN hT dp ex ek eo hS hx0 hx hR hI hV hb st kd vl i hi hO hB
  · exact v_45_8 hN hT dp ex ek eo hS hx0 hx hR hI hV hb st kd vl i hi hO hB
  · exact v_45_9 hN hT dp ex ek eo hS hx0 hx hR hI hV hb st kd vl i hi hO hB
  · exact v_45_10 hN hT dp ex ek eo hS hx0 hx hR hI hV hb st kd vl i hi hO hB
  · exact v_45_11 hN hT dp ex ek eo hS hx0 hx hR hI hV hb st kd vl i hi hO hB
  · exact v_45_12 hN hT dp ex ek eo hS hx0 hx hR hI hV hb st kd vl i hi hO hB
  · exact v_45_13 hN hT dp ex ek eo hS hx0 hx hR hI hV hb st kd vl i hi hO hB
  · exact v_45_14 hN hT dp ex ek eo hS hx0 hx hR hI hV hb st kd vl i hi hO hB
theorem pre_34 {h : aH} {tx tb : Nat → Int} {N : Nat} (hN : N ≤ 600) (hT : ∀ k, k < N → BT (tx k) (tb k)) (hb : TxB tx) {i ex d : Nat} {w rd bd : Nat → Int} {n : Nat} (hX : XS h tb N i w ex d rd bd) (hi : i ≤ N) (hn : n < 1000000) (hd : d ≤ 2) (hE : ¬ (tKnd tx N i = 0 ∧ d = 0)) (hC : ¬ (tKnd tx N i = 5 ∧ 0 < d)) (hw : ¬ wordI tx N i = 15) : ∃ vl', (∀ res, RU 9 34 res (120, [aR 201, aI 1, aI ((n : Nat) : Int)], [], 0, 0, (sw h 202 (TO N ((tOff tx N i : Nat) : Int) ((tEnd tx N i : Nat) : Int) (kM (tKnd tx N i)) vl'))) → RU 9 34 res (35, [aR 201, aI 1, aI ((n : Nat) : Int)], [], 0, 0, h)) := by
  obtain ⟨hS, ⟨st, kd, vl, hO⟩, hB, hR, ⟨va, hV⟩, hD, hQ⟩ := hX
  obtain ⟨vl', c1, -⟩ := v_64 hN hT st kd vl i hi hO hB
  have hkb := kM_b (k := tKnd tx N i)
  have k0 : kM (tKnd tx N i) = 0 ↔ tKnd tx N i = 0 := kM_i (r := 0) (by decide) (by decide)
  have k4 : kM (tKnd tx N i) = 4 ↔ tKnd tx N i = 5 := kM_i (r := 5) (by decide) (by decide)
  have he := (tPos (tx := tx) hi).2
  have s1 : (sw h 202 (TO N ((tOff tx N i : Nat) : Int) ((tEnd tx N i : Nat) : Int) (kM (tKnd tx N i)) vl')).2.2 201 = _ := (sw_ne (by decide)).trans hS
  have o1 : (sw h 202 (TO N ((tOff tx N i : Nat) : Int) ((tEnd tx N i : Nat) : Int) (kM (tKnd tx N i)) vl')).2.2 202 = _ := sw_at _ _ _
  have b1 : (sw h 202 (TO N ((tOff tx N i : Nat) : Int) ((tEnd tx N i : Nat) : Int) (kM (tKnd tx N i)) vl')).2.2 203 = _ := (sw_ne (by decide)).trans hB
  have d1 : (sw h 202 (TO N ((tOff tx N i : Nat) : Int) ((tEnd tx N i : Nat) : Int) (kM (tKnd tx N i)) vl')).2.2 223 = _ := (sw_ne (by decide)).trans hD
  have q1 : (sw h 202 (TO N ((tOff tx N i : Nat) : Int) ((tEnd tx N i : Nat) : Int) (kM (tKnd tx N i)) vl')).2.2 224 = _ := (sw_ne (by decide)).trans hQ
  have v1 : (sw h 202 (TO N ((tOff tx N i : Nat) : Int) ((tEnd tx N i : Nat) : Int) (kM (tKnd tx N i)) vl')).2.2 222 = _ := (sw_ne (by decide)).trans hV
  have R1 : Rp (sw h 202 (TO N ((tOff tx N i : Nat) : Int) ((tEnd tx N i : Nat) : Int) (kM (tKnd tx N i)) vl')) 204 w := (NO.rf.t).rp hR
  have N1 : NO h (sw h 202 (TO N ((tOff tx N i : Nat) : Int) ((tEnd tx N i : Nat) : Int) (kM (tKnd tx N i)) vl')) := NO.rf.t
  have cw := k_71 (h := (sw h 202 (TO N ((tOff tx N i : Nat) : Int) ((tEnd tx N i : Nat) : Int) (kM (tKnd tx N i)) vl'))) hN hT i hi vl' o1 b1 19 (by decide) (by decide)
  rw [t_rep] at cw
  have hy : saysB tx N i (sT 51) = false := by cases e : saysB tx N i (sT 51); rfl; exact absurd (word_r e) hw
  refine ⟨vl', fun res hk => ?_⟩
  refine r_ild cd_34_35 rfl rfl ?_
  refine r_if51 cd_34_36 rfl ⟨by omega, by omega⟩ (fun n1 => ?_) (fun n1 => ?_)
  · exact absurd n1 (by decide)
  · refine r_ild cd_34_39 rfl rfl ?_
    refine r_con (v := 1000000) cd_34_40 rfl (by decide) ?_
    refine r_ic64 cd_34_42 rfl ⟨by omega, by omega⟩ ⟨by omega, by omega⟩ (fun n2 => ?_) (fun n2 => ?_)
    · refine r_aldR cd_34_45 rfl rfl ?_
      refine r_get cd_34_46 rfl hS rfl ?_
      refine r_cV c1 cd_34_49 rfl rfl rfl (rc0 hO rfl) rfl rfl rfl ?_
      refine r_aldR cd_34_52 rfl rfl ?_
      refine r_get cd_34_53 rfl ((sw_ne (by decide)).trans hS) rfl ?_
      refine r_get cd_34_56 rfl (sw_at _ _ _) rfl ?_
      refine r_if52 cd_34_59 rfl ⟨by omega, by omega⟩ (fun n3 => ?_) (fun n3 => ?_)
      · refine r_aldR cd_34_62 rfl rfl ?_
        refine r_get cd_34_63 rfl ((sw_ne (by decide)).trans hS) rfl ?_
        refine r_if52 cd_34_66 rfl ⟨by omega, by omega⟩ (fun n4 => ?_) (fun n4 => ?_)
        · exact absurd (And.intro (k0.mp n3) (by omega)) hE
        · refine r_aldR cd_34_74 rfl rfl ?_
          refine r_get cd_34_75 rfl ((sw_ne (by decide)).trans hS) rfl ?_
          refine r_get cd_34_78 rfl (sw_at _ _ _) rfl ?_
          refine r_con (v := 4) cd_34_81 rfl (by decide) ?_
          refine r_ic62 cd_34_82 rfl ⟨by omega, by omega⟩ ⟨by omega, by omega⟩ (fun n5 => ?_) (fun n5 => ?_)
          · refine r_aldR cd_34_85 rfl rfl ?_
            refine r_get cd_34_86 rfl ((sw_ne (by decide)).trans hS) rfl ?_
            refine r_if56 cd_34_89 rfl ⟨by omega, by omega⟩ (fun n6 => ?_) (fun n6 => ?_)
            · exact absurd (And.intro (k4.mp n5) (by omega)) hC
            · refine r_aldR cd_34_100 rfl rfl ?_
              refine r_get cd_34_101 rfl ((sw_ne (by decide)).trans hS) rfl ?_
              refine r_cst cd_34_104 rfl ?_
              refine r_cI cw cd_34_106 rfl rfl rfl (rc0 (sw_at _ _ _) rfl) rfl rfl rfl ?_
              refine r_if51b cd_34_109 rfl (fun n7 => ?_) (fun n7 => ?_)
              · exact hk
              · exact Bool.noConfusion (n7.symm.trans hy)
          · refine r_aldR cd_34_100 rfl rfl ?_
            refine r_get cd_34_101 rfl ((sw_ne (by decide)).trans hS) rfl ?_
            refine r_cst cd_34_104 rfl ?_
            refine r_cI cw cd_34_106 rfl rfl rfl (rc0 (sw_at _ _ _) rfl) rfl rfl rfl ?_
            refine r_if51b cd_34_109 rfl (fun n8 => ?_) (fun n8 => ?_)
            · exact hk
            · exact Bool.noConfusion (n8.symm.trans hy)
      · refine r_aldR cd_34_74 rfl rfl ?_
        refine r_get cd_34_75 rfl ((sw_ne (by decide)).trans hS) rfl ?_
        refine r_get cd_34_78 rfl (sw_at _ _ _) rfl ?_
        refine r_con (v := 4) cd_34_81 rfl (by decide) ?_
        refine r_ic62 cd_34_82 rfl ⟨by omega, by omega⟩ ⟨by omega, by omega⟩ (fun n9 => ?_) (fun n9 => ?_)
        · refine r_aldR cd_34_85 rfl rfl ?_
          refine r_get cd_34_86 rfl ((sw_ne (by decide)).trans hS) rfl ?_
          refine r_if56 cd_34_89 rfl ⟨by omega, by omega⟩ (fun n10 => ?_) (fun n10 => ?_)
          · exact absurd (And.intro (k4.mp n9) (by omega)) hC
          · refine r_aldR cd_34_100 rfl rfl ?_
            refine r_get cd_34_101 rfl ((sw_ne (by decide)).trans hS) rfl ?_
            refine r_cst cd_34_104 rfl ?_
            refine r_cI cw cd_34_106 rfl rfl rfl (rc0 (sw_at _ _ _) rfl) rfl rfl rfl ?_
            refine r_if51b cd_34_109 rfl (fun n11 => ?_) (fun n11 => ?_)
            · exact hk
            · exact Bool.noConfusion (n11.symm.trans hy)
        · refine r_aldR cd_34_100 rfl rfl ?_
          refine r_get cd_34_101 rfl ((sw_ne (by decide)).trans hS) rfl ?_
          refine r_cst cd_34_104 rfl ?_
          refine r_cI cw cd_34_106 rfl rfl rfl (rc0 (sw_at _ _ _) rfl) rfl rfl rfl ?_
          refine r_if51b cd_34_109 rfl (fun n12 => ?_) (fun n12 => ?_)
          · exact hk
          · exact Bool.noConfusion (n12.symm.trans hy)
    · exact absurd n2 (by omega)
/-- a command, told of the script -/
def stepA (tx : Nat → Int) (N i : Nat) (w : Nat → Int) (ex : Nat) : Rs := if wordI tx N i = -1 then .inl (1, ((tOff tx N i : Nat) : Int)) else if ex = 200 then .inl (5, ((tOff tx N i : Nat) : Int)) else bnd (cmdA (wordI tx N i) tx N (tEnd tx N i) w) fun a => .inr (a.1, a.2, ex + 1)
theorem st_cmd {h : aH} {tx tb : Nat → Int} {N : Nat} (hN : N ≤ 600) (hT : ∀ k, k < N → BT (tx k) (tb k)) (hb : TxB tx) {i ex d : Nat} {w rd bd : Nat → Int} {n : Nat} (hX : XS h tb N i w ex d rd bd) (hi : i ≤ N) (hn : n < 1000000) (hd : d ≤ 2) (hE : ¬ (tKnd tx N i = 0 ∧ d = 0)) (hC : ¬ (tKnd tx N i = 5 ∧ 0 < d)) (hw : ¬ wordI tx N i = 15) (hI : Inv w) (hx : ex ≤ 200) : match stepA tx N i w ex with
  | .inl e => ∃ h1, JP 0 n h h1 ∧ Fin N (.inl e) h h1
  | .inr a => ∃ h1, JP 1 n h h1 ∧ XS h1 tb N a.1 a.2.1 a.2.2 d rd bd ∧ NX h h1 := by
  obtain ⟨vl', hp⟩ := pre_34 hN hT hb hX hi hn hd hE hC hw
  obtain ⟨hS, ⟨st, kd, vl, hO⟩, hB, hR, ⟨va, hV⟩, hD, hQ⟩ := hX
  have hi' := hi
  have hkb := kM_b (k := tKnd tx N i)
  have k0 : kM (tKnd tx N i) = 0 ↔ tKnd tx N i = 0 := kM_i (r := 0) (by decide) (by decide)
  have k4 : kM (tKnd tx N i) = 4 ↔ tKnd tx N i = 5 := kM_i (r := 5) (by decide) (by decide)
  have he := (tPos (tx := tx) hi).2
  have s1 : (sw h 202 (TO N ((tOff tx N i : Nat) : Int) ((tEnd tx N i : Nat) : Int) (kM (tKnd tx N i)) vl')).2.2 201 = _ := (sw_ne (by decide)).trans hS
  have o1 : (sw h 202 (TO N ((tOff tx N i : Nat) : Int) ((tEnd tx N i : Nat) : Int) (kM (tKnd tx N i)) vl')).2.2 202 = _ := sw_at _ _ _
  have b1 : (sw h 202 (TO N ((tOff tx N i : Nat) : Int) ((tEnd tx N i : Nat) : Int) (kM (tKnd tx N i)) vl')).2.2 203 = _ := (sw_ne (by decide)).trans hB
  have d1 : (sw h 202 (TO N ((tOff tx N i : Nat) : Int) ((tEnd tx N i : Nat) : Int) (kM (tKnd tx N i)) vl')).2.2 223 = _ := (sw_ne (by decide)).trans hD
  have q1 : (sw h 202 (TO N ((tOff tx N i : Nat) : Int) ((tEnd tx N i : Nat) : Int) (kM (tKnd tx N i)) vl')).2.2 224 = _ := (sw_ne (by decide)).trans hQ
  have v1 : (sw h 202 (TO N ((tOff tx N i : Nat) : Int) ((tEnd tx N i : Nat) : Int) (kM (tKnd tx N i)) vl')).2.2 222 = _ := (sw_ne (by decide)).trans hV
  have R1 : Rp (sw h 202 (TO N ((tOff tx N i : Nat) : Int) ((tEnd tx N i : Nat) : Int) (kM (tKnd tx N i)) vl')) 204 w := (NO.rf.t).rp hR
  have N1 : NO h (sw h 202 (TO N ((tOff tx N i : Nat) : Int) ((tEnd tx N i : Nat) : Int) (kM (tKnd tx N i)) vl')) := NO.rf.t
  have hwb := wordI_b (tx := tx) (N := N) (i := i)
  by_cases h1 : wordI tx N i = -1
  · rw [show stepA tx N i w ex = .inl (1, ((tOff tx N i : Nat) : Int)) from if_pos h1]
    have ch := k_44b hN hT ((d : Nat) : Int) ((ex : Nat) : Int) 0 (-1) s1 i hi vl' o1 b1 h1
    have cr := v_45_n ((d : Nat) : Int) ((ex : Nat) : Int) 0 (-1) s1 N _ _ _ _ o1
    have NG : NO h (sw (sw h 202 (TO N ((tOff tx N i : Nat) : Int) ((tEnd tx N i : Nat) : Int) (kM (tKnd tx N i)) vl')) 201 (SO ((d : Nat) : Int) ((ex : Nat) : Int) 1 ((tOff tx N i : Nat) : Int))) := N1.s
    refine ⟨(sw (sw h 202 (TO N ((tOff tx N i : Nat) : Int) ((tEnd tx N i : Nat) : Int) (kM (tKnd tx N i)) vl')) 201 (SO ((d : Nat) : Int) ((ex : Nat) : Int) 1 ((tOff tx N i : Nat) : Int))), fun res hk => hp res ?_, ⟨⟨_, _, sw_at _ _ _⟩, ⟨_, _, _, _, (sw_ne (by decide)).trans o1⟩, (NG.rp hR).ex, ⟨_, (sw_ne (by decide)).trans v1⟩, ⟨_, (sw_ne (by decide)).trans d1⟩, ⟨_, (sw_ne (by decide)).trans q1⟩, NG.nx⟩⟩
    refine r_aldR cd_34_120 rfl rfl ?_
    refine r_aldR cd_34_121 rfl rfl ?_
    refine r_cI ch cd_34_122 rfl rfl rfl (rc0 ((sw_ne (by decide)).trans hS) rfl) rfl rfl rfl ?_
    refine r_cI cr cd_34_125 rfl rfl rfl (rc0 ((sw_ne (by decide)).trans hS) rfl) rfl rfl rfl ?_
    refine r_ist cd_34_128 rfl rfl (L' := [aR 201, aI 0, aI ((n : Nat) : Int)]) rfl ?_
    exact hk
  · obtain ⟨j, hj⟩ : ∃ j : Nat, wordI tx N i = (j : Int) := ⟨(wordI tx N i).toNat, by omega⟩
    have hj15 : j < 15 := by omega
    have ch := k_44a hN hT ((d : Nat) : Int) ((ex : Nat) : Int) 0 (-1) s1 i hi vl' o1 b1 j hj15 hj
    by_cases h2 : ex = 200
    · rw [show stepA tx N i w ex = .inl (5, ((tOff tx N i : Nat) : Int)) from (if_neg h1).trans (if_pos h2)]
      have cr := v_45_f ((d : Nat) : Int) ((ex : Nat) : Int) 0 (-1) s1 N _ _ _ _ o1 j hj15 (by omega) (by omega)
      have NG : NO h (sw (sw h 202 (TO N ((tOff tx N i : Nat) : Int) ((tEnd tx N i : Nat) : Int) (kM (tKnd tx N i)) vl')) 201 (SO ((d : Nat) : Int) ((ex : Nat) : Int) 5 ((tOff tx N i : Nat) : Int))) := N1.s
      refine ⟨(sw (sw h 202 (TO N ((tOff tx N i : Nat) : Int) ((tEnd tx N i : Nat) : Int) (kM (tKnd tx N i)) vl')) 201 (SO ((d : Nat) : Int) ((ex : Nat) : Int) 5 ((tOff tx N i : Nat) : Int))), fun res hk => hp res ?_, ⟨⟨_, _, sw_at _ _ _⟩, ⟨_, _, _, _, (sw_ne (by decide)).trans o1⟩, (NG.rp hR).ex, ⟨_, (sw_ne (by decide)).trans v1⟩, ⟨_, (sw_ne (by decide)).trans d1⟩, ⟨_, (sw_ne (by decide)).trans q1⟩, NG.nx⟩⟩
      refine r_aldR cd_34_120 rfl rfl ?_
      refine r_aldR cd_34_121 rfl rfl ?_
      refine r_cI ch cd_34_122 rfl rfl rfl (rc0 ((sw_ne (by decide)).trans hS) rfl) rfl rfl rfl ?_
      refine r_cI cr cd_34_125 rfl rfl rfl (rc0 ((sw_ne (by decide)).trans hS) rfl) rfl rfl rfl ?_
      refine r_ist cd_34_128 rfl rfl (L' := [aR 201, aI 0, aI ((n : Nat) : Int)]) rfl ?_
      exact hk
    · have P1 := v_45 (h := (sw h 202 (TO N ((tOff tx N i : Nat) : Int) ((tEnd tx N i : Nat) : Int) (kM (tKnd tx N i)) vl'))) hN hT ((d : Nat) : Int) ((ex : Nat) : Int) 0 (-1) s1 (by omega) (by omega) R1 hI v1 hb ((tOff tx N i : Nat) : Int) (kM (tKnd tx N i)) vl' (tEnd tx N i) he o1 b1 j hj15
      rw [← hj] at P1
      rcases hA : cmdA (wordI tx N i) tx N (tEnd tx N i) w with e | a
      · rw [hA] at P1
        obtain ⟨gc, ce, sc, tc, Xc, vc, nc⟩ := P1
        rw [show stepA tx N i w ex = .inl e from (if_neg h1).trans ((if_neg h2).trans (bnd_e hA))]
        have NG : NC h gc := N1.nc.tr nc
        refine ⟨gc, fun res hk => hp res ?_, ⟨⟨_, _, sc⟩, tc, Xc, vc, ⟨_, (NG.1 223 (by decide)).trans hD⟩, ⟨_, (NG.1 224 (by decide)).trans hQ⟩, NG.nx⟩⟩
        refine r_aldR cd_34_120 rfl rfl ?_
        refine r_aldR cd_34_121 rfl rfl ?_
        refine r_cI ch cd_34_122 rfl rfl rfl (rc0 ((sw_ne (by decide)).trans hS) rfl) rfl rfl rfl ?_
        refine r_cI ce cd_34_125 rfl rfl rfl (rc0 ((sw_ne (by decide)).trans hS) rfl) rfl rfl rfl ?_
        refine r_ist cd_34_128 rfl rfl (L' := [aR 201, aI 0, aI ((n : Nat) : Int)]) rfl ?_
        exact hk
      · rw [hA] at P1
        obtain ⟨gc, ce, sc, tc, Rc, vc, nc⟩ := P1
        rw [show stepA tx N i w ex = .inr (a.1, a.2, ex + 1) from (if_neg h1).trans ((if_neg h2).trans (bnd_r hA))]
        have NG : NC h gc := N1.nc.tr nc
        refine ⟨gc, fun res hk => hp res ?_, ⟨sc, tc, (NG.1 203 (by decide)).trans hB, Rc, vc, (NG.1 223 (by decide)).trans hD, (NG.1 224 (by decide)).trans hQ⟩, NG.nx⟩
        refine r_aldR cd_34_120 rfl rfl ?_
        refine r_aldR cd_34_121 rfl rfl ?_
        refine r_cI ch cd_34_122 rfl rfl rfl (rc0 ((sw_ne (by decide)).trans hS) rfl) rfl rfl rfl ?_
        refine r_cI ce cd_34_125 rfl rfl rfl (rc0 ((sw_ne (by decide)).trans hS) rfl) rfl rfl rfl ?_
        refine r_ist cd_34_128 rfl rfl (L' := [aR 201, aI 1, aI ((n : Nat) : Int)]) rfl ?_
        exact hk
