/-! THE REFERENCE: commands and repeats of scripts (written by wip/whole/gen34.py) -/
def Fy (s s' : Nat → Int) : Prop := (∀ j, j < 11 ∨ (12 < j ∧ j < 16) ∨ 21 ≤ j → s' j = s j) ∧ (s' 11 = 0 → s 11 = 0 ∧ s' 12 = s 12)
theorem Fy.rf {s : Nat → Int} : Fy s s := ⟨fun _ _ => rfl, fun h => ⟨h, rfl⟩⟩
theorem Fy.tr {s u v : Nat → Int} (a : Fy s u) (b : Fy u v) : Fy s v := ⟨fun j hj => (b.1 j hj).trans (a.1 j hj), fun h => ⟨(a.2 (b.2 h).1).1, (b.2 h).2.trans (a.2 (b.2 h).1).2⟩⟩
theorem Fx.y {s u : Nat → Int} (a : Fx s u) : Fy s u := ⟨fun j hj => a.1 j (by omega), a.2⟩
theorem Fy.ex {s : Nat → Int} {k : Int} : Fy s (va_up s 20 k) := ⟨fun j hj => vu_ne (by omega), fun h => ⟨h, rfl⟩⟩
theorem Fy.ps {s : Nat → Int} {k : Int} : Fy s (va_up s 18 k) := ⟨fun j hj => vu_ne (by omega), fun h => ⟨h, rfl⟩⟩
def TZ (w : Nat → Int) : Prop := ∀ j, 211 ≤ j → w j = 0
def CQ (K y : Nat) (args : List aV) (h : aH) (s : Nat → Int) (r : Rs) : Prop := match r with
  | .inl e => ∃ h' s' w' nu', Ct K y args h (.inl (some (aI 0)), h') ∧ RZ h h' s' w' nu' ∧ TZ w' ∧ s' 11 = e.1 ∧ s' 12 = e.2 ∧ Fy s s'
  | .inr a => ∃ h' s' nu', Ct K y args h (.inl (some (aI 1)), h') ∧ RZ h h' s' a.2.1 nu' ∧ s' 18 = ((a.1 : Nat) : Int) ∧ s' 11 = 0 ∧ s' 20 = ((a.2.2 : Nat) : Int) ∧ Fy s s'
def LQ (K y : Nat) (L L' : List aV) (pc pe : Nat) (h : aH) (s tx : Nat → Int) (N : Nat) (r : Rs) : Prop := match r with
  | .inl e => ∃ h' s' w' nu', RU K y (.inl (some (aI 0)), h') (pc, L, [], 0, 0, h) ∧ RZ h h' s' w' nu' ∧ TZ w' ∧ s' 11 = e.1 ∧ s' 12 = e.2 ∧ Fy s s'
  | .inr a => ∃ h' s' nu', (∀ res, RU K y res (pe, L', [], 0, 0, h') → RU K y res (pc, L, [], 0, 0, h)) ∧ RZ h h' s' a.2.1 nu' ∧ PS s' tx N a.1 ∧ s' 20 = ((a.2.2 : Nat) : Int) ∧ Fy s s'
theorem CP.lift {K K' y y' : Nat} {args args' : List aV} {h : aH} {s w : Nat → Int} {N : Nat} {r : Er ⊕ (Nat × (Nat → Int))} (c : CP K y args h s w N r) (f : ∀ v h', v = 0 ∨ v = 1 → Ct K y args h (.inl (some (aI v)), h') → Ct K' y' args' h (.inl (some (aI v)), h')) : CP K' y' args' h s w N r := by
  match r, c with
  | .inl e, ⟨h', c1, c2⟩ => exact ⟨h', f 0 h' (Or.inl rfl) c1, c2⟩
  | .inr a, ⟨h', s', nu', c1, c2⟩ => exact ⟨h', s', nu', f 1 h' (Or.inr rfl) c1, c2⟩
theorem nextZ {h : aH} {s tx : Nat → Int} {N i : Nat} (hM : h.2.2 226 = .inr (8, Mo s)) (htx : h.2.2 233 = .inl (0, 600, .inl tx)) (hb : TxB tx) (h10 : s 10 = ((N : Nat) : Int)) (h11 : s 11 = 0) (hN6 : N ≤ 600) (h18 : s 18 = ((i : Nat) : Int)) (hi : i ≤ N) : ∃ s', Ct 2 179 [aR 226] h (.inl none, sw h 226 (.inr (8, Mo s'))) ∧ PS s' tx N i ∧ Fx s s' := by
  obtain ⟨s', h1, h2, h3⟩ := c_179 hM htx hb h10 hN6 h18 hi
  exact ⟨s', h1, ⟨(h3 10 (by omega)).trans h10, (h3 11 (by omega)).trans h11, h2⟩, Fx.nx h3⟩
theorem r_191 {h : aH} {s w nu tx : Nat → Int} {N i : Nat} (hM : h.2.2 226 = .inr (8, Mo s)) (htx : h.2.2 233 = .inl (0, 600, .inl tx)) (hb : TxB tx) (hN6 : N ≤ 600) (hT : PS s tx N i) (hi : i ≤ N) (hw : h.2.2 227 = .inl (0, 211, .inl w)) (hnu : h.2.2 235 = .inl (0, 4, .inl nu)) (hI : Inv0 w) (c : Int) (hc : 0 ≤ c ∧ c < 15) : CP 9 191 [aR 226, aI c] h s w N (cmdA c tx N i w) := by
  have hc2 : c = 0 ∨ c = 1 ∨ c = 2 ∨ c = 3 ∨ c = 4 ∨ c = 5 ∨ c = 6 ∨ c = 7 ∨ c = 8 ∨ c = 9 ∨ c = 10 ∨ c = 11 ∨ c = 12 ∨ c = 13 ∨ c = 14 := by omega
  rcases hc2 with rfl | rfl | rfl | rfl | rfl | rfl | rfl | rfl | rfl | rfl | rfl | rfl | rfl | rfl | rfl
  · show CP 9 191 [aR 226, aI 0] h s w N (cRow 23 tx N i w)
    refine CP.lift (r_192 hM htx hb hN6 hT hi hw hnu hI 23 (Or.inl rfl)) (fun v h' hv hcc => ?_)
    refine Ct.of [aR 226, aI 0] rfl ?_
    refine r_ild cd_191_0 rfl rfl ?_
    refine r_tsw (t := 72) cd_191_1 ⟨by omega, by omega⟩ (by decide) ?_
    refine r_aldR cd_191_72 rfl rfl ?_
    refine r_con (v := 23) cd_191_73 rfl (by decide) ?_
    refine r_cI hcc cd_191_75 rfl rfl rfl (rc0 hM rfl) rfl rfl rfl ?_
    exact r_ret cd_191_78 hv (rfl)
  · show CP 9 191 [aR 226, aI 1] h s w N (cRow 53 tx N i w)
    refine CP.lift (r_192 hM htx hb hN6 hT hi hw hnu hI 53 (Or.inr rfl)) (fun v h' hv hcc => ?_)
    refine Ct.of [aR 226, aI 1] rfl ?_
    refine r_ild cd_191_0 rfl rfl ?_
    refine r_tsw (t := 79) cd_191_1 ⟨by omega, by omega⟩ (by decide) ?_
    refine r_aldR cd_191_79 rfl rfl ?_
    refine r_con (v := 53) cd_191_80 rfl (by decide) ?_
    refine r_cI hcc cd_191_82 rfl rfl rfl (rc0 hM rfl) rfl rfl rfl ?_
    exact r_ret cd_191_85 hv (rfl)
  · show CP 9 191 [aR 226, aI 2] h s w N (cGus tx N i w)
    refine CP.lift (r_195 hM htx hb hN6 hT hi hw hnu hI) (fun v h' hv hcc => ?_)
    refine Ct.of [aR 226, aI 2] rfl ?_
    refine r_ild cd_191_0 rfl rfl ?_
    refine r_tsw (t := 86) cd_191_1 ⟨by omega, by omega⟩ (by decide) ?_
    refine r_aldR cd_191_86 rfl rfl ?_
    refine r_cI hcc cd_191_87 rfl rfl rfl (rc0 hM rfl) rfl rfl rfl ?_
    exact r_ret cd_191_90 hv (rfl)
  · show CP 9 191 [aR 226, aI 3] h s w N (cLea tx N i w)
    refine CP.lift (r_197 hM htx hb hN6 hT hi hw hnu hI) (fun v h' hv hcc => ?_)
    refine Ct.of [aR 226, aI 3] rfl ?_
    refine r_ild cd_191_0 rfl rfl ?_
    refine r_tsw (t := 91) cd_191_1 ⟨by omega, by omega⟩ (by decide) ?_
    refine r_aldR cd_191_91 rfl rfl ?_
    refine r_cI hcc cd_191_92 rfl rfl rfl (rc0 hM rfl) rfl rfl rfl ?_
    exact r_ret cd_191_95 hv (rfl)
  · show CP 9 191 [aR 226, aI 4] h s w N (cBal tx N i w)
    refine CP.lift (r_198 hM htx hb hN6 hT hi hw hnu hI) (fun v h' hv hcc => ?_)
    refine Ct.of [aR 226, aI 4] rfl ?_
    refine r_ild cd_191_0 rfl rfl ?_
    refine r_tsw (t := 96) cd_191_1 ⟨by omega, by omega⟩ (by decide) ?_
    refine r_aldR cd_191_96 rfl rfl ?_
    refine r_cI hcc cd_191_97 rfl rfl rfl (rc0 hM rfl) rfl rfl rfl ?_
    exact r_ret cd_191_100 hv (rfl)
  · show CP 9 191 [aR 226, aI 5] h s w N (cPar tx N i w)
    refine CP.lift (r_201 hM htx hb hN6 hT hi hw hnu hI) (fun v h' hv hcc => ?_)
    refine Ct.of [aR 226, aI 5] rfl ?_
    refine r_ild cd_191_0 rfl rfl ?_
    refine r_tsw (t := 101) cd_191_1 ⟨by omega, by omega⟩ (by decide) ?_
    refine r_aldR cd_191_101 rfl rfl ?_
    refine r_cI hcc cd_191_102 rfl rfl rfl (rc0 hM rfl) rfl rfl rfl ?_
    exact r_ret cd_191_105 hv (rfl)
  · show CP 9 191 [aR 226, aI 6] h s w N (cTie tx N i w)
    refine CP.lift (r_205 hM htx hb hN6 hT hi hw hnu hI) (fun v h' hv hcc => ?_)
    refine Ct.of [aR 226, aI 6] rfl ?_
    refine r_ild cd_191_0 rfl rfl ?_
    refine r_tsw (t := 106) cd_191_1 ⟨by omega, by omega⟩ (by decide) ?_
    refine r_aldR cd_191_106 rfl rfl ?_
    refine r_cI hcc cd_191_107 rfl rfl rfl (rc0 hM rfl) rfl rfl rfl ?_
    exact r_ret cd_191_110 hv (rfl)
  · show CP 9 191 [aR 226, aI 7] h s w N (cUnt tx N i w)
    refine CP.lift (r_216 hM htx hb hN6 hT hi hw hnu hI) (fun v h' hv hcc => ?_)
    refine Ct.of [aR 226, aI 7] rfl ?_
    refine r_ild cd_191_0 rfl rfl ?_
    refine r_tsw (t := 111) cd_191_1 ⟨by omega, by omega⟩ (by decide) ?_
    refine r_aldR cd_191_111 rfl rfl ?_
    refine r_cI hcc cd_191_112 rfl rfl rfl (rc0 hM rfl) rfl rfl rfl ?_
    exact r_ret cd_191_115 hv (rfl)
  · show CP 9 191 [aR 226, aI 8] h s w N (cLau tx N i w)
    refine CP.lift (r_219 hM htx hb hN6 hT hi hw hnu hI) (fun v h' hv hcc => ?_)
    refine Ct.of [aR 226, aI 8] rfl ?_
    refine r_ild cd_191_0 rfl rfl ?_
    refine r_tsw (t := 116) cd_191_1 ⟨by omega, by omega⟩ (by decide) ?_
    refine r_aldR cd_191_116 rfl rfl ?_
    refine r_cI hcc cd_191_117 rfl rfl rfl (rc0 hM rfl) rfl rfl rfl ?_
    exact r_ret cd_191_120 hv (rfl)
  · show CP 9 191 [aR 226, aI 9] h s w N (cMoo tx N i w)
    refine CP.lift (r_223 hM htx hb hN6 hT hi hw hnu hI) (fun v h' hv hcc => ?_)
    refine Ct.of [aR 226, aI 9] rfl ?_
    refine r_ild cd_191_0 rfl rfl ?_
    refine r_tsw (t := 121) cd_191_1 ⟨by omega, by omega⟩ (by decide) ?_
    refine r_aldR cd_191_121 rfl rfl ?_
    refine r_cI hcc cd_191_122 rfl rfl rfl (rc0 hM rfl) rfl rfl rfl ?_
    exact r_ret cd_191_125 hv (rfl)
  · show CP 9 191 [aR 226, aI 10] h s w N (cFre tx N i w)
    refine CP.lift (r_225 hM htx hb hN6 hT hi hw hnu hI) (fun v h' hv hcc => ?_)
    refine Ct.of [aR 226, aI 10] rfl ?_
    refine r_ild cd_191_0 rfl rfl ?_
    refine r_tsw (t := 126) cd_191_1 ⟨by omega, by omega⟩ (by decide) ?_
    refine r_aldR cd_191_126 rfl rfl ?_
    refine r_cI hcc cd_191_127 rfl rfl rfl (rc0 hM rfl) rfl rfl rfl ?_
    exact r_ret cd_191_130 hv (rfl)
  · show CP 9 191 [aR 226, aI 11] h s w N (cFil tx N i w)
    refine CP.lift (r_230 hM htx hb hN6 hT hi hw hnu hI) (fun v h' hv hcc => ?_)
    refine Ct.of [aR 226, aI 11] rfl ?_
    refine r_ild cd_191_0 rfl rfl ?_
    refine r_tsw (t := 131) cd_191_1 ⟨by omega, by omega⟩ (by decide) ?_
    refine r_aldR cd_191_131 rfl rfl ?_
    refine r_cI hcc cd_191_132 rfl rfl rfl (rc0 hM rfl) rfl rfl rfl ?_
    exact r_ret cd_191_135 hv (rfl)
  · show CP 9 191 [aR 226, aI 12] h s w N (cGas tx N i w)
    refine CP.lift (r_233 hM htx hb hN6 hT hi hw hnu hI) (fun v h' hv hcc => ?_)
    refine Ct.of [aR 226, aI 12] rfl ?_
    refine r_ild cd_191_0 rfl rfl ?_
    refine r_tsw (t := 136) cd_191_1 ⟨by omega, by omega⟩ (by decide) ?_
    refine r_aldR cd_191_136 rfl rfl ?_
    refine r_cI hcc cd_191_137 rfl rfl rfl (rc0 hM rfl) rfl rfl rfl ?_
    exact r_ret cd_191_140 hv (rfl)
  · show CP 9 191 [aR 226, aI 13] h s w N (cClm tx N i w)
    refine CP.lift (r_234 hM htx hb hN6 hT hi hw hnu hI) (fun v h' hv hcc => ?_)
    refine Ct.of [aR 226, aI 13] rfl ?_
    refine r_ild cd_191_0 rfl rfl ?_
    refine r_tsw (t := 141) cd_191_1 ⟨by omega, by omega⟩ (by decide) ?_
    refine r_aldR cd_191_141 rfl rfl ?_
    refine r_cI hcc cd_191_142 rfl rfl rfl (rc0 hM rfl) rfl rfl rfl ?_
    exact r_ret cd_191_145 hv (rfl)
  · show CP 9 191 [aR 226, aI 14] h s w N (cHrs tx N i w)
    refine CP.lift (r_240 hM htx hb hN6 hT hi hw hnu hI) (fun v h' hv hcc => ?_)
    refine Ct.of [aR 226, aI 14] rfl ?_
    refine r_ild cd_191_0 rfl rfl ?_
    refine r_tsw (t := 146) cd_191_1 ⟨by omega, by omega⟩ (by decide) ?_
    refine r_aldR cd_191_146 rfl rfl ?_
    refine r_cI hcc cd_191_147 rfl rfl rfl (rc0 hM rfl) rfl rfl rfl ?_
    exact r_ret cd_191_150 hv (rfl)
/-- a repeat from its number on -/
def repG' (B : Nat → (Nat → Int) → Nat → Rs) (tx : Nat → Int) (N i : Nat) (w : Nat → Int) (ex : Nat) : Rs :=
  bnd (numA tx N i 1 20) fun a => if tKnd tx N a.2 = 4 then (bnd (rndG B (tEnd tx N a.2) a.1 (tEnd tx N a.2) w ex) fun b => if tKnd tx N (tEnd tx N b.1) = 1 then .inr (tEnd tx N (tEnd tx N b.1), b.2) else .inl (1, ((tOff tx N (tEnd tx N b.1) : Nat) : Int))) else .inl (1, ((tOff tx N a.2 : Nat) : Int))
theorem q_187_0 {h : aH} {s w nu tx : Nat → Int} {N i ex : Nat} (hM : h.2.2 226 = .inr (8, Mo s)) (htx : h.2.2 233 = .inl (0, 600, .inl tx)) (hb : TxB tx) (hN6 : N ≤ 600) (hT : PS s tx N i) (hi : i ≤ N) (hw : h.2.2 227 = .inl (0, 211, .inl w)) (hnu : h.2.2 235 = .inl (0, 4, .inl nu)) (hI : Inv w) (hx : s 20 = ((ex : Nat) : Int)) (hx2 : ex ≤ 200) : CQ 10 187 [aR 226, aI 2] h s (cmdG (deepR tx N 0) tx N i w ex) := by
  have wb := wordI_b (tx := tx) (N := N) (i := i)
  have hWR : inR (wordI tx N i) := ⟨by omega, by omega⟩
  by_cases h1 : wordI tx N i = -1
  · rw [show cmdG (deepR tx N 0) tx N i w ex = .inl (1, ((tOff tx N i : Nat) : Int)) by unfold cmdG; rw [if_pos h1]]
    refine ⟨sw h 226 (.inr (8, Mo (erS s 1))), erS s 1, w, nu, Ct.of [aR 226, aI 2, aU] rfl ?_, (RZ.rf hM hw hnu).s, hI.1.tail, (vu_ne (by decide)).trans (vu_at _ _ _), (vu_at _ _ _).trans hT.2.2.2.1, (Fx.er (by decide)).y⟩
    refine r_aldR cd_187_0 rfl rfl ?_
    refine r_cI (c_188 hM htx hb hN6 hT hi) cd_187_1 rfl rfl rfl (rc0 hM rfl) rfl rfl rfl ?_
    refine r_ist cd_187_4 rfl rfl (L' := [aR 226, aI 2, aI (wordI tx N i)]) rfl ?_
    refine r_ild cd_187_5 rfl rfl ?_
    refine r_con (v := (-1)) cd_187_6 rfl (by decide) ?_
    refine r_ic62 cd_187_7 rfl hWR ⟨by omega, by omega⟩ (fun n1 => ?_) (fun n1 => ?_)
    · refine r_aldR cd_187_10 rfl rfl ?_
      refine r_con (v := 1) cd_187_11 rfl (by decide) ?_
      refine r_cI (c_183 hM hT.2.1 1) cd_187_12 rfl rfl rfl (rc0 hM rfl) rfl rfl rfl ?_
      exact r_ret cd_187_15 (Or.inl rfl) (rfl)
    · exact absurd h1 n1
  have hp1 := tPos1 (tx := tx) hi (by rw [wb.2.2 h1]; decide)
  obtain ⟨s1, hcN, t1, f1⟩ := nextZ hM htx hb hT.1 hT.2.1 hN6 hT.2.2.2.2.1 hp1.2
  by_cases h2 : wordI tx N i = 15
  · rw [show cmdG (deepR tx N 0) tx N i w ex = deepR tx N 0 i w ex by unfold cmdG; rw [if_neg h1, if_pos h2]]
    show CQ _ _ _ _ _ (.inl (4, ((tOff tx N i : Nat) : Int)))
    refine ⟨sw h 226 (.inr (8, Mo (erS s 4))), erS s 4, w, nu, Ct.of [aR 226, aI 2, aU] rfl ?_, (RZ.rf hM hw hnu).s, hI.1.tail, (vu_ne (by decide)).trans (vu_at _ _ _), (vu_at _ _ _).trans hT.2.2.2.1, (Fx.er (by decide)).y⟩
    refine r_aldR cd_187_0 rfl rfl ?_
    refine r_cI (c_188 hM htx hb hN6 hT hi) cd_187_1 rfl rfl rfl (rc0 hM rfl) rfl rfl rfl ?_
    refine r_ist cd_187_4 rfl rfl (L' := [aR 226, aI 2, aI (wordI tx N i)]) rfl ?_
    refine r_ild cd_187_5 rfl rfl ?_
    refine r_con (v := (-1)) cd_187_6 rfl (by decide) ?_
    refine r_ic62 cd_187_7 rfl hWR ⟨by omega, by omega⟩ (fun n1 => ?_) (fun n1 => ?_)
    · exact absurd n1 h1
    · refine r_ild cd_187_16 rfl rfl ?_
      refine r_con (v := 15) cd_187_17 rfl (by decide) ?_
      refine r_ic62 cd_187_19 rfl hWR ⟨by omega, by omega⟩ (fun n2 => ?_) (fun n2 => ?_)
      · refine r_ild cd_187_22 rfl rfl ?_
        refine r_con (v := 2) cd_187_23 rfl (by decide) ?_
        refine r_ic62 cd_187_24 rfl ⟨by omega, by omega⟩ ⟨by omega, by omega⟩ (fun n3 => ?_) (fun n3 => ?_)
        · refine r_aldR cd_187_27 rfl rfl ?_
          refine r_con (v := 4) cd_187_28 rfl (by decide) ?_
          refine r_cI (c_183 hM hT.2.1 4) cd_187_29 rfl rfl rfl (rc0 hM rfl) rfl rfl rfl ?_
          exact r_ret cd_187_32 (Or.inl rfl) (rfl)
        · exact absurd rfl n3
      · exact absurd h2 n2
  by_cases h3 : ex = 200
  · rw [show cmdG (deepR tx N 0) tx N i w ex = .inl (5, ((tOff tx N i : Nat) : Int)) by unfold cmdG; rw [if_neg h1, if_neg h2, if_pos h3]]
    refine ⟨sw h 226 (.inr (8, Mo (erS s 5))), erS s 5, w, nu, Ct.of [aR 226, aI 2, aU] rfl ?_, (RZ.rf hM hw hnu).s, hI.1.tail, (vu_ne (by decide)).trans (vu_at _ _ _), (vu_at _ _ _).trans hT.2.2.2.1, (Fx.er (by decide)).y⟩
    refine r_aldR cd_187_0 rfl rfl ?_
    refine r_cI (c_188 hM htx hb hN6 hT hi) cd_187_1 rfl rfl rfl (rc0 hM rfl) rfl rfl rfl ?_
    refine r_ist cd_187_4 rfl rfl (L' := [aR 226, aI 2, aI (wordI tx N i)]) rfl ?_
    refine r_ild cd_187_5 rfl rfl ?_
    refine r_con (v := (-1)) cd_187_6 rfl (by decide) ?_
    refine r_ic62 cd_187_7 rfl hWR ⟨by omega, by omega⟩ (fun n1 => ?_) (fun n1 => ?_)
    · exact absurd n1 h1
    · refine r_ild cd_187_16 rfl rfl ?_
      refine r_con (v := 15) cd_187_17 rfl (by decide) ?_
      refine r_ic62 cd_187_19 rfl hWR ⟨by omega, by omega⟩ (fun n2 => ?_) (fun n2 => ?_)
      · exact absurd n2 h2
      · refine r_aldR cd_187_43 rfl rfl ?_
        refine r_get (v := aI ((ex : Nat) : Int)) cd_187_44 rfl hM (by rw [← hx]; rfl) ?_
        refine r_con (v := 200) cd_187_47 rfl (by decide) ?_
        refine r_ic62 cd_187_50 rfl ⟨by omega, by omega⟩ ⟨by omega, by omega⟩ (fun n3 => ?_) (fun n3 => ?_)
        · refine r_aldR cd_187_53 rfl rfl ?_
          refine r_con (v := 5) cd_187_54 rfl (by decide) ?_
          refine r_cI (c_183 hM hT.2.1 5) cd_187_55 rfl rfl rfl (rc0 hM rfl) rfl rfl rfl ?_
          exact r_ret cd_187_58 (Or.inl rfl) (rfl)
        · exact absurd n3 (by omega)
  obtain ⟨s2, hcM, t2, f2⟩ := nextZ (h := sw h 226 (.inr (8, Mo (va_up s 20 ((ex + 1 : Nat) : Int))))) (sw_at _ _ _) ((sw_ne (by decide)).trans htx) hb ((vu_ne (by decide)).trans hT.1) ((vu_ne (by decide)).trans hT.2.1) hN6 ((vu_ne (by decide)).trans hT.2.2.2.2.1) hp1.2
  have e20 : s2 20 = ((ex + 1 : Nat) : Int) := (f2.1 20 (by omega)).trans (vu_at _ _ _)
  rw [sw_sw] at hcM
  have hQ := r_191 (h := sw h 226 (.inr (8, Mo s2))) (sw_at _ _ _) ((sw_ne (by decide)).trans htx) hb hN6 t2 hp1.2 ((sw_ne (by decide)).trans hw) ((sw_ne (by decide)).trans hnu) hI.1 (wordI tx N i) (by omega)
  have r2 : RZ h (sw h 226 (.inr (8, Mo s2))) s2 w nu := (RZ.rf hM hw hnu).s
  rcases hD : cmdA (wordI tx N i) tx N (tEnd tx N i) w with e | ⟨j, u⟩
  · rw [show cmdG (deepR tx N 0) tx N i w ex = .inl e by unfold cmdG; rw [if_neg h1, if_neg h2, if_neg h3, hD]; rfl]
    rw [hD] at hQ
    obtain ⟨h4, c4, s4, nu4, z4, e41, e42, f4⟩ := hQ
    refine ⟨h4, s4, w, nu4, Ct.of [aR 226, aI 2, aU] rfl ?_, r2.tr z4, hI.1.tail, e41, e42, (Fy.ex.tr f2.y).tr f4.y⟩
    refine r_aldR cd_187_0 rfl rfl ?_
    refine r_cI (c_188 hM htx hb hN6 hT hi) cd_187_1 rfl rfl rfl (rc0 hM rfl) rfl rfl rfl ?_
    refine r_ist cd_187_4 rfl rfl (L' := [aR 226, aI 2, aI (wordI tx N i)]) rfl ?_
    refine r_ild cd_187_5 rfl rfl ?_
    refine r_con (v := (-1)) cd_187_6 rfl (by decide) ?_
    refine r_ic62 cd_187_7 rfl hWR ⟨by omega, by omega⟩ (fun n1 => ?_) (fun n1 => ?_)
    · exact absurd n1 h1
    · refine r_ild cd_187_16 rfl rfl ?_
      refine r_con (v := 15) cd_187_17 rfl (by decide) ?_
      refine r_ic62 cd_187_19 rfl hWR ⟨by omega, by omega⟩ (fun n2 => ?_) (fun n2 => ?_)
      · exact absurd n2 h2
      · refine r_aldR cd_187_43 rfl rfl ?_
        refine r_get (v := aI ((ex : Nat) : Int)) cd_187_44 rfl hM (by rw [← hx]; rfl) ?_
        refine r_con (v := 200) cd_187_47 rfl (by decide) ?_
        refine r_ic62 cd_187_50 rfl ⟨by omega, by omega⟩ ⟨by omega, by omega⟩ (fun n3 => ?_) (fun n3 => ?_)
        · exact absurd n3 (by omega)
        · refine r_aldR cd_187_59 rfl rfl ?_
          refine r_dup cd_187_60 rfl rfl ?_
          refine r_get (v := aI ((ex : Nat) : Int)) cd_187_61 rfl hM (by rw [← hx]; rfl) ?_
          refine r_con (v := 1) cd_187_64 rfl (by decide) ?_
          refine r_add (v := ((ex + 1 : Nat) : Int)) cd_187_65 rfl (by omega) ?_
          refine r_put (fs' := Mo (va_up s 20 ((ex + 1 : Nat) : Int))) cd_187_66 rfl hM rfl rfl ?_
          refine r_aldR cd_187_69 rfl rfl ?_
          refine r_cV hcM cd_187_70 rfl rfl rfl (rc0 (sw_at _ _ _) rfl) rfl rfl rfl ?_
          refine r_aldR cd_187_73 rfl rfl ?_
          refine r_ild cd_187_74 rfl rfl ?_
          refine r_cI c4 cd_187_75 rfl rfl rfl (rc0 (sw_at _ _ _) rfl) rfl rfl rfl ?_
          exact r_ret cd_187_78 (Or.inl rfl) (rfl)
  · rw [show cmdG (deepR tx N 0) tx N i w ex = .inr (j, u, ex + 1) by unfold cmdG; rw [if_neg h1, if_neg h2, if_neg h3, hD]; rfl]
    rw [hD] at hQ
    obtain ⟨h4, s4, nu4, c4, z4, e41, e42, e43, e44, f4⟩ := hQ
    refine ⟨h4, s4, nu4, Ct.of [aR 226, aI 2, aU] rfl ?_, r2.tr z4, e41, e43, (f4.1 20 (by omega)).trans e20, (Fy.ex.tr f2.y).tr f4.y⟩
    refine r_aldR cd_187_0 rfl rfl ?_
    refine r_cI (c_188 hM htx hb hN6 hT hi) cd_187_1 rfl rfl rfl (rc0 hM rfl) rfl rfl rfl ?_
    refine r_ist cd_187_4 rfl rfl (L' := [aR 226, aI 2, aI (wordI tx N i)]) rfl ?_
    refine r_ild cd_187_5 rfl rfl ?_
    refine r_con (v := (-1)) cd_187_6 rfl (by decide) ?_
    refine r_ic62 cd_187_7 rfl hWR ⟨by omega, by omega⟩ (fun n1 => ?_) (fun n1 => ?_)
    · exact absurd n1 h1
    · refine r_ild cd_187_16 rfl rfl ?_
      refine r_con (v := 15) cd_187_17 rfl (by decide) ?_
      refine r_ic62 cd_187_19 rfl hWR ⟨by omega, by omega⟩ (fun n2 => ?_) (fun n2 => ?_)
      · exact absurd n2 h2
      · refine r_aldR cd_187_43 rfl rfl ?_
        refine r_get (v := aI ((ex : Nat) : Int)) cd_187_44 rfl hM (by rw [← hx]; rfl) ?_
        refine r_con (v := 200) cd_187_47 rfl (by decide) ?_
        refine r_ic62 cd_187_50 rfl ⟨by omega, by omega⟩ ⟨by omega, by omega⟩ (fun n3 => ?_) (fun n3 => ?_)
        · exact absurd n3 (by omega)
        · refine r_aldR cd_187_59 rfl rfl ?_
          refine r_dup cd_187_60 rfl rfl ?_
          refine r_get (v := aI ((ex : Nat) : Int)) cd_187_61 rfl hM (by rw [← hx]; rfl) ?_
          refine r_con (v := 1) cd_187_64 rfl (by decide) ?_
          refine r_add (v := ((ex + 1 : Nat) : Int)) cd_187_65 rfl (by omega) ?_
          refine r_put (fs' := Mo (va_up s 20 ((ex + 1 : Nat) : Int))) cd_187_66 rfl hM rfl rfl ?_
          refine r_aldR cd_187_69 rfl rfl ?_
          refine r_cV hcM cd_187_70 rfl rfl rfl (rc0 (sw_at _ _ _) rfl) rfl rfl rfl ?_
          refine r_aldR cd_187_73 rfl rfl ?_
          refine r_ild cd_187_74 rfl rfl ?_
          refine r_cI c4 cd_187_75 rfl rfl rfl (rc0 (sw_at _ _ _) rfl) rfl rfl rfl ?_
          exact r_ret cd_187_78 (Or.inr rfl) (rfl)
section
variable {a b0 k : Nat}
theorem lc_190_1 {tx : Nat → Int} {N : Nat} (hb : TxB tx) (hN6 : N ≤ 600) (Lq : List aV) (hLq : Lq = [aR 226, aI 1, aI ((a : Nat) : Int), aI ((b0 : Nat) : Int), aI ((k : Nat) : Int)]) : ∀ (f : Nat) {h : aH} {s w nu : Nat → Int} {i ex : Nat}, h.2.2 226 = .inr (8, Mo s) → h.2.2 233 = .inl (0, 600, .inl tx) → PS s tx N i → i ≤ N → h.2.2 227 = .inl (0, 211, .inl w) → h.2.2 235 = .inl (0, 4, .inl nu) → Inv w → s 20 = ((ex : Nat) : Int) → ex ≤ 200 → N + 1 - i ≤ f → LQ 11 190 Lq Lq 51 78 h s tx N (loopG 5 (deepR tx N 0) tx N f i w ex)
  | 0, h, s, w, nu, i, ex, hM, htx, hT, hi, hw, hnu, hI, hx, hx2, hf => by omega
  | f + 1, h, s, w, nu, i, ex, hM, htx, hT, hi, hw, hnu, hI, hx, hx2, hf => by
    subst hLq
    by_cases hk : tKnd tx N i = 5
    · rw [show loopG 5 (deepR tx N 0) tx N (f + 1) i w ex = .inr (i, w, ex) by unfold loopG; rw [if_pos hk]]
      refine ⟨h, s, nu, fun res k => ?_, RZ.rf hM hw hnu, hT, hx, Fy.rf⟩
      refine r_aldR cd_190_51 rfl rfl ?_
      refine r_get (v := aI (tKnd tx N i)) cd_190_52 rfl hM (by rw [← hT.2.2.1]; rfl) ?_
      refine r_con (v := 5) cd_190_55 rfl (by decide) ?_
      refine r_ic61 cd_190_56 rfl (inR_of (tKnd_b (tx := tx) (N := N) (i := i)) (by decide) (by decide)) ⟨by omega, by omega⟩ (fun n1 => ?_) (fun n1 => ?_)
      · exact k
      · exact absurd hk n1
    have hQ := q_187_0 hM htx hb hN6 hT hi hw hnu hI hx hx2
    have hG := good_cmd (R := deepR tx N 0) (tx := tx) (good_deep hi hI hx2) hi hI hx2
    rcases hD : cmdG (deepR tx N 0) tx N i w ex with e | ⟨j, u, ey⟩
    · rw [show loopG 5 (deepR tx N 0) tx N (f + 1) i w ex = .inl e by rw [loop_s, if_neg hk, hD]; rfl]
      rw [hD] at hQ
      obtain ⟨h3, s3, w3, nu3, c3, z3, y3, e31, e32, f3⟩ := hQ
      refine ⟨h3, s3, w3, nu3, ?_, z3, y3, e31, e32, f3⟩
      refine r_aldR cd_190_51 rfl rfl ?_
      refine r_get (v := aI (tKnd tx N i)) cd_190_52 rfl hM (by rw [← hT.2.2.1]; rfl) ?_
      refine r_con (v := 5) cd_190_55 rfl (by decide) ?_
      refine r_ic61 cd_190_56 rfl (inR_of (tKnd_b (tx := tx) (N := N) (i := i)) (by decide) (by decide)) ⟨by omega, by omega⟩ (fun n1 => ?_) (fun n1 => ?_)
      · exact absurd n1 hk
      · refine r_aldR cd_190_59 rfl rfl ?_
        refine r_ild cd_190_60 rfl rfl ?_
        refine r_con (v := 1) cd_190_61 rfl (by decide) ?_
        refine r_add (v := 2) cd_190_62 rfl (by omega) ?_
        refine r_cI c3 cd_190_63 rfl rfl rfl (rc0 hM rfl) rfl rfl rfl ?_
        refine r_if52 cd_190_66 rfl ⟨by omega, by omega⟩ (fun n2 => ?_) (fun n2 => ?_)
        · refine r_con (v := 0) cd_190_69 rfl (by decide) ?_
          exact r_ret cd_190_70 (Or.inl rfl) (rfl)
        · exact absurd n2 (by decide)
    · rw [show loopG 5 (deepR tx N 0) tx N (f + 1) i w ex = loopG 5 (deepR tx N 0) tx N f j u ey by rw [loop_s, if_neg hk, hD]; rfl]
      rw [hD] at hQ hG
      obtain ⟨g1, g2, g3, g4⟩ := hG
      simp only at g1 g2 g3 g4
      obtain ⟨h3, s3, nu3, c3, z3, e31, e32, e33, f3⟩ := hQ
      simp only at z3 e31 e33
      have htx3 := (z3.2.2.2.1 233 (by decide) (by decide) (by decide)).trans htx
      obtain ⟨s4, hcN, t4, f4⟩ := nextZ z3.1 htx3 hb ((f3.1 10 (by omega)).trans hT.1) e32 hN6 e31 g2
      have z4 : RZ h (sw h3 226 (.inr (8, Mo s4))) s4 u nu3 := z3.s
      have hstep : ∀ res, RU 11 190 res (51, [aR 226, aI 1, aI ((a : Nat) : Int), aI ((b0 : Nat) : Int), aI ((k : Nat) : Int)], [], 0, 0, sw h3 226 (.inr (8, Mo s4))) → RU 11 190 res (51, [aR 226, aI 1, aI ((a : Nat) : Int), aI ((b0 : Nat) : Int), aI ((k : Nat) : Int)], [], 0, 0, h) := by
        intro res k
        refine r_aldR cd_190_51 rfl rfl ?_
        refine r_get (v := aI (tKnd tx N i)) cd_190_52 rfl hM (by rw [← hT.2.2.1]; rfl) ?_
        refine r_con (v := 5) cd_190_55 rfl (by decide) ?_
        refine r_ic61 cd_190_56 rfl (inR_of (tKnd_b (tx := tx) (N := N) (i := i)) (by decide) (by decide)) ⟨by omega, by omega⟩ (fun n1 => ?_) (fun n1 => ?_)
        · exact absurd n1 hk
        · refine r_aldR cd_190_59 rfl rfl ?_
          refine r_ild cd_190_60 rfl rfl ?_
          refine r_con (v := 1) cd_190_61 rfl (by decide) ?_
          refine r_add (v := 2) cd_190_62 rfl (by omega) ?_
          refine r_cI c3 cd_190_63 rfl rfl rfl (rc0 hM rfl) rfl rfl rfl ?_
          refine r_if52 cd_190_66 rfl ⟨by omega, by omega⟩ (fun n2 => ?_) (fun n2 => ?_)
          · exact absurd n2 (by decide)
          · refine r_aldR cd_190_71 rfl rfl ?_
            refine r_cV hcN cd_190_72 rfl rfl rfl (rc0 z3.1 rfl) rfl rfl rfl ?_
            refine r_goto cd_190_75 ?_
            exact k
      have ih := lc_190_1 hb hN6 [aR 226, aI 1, aI ((a : Nat) : Int), aI ((b0 : Nat) : Int), aI ((k : Nat) : Int)] rfl f (h := sw h3 226 (.inr (8, Mo s4))) (sw_at _ _ _) ((sw_ne (by decide)).trans htx3) t4 g2 z4.2.1 z4.2.2.1 g3 ((f4.1 20 (by omega)).trans e33) g4 (by omega)
      rcases hE : loopG 5 (deepR tx N 0) tx N f j u ey with e | ⟨j5, u5, ey5⟩
      · rw [hE] at ih
        obtain ⟨h5, s5, w5, nu5, c5, z5, y5, e51, e52, f5⟩ := ih
        exact ⟨h5, s5, w5, nu5, hstep _ c5, z4.tr z5, y5, e51, e52, (f3.tr f4.y).tr f5⟩
      · rw [hE] at ih
        obtain ⟨h5, s5, nu5, c5, z5, e51, e52, f5⟩ := ih
        exact ⟨h5, s5, nu5, fun res k => hstep _ (c5 res k), z4.tr z5, e51, e52, (f3.tr f4.y).tr f5⟩
end
theorem lr_190_1 {tx : Nat → Int} {N a b0 : Nat} (hb : TxB tx) (hN6 : N ≤ 600) (hb0 : b0 ≤ N) (ha : a ≤ 20) : ∀ (t k j : Nat) {h : aH} {s w nu : Nat → Int} {ex : Nat}, k + (t + 1) = a → h.2.2 226 = .inr (8, Mo s) → h.2.2 233 = .inl (0, 600, .inl tx) → s 10 = ((N : Nat) : Int) → s 11 = 0 → h.2.2 227 = .inl (0, 211, .inl w) → h.2.2 235 = .inl (0, 4, .inl nu) → Inv w → s 20 = ((ex : Nat) : Int) → ex ≤ 200 → LQ 11 190 [aR 226, aI 1, aI ((a : Nat) : Int), aI ((b0 : Nat) : Int), aI ((k : Nat) : Int)] [aR 226, aI 1, aI ((a : Nat) : Int), aI ((b0 : Nat) : Int), aI ((a : Nat) : Int)] 36 84 h s tx N (rndG (loopG 5 (deepR tx N 0) tx N (N + 1)) b0 (t + 1) j w ex) := by
  intro t
  induction t with
  | zero =>
    intro k j h s w nu ex hka hM htx h10 h11 hw hnu hI hx hx2
    have hstep0 : ∀ s1 res, Ct 2 179 [aR 226] (sw h 226 (.inr (8, Mo (va_up s 18 ((b0 : Nat) : Int))))) (.inl none, sw (sw h 226 (.inr (8, Mo (va_up s 18 ((b0 : Nat) : Int))))) 226 (.inr (8, Mo s1))) → RU 11 190 res (51, [aR 226, aI 1, aI ((a : Nat) : Int), aI ((b0 : Nat) : Int), aI ((k : Nat) : Int)], [], 0, 0, sw h 226 (.inr (8, Mo s1))) → RU 11 190 res (36, [aR 226, aI 1, aI ((a : Nat) : Int), aI ((b0 : Nat) : Int), aI ((k : Nat) : Int)], [], 0, 0, h) := by
      intro s1 res hcN hk9
      rw [sw_sw] at hcN
      refine r_ild cd_190_36 rfl rfl ?_
      refine r_ild cd_190_38 rfl rfl ?_
      refine r_ic64 cd_190_39 rfl ⟨by omega, by omega⟩ ⟨by omega, by omega⟩ (fun n1 => ?_) (fun n1 => ?_)
      · refine r_aldR cd_190_42 rfl rfl ?_
        refine r_ild cd_190_43 rfl rfl ?_
        refine r_put (fs' := Mo (va_up s 18 ((b0 : Nat) : Int))) cd_190_44 rfl hM rfl rfl ?_
        refine r_aldR cd_190_47 rfl rfl ?_
        refine r_cV hcN cd_190_48 rfl rfl rfl (rc0 (sw_at _ _ _) rfl) rfl rfl rfl ?_
        exact hk9
      · exact absurd n1 (by omega)
    obtain ⟨s1, hcN, t1, f1⟩ := nextZ (h := sw h 226 (.inr (8, Mo (va_up s 18 ((b0 : Nat) : Int))))) (sw_at _ _ _) ((sw_ne (by decide)).trans htx) hb ((vu_ne (by decide)).trans h10) ((vu_ne (by decide)).trans h11) hN6 (vu_at _ _ _) hb0
    have z1 : RZ h (sw h 226 (.inr (8, Mo s1))) s1 w nu := (RZ.rf hM hw hnu).s
    have e20 : s1 20 = ((ex : Nat) : Int) := (f1.1 20 (by omega)).trans ((vu_ne (by decide)).trans hx)
    have hB := lc_190_1 (a := a) (b0 := b0) (k := k) hb hN6 _ rfl (N + 1) (h := sw h 226 (.inr (8, Mo s1))) (sw_at _ _ _) ((sw_ne (by decide)).trans htx) t1 hb0 z1.2.1 z1.2.2.1 hI e20 hx2 (by omega)
    have hG := good_loop (stop := 5) (R := deepR tx N 0) (tx := tx) (N := N) (fun g1 g2 g3 g4 => good_deep g1 g2 g3 g4) (f := N + 1) (i := b0) (w := w) (ex := ex) (by omega) hb0 hI hx2
    rcases hD : loopG 5 (deepR tx N 0) tx N (N + 1) b0 w ex with e | ⟨j2, u, ey⟩
    · rw [show rndG (loopG 5 (deepR tx N 0) tx N (N + 1)) b0 (0 + 1) j w ex = .inl e by unfold rndG; rw [hD]; rfl]
      rw [hD] at hB
      obtain ⟨h5, s5, w5, nu5, c5, z5, y5, e51, e52, f5⟩ := hB
      exact ⟨h5, s5, w5, nu5, hstep0 _ _ hcN c5, z1.tr z5, y5, e51, e52, (Fy.ps.tr f1.y).tr f5⟩
    · rw [show rndG (loopG 5 (deepR tx N 0) tx N (N + 1)) b0 (0 + 1) j w ex = rndG (loopG 5 (deepR tx N 0) tx N (N + 1)) b0 0 j2 u ey by rw [rnd_s, hD]; rfl]
      rw [hD] at hB hG
      obtain ⟨g1, g2, g3, g4⟩ := hG
      simp only at g1 g2 g3 g4
      obtain ⟨h5, s5, nu5, c5, z5, e51, e52, f5⟩ := hB
      simp only at z5 e51 e52
      have z6 := z1.tr z5
      have hstep1 : ∀ res, RU 11 190 res (36, [aR 226, aI 1, aI ((a : Nat) : Int), aI ((b0 : Nat) : Int), aI ((k + 1 : Nat) : Int)], [], 0, 0, h5) → RU 11 190 res (36, [aR 226, aI 1, aI ((a : Nat) : Int), aI ((b0 : Nat) : Int), aI ((k : Nat) : Int)], [], 0, 0, h) := by
        intro res hk9
        refine hstep0 _ _ hcN (c5 _ ?_)
        refine r_inc (v := ((k + 1 : Nat) : Int)) cd_190_78 rfl rfl rfl (by omega) (L' := [aR 226, aI 1, aI ((a : Nat) : Int), aI ((b0 : Nat) : Int), aI ((k + 1 : Nat) : Int)]) rfl ?_
        refine r_goto cd_190_81 ?_
        exact hk9
      refine ⟨h5, s5, nu5, fun res hk9 => ?_, z6, e51, e52, (Fy.ps.tr f1.y).tr f5⟩
      refine hstep1 _ ?_
      refine r_ild cd_190_36 rfl rfl ?_
      refine r_ild cd_190_38 rfl rfl ?_
      refine r_ic64 cd_190_39 rfl ⟨by omega, by omega⟩ ⟨by omega, by omega⟩ (fun n1 => ?_) (fun n1 => ?_)
      · exact absurd n1 (by omega)
      · rw [show k + 1 = a by omega]
        exact hk9
  | succ t ih =>
    intro k j h s w nu ex hka hM htx h10 h11 hw hnu hI hx hx2
    have hstep0 : ∀ s1 res, Ct 2 179 [aR 226] (sw h 226 (.inr (8, Mo (va_up s 18 ((b0 : Nat) : Int))))) (.inl none, sw (sw h 226 (.inr (8, Mo (va_up s 18 ((b0 : Nat) : Int))))) 226 (.inr (8, Mo s1))) → RU 11 190 res (51, [aR 226, aI 1, aI ((a : Nat) : Int), aI ((b0 : Nat) : Int), aI ((k : Nat) : Int)], [], 0, 0, sw h 226 (.inr (8, Mo s1))) → RU 11 190 res (36, [aR 226, aI 1, aI ((a : Nat) : Int), aI ((b0 : Nat) : Int), aI ((k : Nat) : Int)], [], 0, 0, h) := by
      intro s1 res hcN hk9
      rw [sw_sw] at hcN
      refine r_ild cd_190_36 rfl rfl ?_
      refine r_ild cd_190_38 rfl rfl ?_
      refine r_ic64 cd_190_39 rfl ⟨by omega, by omega⟩ ⟨by omega, by omega⟩ (fun n1 => ?_) (fun n1 => ?_)
      · refine r_aldR cd_190_42 rfl rfl ?_
        refine r_ild cd_190_43 rfl rfl ?_
        refine r_put (fs' := Mo (va_up s 18 ((b0 : Nat) : Int))) cd_190_44 rfl hM rfl rfl ?_
        refine r_aldR cd_190_47 rfl rfl ?_
        refine r_cV hcN cd_190_48 rfl rfl rfl (rc0 (sw_at _ _ _) rfl) rfl rfl rfl ?_
        exact hk9
      · exact absurd n1 (by omega)
    obtain ⟨s1, hcN, t1, f1⟩ := nextZ (h := sw h 226 (.inr (8, Mo (va_up s 18 ((b0 : Nat) : Int))))) (sw_at _ _ _) ((sw_ne (by decide)).trans htx) hb ((vu_ne (by decide)).trans h10) ((vu_ne (by decide)).trans h11) hN6 (vu_at _ _ _) hb0
    have z1 : RZ h (sw h 226 (.inr (8, Mo s1))) s1 w nu := (RZ.rf hM hw hnu).s
    have e20 : s1 20 = ((ex : Nat) : Int) := (f1.1 20 (by omega)).trans ((vu_ne (by decide)).trans hx)
    have hB := lc_190_1 (a := a) (b0 := b0) (k := k) hb hN6 _ rfl (N + 1) (h := sw h 226 (.inr (8, Mo s1))) (sw_at _ _ _) ((sw_ne (by decide)).trans htx) t1 hb0 z1.2.1 z1.2.2.1 hI e20 hx2 (by omega)
    have hG := good_loop (stop := 5) (R := deepR tx N 0) (tx := tx) (N := N) (fun g1 g2 g3 g4 => good_deep g1 g2 g3 g4) (f := N + 1) (i := b0) (w := w) (ex := ex) (by omega) hb0 hI hx2
    rcases hD : loopG 5 (deepR tx N 0) tx N (N + 1) b0 w ex with e | ⟨j2, u, ey⟩
    · rw [show rndG (loopG 5 (deepR tx N 0) tx N (N + 1)) b0 (t + 1 + 1) j w ex = .inl e by unfold rndG; rw [hD]; rfl]
      rw [hD] at hB
      obtain ⟨h5, s5, w5, nu5, c5, z5, y5, e51, e52, f5⟩ := hB
      exact ⟨h5, s5, w5, nu5, hstep0 _ _ hcN c5, z1.tr z5, y5, e51, e52, (Fy.ps.tr f1.y).tr f5⟩
    · rw [show rndG (loopG 5 (deepR tx N 0) tx N (N + 1)) b0 (t + 1 + 1) j w ex = rndG (loopG 5 (deepR tx N 0) tx N (N + 1)) b0 (t + 1) j2 u ey by rw [rnd_s, hD]; rfl]
      rw [hD] at hB hG
      obtain ⟨g1, g2, g3, g4⟩ := hG
      simp only at g1 g2 g3 g4
      obtain ⟨h5, s5, nu5, c5, z5, e51, e52, f5⟩ := hB
      simp only at z5 e51 e52
      have z6 := z1.tr z5
      have hstep1 : ∀ res, RU 11 190 res (36, [aR 226, aI 1, aI ((a : Nat) : Int), aI ((b0 : Nat) : Int), aI ((k + 1 : Nat) : Int)], [], 0, 0, h5) → RU 11 190 res (36, [aR 226, aI 1, aI ((a : Nat) : Int), aI ((b0 : Nat) : Int), aI ((k : Nat) : Int)], [], 0, 0, h) := by
        intro res hk9
        refine hstep0 _ _ hcN (c5 _ ?_)
        refine r_inc (v := ((k + 1 : Nat) : Int)) cd_190_78 rfl rfl rfl (by omega) (L' := [aR 226, aI 1, aI ((a : Nat) : Int), aI ((b0 : Nat) : Int), aI ((k + 1 : Nat) : Int)]) rfl ?_
        refine r_goto cd_190_81 ?_
        exact hk9
      have ih2 := ih (k + 1) j2 (by omega) z6.1 ((z6.2.2.2.1 233 (by decide) (by decide) (by decide)).trans htx) e51.1 e51.2.1 z6.2.1 z6.2.2.1 g3 e52 g4
      rcases hE : rndG (loopG 5 (deepR tx N 0) tx N (N + 1)) b0 (t + 1) j2 u ey with e | ⟨j5, u5, ey5⟩
      · rw [hE] at ih2
        obtain ⟨h7, s7, w7, nu7, c7, z7, y7, e71, e72, f7⟩ := ih2
        exact ⟨h7, s7, w7, nu7, hstep1 _ c7, z6.tr z7, y7, e71, e72, ((Fy.ps.tr f1.y).tr f5).tr f7⟩
      · rw [hE] at ih2
        obtain ⟨h7, s7, nu7, c7, z7, e71, e72, f7⟩ := ih2
        exact ⟨h7, s7, nu7, fun res k => hstep1 _ (c7 res k), z6.tr z7, e71, e72, ((Fy.ps.tr f1.y).tr f5).tr f7⟩
theorem q_190_1 {h : aH} {s w nu tx : Nat → Int} {N i ex : Nat} (hM : h.2.2 226 = .inr (8, Mo s)) (htx : h.2.2 233 = .inl (0, 600, .inl tx)) (hb : TxB tx) (hN6 : N ≤ 600) (hT : PS s tx N i) (hi : i ≤ N) (hw : h.2.2 227 = .inl (0, 211, .inl w)) (hnu : h.2.2 235 = .inl (0, 4, .inl nu)) (hI : Inv w) (hx : s 20 = ((ex : Nat) : Int)) (hx2 : ex ≤ 200) : CQ 11 190 [aR 226, aI 1] h s (repG' (loopG 5 (deepR tx N 0) tx N (N + 1)) tx N i w ex) := by
  rcases hA : numA tx N i 1 20 with ⟨ek, eo⟩ | ⟨a, j1⟩
  · rw [show repG' (loopG 5 (deepR tx N 0) tx N (N + 1)) tx N i w ex = .inl (ek, eo) by unfold repG'; rw [hA]; rfl]
    obtain ⟨h1, hcE, s1, nu1, z1, e11, e12, f1⟩ := c_184e hM htx hb hN6 hT hi hw hnu 0 (by decide) 1 ⟨by decide, by decide⟩ 20 ⟨by decide, by decide⟩ (by decide) hA
    refine ⟨h1, s1, w, nu1, Ct.of [aR 226, aI 1, aU, aU, aU] rfl ?_, z1, hI.1.tail, e11, e12, f1.y⟩
    refine r_aldR cd_190_0 rfl rfl ?_
    refine r_con (v := 0) cd_190_1 rfl (by decide) ?_
    refine r_con (v := 1) cd_190_2 rfl (by decide) ?_
    refine r_con (v := 20) cd_190_3 rfl (by decide) ?_
    refine r_cI hcE cd_190_5 rfl rfl rfl (rc0 hM rfl) rfl rfl rfl ?_
    refine r_if51 cd_190_8 rfl ⟨by omega, by omega⟩ (fun n1 => ?_) (fun n1 => ?_)
    · refine r_con (v := 0) cd_190_19 rfl (by decide) ?_
      exact r_ret cd_190_20 (Or.inl rfl) (rfl)
    · exact absurd n1 (by decide)
  obtain ⟨h1, s1, hc1, z1, t1, l1, f1⟩ := c_184o hM htx hb hN6 hT hi hw hnu 0 (by decide) 1 ⟨by decide, by decide⟩ 20 ⟨by decide, by decide⟩ (by decide) hA
  have q1 := numA_o hA (by decide)
  have htx1 := (z1.2.2.2.1 233 (by decide) (by decide) (by decide)).trans htx
  by_cases h4 : tKnd tx N j1 = 4
  rotate_left
  · rw [show repG' (loopG 5 (deepR tx N 0) tx N (N + 1)) tx N i w ex = .inl (1, ((tOff tx N j1 : Nat) : Int)) by unfold repG'; rw [hA]; simp only [bnd]; rw [if_neg h4]]
    refine ⟨sw h1 226 (.inr (8, Mo (erS s1 1))), erS s1 1, w, _, Ct.of [aR 226, aI 1, aU, aU, aU] rfl ?_, z1.s, hI.1.tail, (vu_ne (by decide)).trans (vu_at _ _ _), (vu_at _ _ _).trans t1.2.2.2.1, (f1.tr (Fx.er (by decide))).y⟩
    refine r_aldR cd_190_0 rfl rfl ?_
    refine r_con (v := 0) cd_190_1 rfl (by decide) ?_
    refine r_con (v := 1) cd_190_2 rfl (by decide) ?_
    refine r_con (v := 20) cd_190_3 rfl (by decide) ?_
    refine r_cI hc1 cd_190_5 rfl rfl rfl (rc0 hM rfl) rfl rfl rfl ?_
    refine r_if51 cd_190_8 rfl ⟨by omega, by omega⟩ (fun n1 => ?_) (fun n1 => ?_)
    · exact absurd n1 (by decide)
    · refine r_aldR cd_190_11 rfl rfl ?_
      refine r_con (v := 4) cd_190_12 rfl (by decide) ?_
      refine r_cI (c_185e z1.1 t1.2.1 4 ⟨by decide, by decide⟩ (by rw [t1.2.2.1]; exact (inR_of (tKnd_b (tx := tx) (N := N) (i := j1)) (by decide) (by decide))) (by rw [t1.2.2.1]; exact h4)) cd_190_13 rfl rfl rfl (rc0 z1.1 rfl) rfl rfl rfl ?_
      refine r_if52 cd_190_16 rfl ⟨by omega, by omega⟩ (fun n2 => ?_) (fun n2 => ?_)
      · refine r_con (v := 0) cd_190_19 rfl (by decide) ?_
        exact r_ret cd_190_20 (Or.inl rfl) (rfl)
      · exact absurd n2 (by decide)
  have p2 := tPos (tx := tx) l1
  obtain ⟨t, rfl⟩ : ∃ t, a = t + 1 := ⟨a - 1, by omega⟩
  have hB := lr_190_1 (a := t + 1) (b0 := tEnd tx N j1) hb hN6 p2.2 (by omega) t 0 (tEnd tx N j1) (by omega) z1.1 htx1 t1.1 t1.2.1 z1.2.1 z1.2.2.1 hI ((f1.1 20 (by omega)).trans hx) hx2
  have hG := good_rnd (B := (loopG 5 (deepR tx N 0) tx N (N + 1))) (N := N) (i := tEnd tx N j1) (fun g2 g3 => good_loop (fun g1 g2 g3 g4 => good_deep g1 g2 g3 g4) (by omega) p2.2 g2 g3) (t := t + 1) (j := tEnd tx N j1) (Nat.le_refl _) p2.2 hI hx2
  have hstart : ∀ res, RU 11 190 res (36, [aR 226, aI 1, aI ((t + 1 : Nat) : Int), aI ((tEnd tx N j1 : Nat) : Int), aI 0], [], 0, 0, h1) → RU 11 190 res (0, [aR 226, aI 1, aU, aU, aU], [], 0, 0, h) := by
    intro res hk9
    refine r_aldR cd_190_0 rfl rfl ?_
    refine r_con (v := 0) cd_190_1 rfl (by decide) ?_
    refine r_con (v := 1) cd_190_2 rfl (by decide) ?_
    refine r_con (v := 20) cd_190_3 rfl (by decide) ?_
    refine r_cI hc1 cd_190_5 rfl rfl rfl (rc0 hM rfl) rfl rfl rfl ?_
    refine r_if51 cd_190_8 rfl ⟨by omega, by omega⟩ (fun n1 => ?_) (fun n1 => ?_)
    · exact absurd n1 (by decide)
    · refine r_aldR cd_190_11 rfl rfl ?_
      refine r_con (v := 4) cd_190_12 rfl (by decide) ?_
      refine r_cI (c_185o z1.1 t1.2.1 4 ⟨by decide, by decide⟩ (by rw [t1.2.2.1]; exact (inR_of (tKnd_b (tx := tx) (N := N) (i := j1)) (by decide) (by decide))) (by rw [t1.2.2.1]; exact h4)) cd_190_13 rfl rfl rfl (rc0 z1.1 rfl) rfl rfl rfl ?_
      refine r_if52 cd_190_16 rfl ⟨by omega, by omega⟩ (fun n2 => ?_) (fun n2 => ?_)
      · exact absurd n2 (by decide)
      · refine r_aldR cd_190_21 rfl rfl ?_
        refine r_get cd_190_22 rfl z1.1 rfl ?_
        refine r_con (v := 0) cd_190_25 rfl (by decide) ?_
        refine r_arr (i := 0) cd_190_26 rfl z1.2.2.1 rfl (by omega) rfl ?_
        refine RU.cast (pc2 := 27) (S2 := [aI ((t + 1 : Nat) : Int)]) rfl rfl rfl ?_
        refine r_ist cd_190_27 rfl rfl (L' := [aR 226, aI 1, aI ((t + 1 : Nat) : Int), aU, aU]) rfl ?_
        refine r_aldR cd_190_28 rfl rfl ?_
        refine r_get (v := aI ((tEnd tx N j1 : Nat) : Int)) cd_190_29 rfl z1.1 (by rw [← t1.2.2.2.2.1]; rfl) ?_
        refine r_ist cd_190_32 rfl rfl (L' := [aR 226, aI 1, aI ((t + 1 : Nat) : Int), aI ((tEnd tx N j1 : Nat) : Int), aU]) rfl ?_
        refine r_con (v := 0) cd_190_33 rfl (by decide) ?_
        refine r_ist cd_190_34 rfl rfl (L' := [aR 226, aI 1, aI ((t + 1 : Nat) : Int), aI ((tEnd tx N j1 : Nat) : Int), aI 0]) rfl ?_
        exact hk9
  rcases hD : rndG (loopG 5 (deepR tx N 0) tx N (N + 1)) (tEnd tx N j1) (t + 1) (tEnd tx N j1) w ex with e | ⟨j2, u, ey⟩
  · rw [show repG' (loopG 5 (deepR tx N 0) tx N (N + 1)) tx N i w ex = .inl e by unfold repG'; rw [hA]; simp only [bnd]; rw [if_pos h4, hD]]
    rw [hD] at hB
    obtain ⟨h5, s5, w5, nu5, c5, z5, y5, e51, e52, f5⟩ := hB
    exact ⟨h5, s5, w5, nu5, Ct.of [aR 226, aI 1, aU, aU, aU] rfl (hstart _ c5), z1.tr z5, y5, e51, e52, f1.y.tr f5⟩
  rw [hD] at hB hG
  obtain ⟨g1, g2, g3, g4⟩ := hG
  simp only at g1 g2 g3 g4
  obtain ⟨h5, s5, nu5, c5, z5, e51, e52, f5⟩ := hB
  simp only at z5 e51 e52
  have z6 := z1.tr z5
  have htx5 := (z6.2.2.2.1 233 (by decide) (by decide) (by decide)).trans htx
  have p3 := tPos (tx := tx) g2
  obtain ⟨s7, hcN, t7, f7⟩ := nextZ z6.1 htx5 hb e51.1 e51.2.1 hN6 e51.2.2.2.2.1 p3.2
  have z7 : RZ h (sw h5 226 (.inr (8, Mo s7))) s7 u nu5 := z6.s
  by_cases h8 : tKnd tx N (tEnd tx N j2) = 1
  · rw [show repG' (loopG 5 (deepR tx N 0) tx N (N + 1)) tx N i w ex = .inr (tEnd tx N (tEnd tx N j2), u, ey) by unfold repG'; rw [hA]; simp only [bnd]; rw [if_pos h4, hD]; simp only; rw [if_pos h8]]
    refine ⟨_, s7, nu5, Ct.of [aR 226, aI 1, aU, aU, aU] rfl (hstart _ (c5 _ ?_)), z7, t7.2.2.2.2.1, t7.2.1, (f7.1 20 (by omega)).trans e52, (f1.y.tr f5).tr f7.y⟩
    refine r_aldR cd_190_84 rfl rfl ?_
    refine r_cV hcN cd_190_85 rfl rfl rfl (rc0 z6.1 rfl) rfl rfl rfl ?_
    refine r_aldR cd_190_88 rfl rfl ?_
    refine r_con (v := 1) cd_190_89 rfl (by decide) ?_
    refine r_cI (c_185o (sw_at _ _ _) t7.2.1 1 ⟨by decide, by decide⟩ (by rw [t7.2.2.1]; exact (inR_of (tKnd_b (tx := tx) (N := N) (i := (tEnd tx N j2))) (by decide) (by decide))) (by rw [t7.2.2.1]; exact h8)) cd_190_90 rfl rfl rfl (rc0 (sw_at _ _ _) rfl) rfl rfl rfl ?_
    exact r_ret cd_190_93 (Or.inr rfl) (rfl)
  · rw [show repG' (loopG 5 (deepR tx N 0) tx N (N + 1)) tx N i w ex = .inl (1, ((tOff tx N (tEnd tx N j2) : Nat) : Int)) by unfold repG'; rw [hA]; simp only [bnd]; rw [if_pos h4, hD]; simp only; rw [if_neg h8]]
    refine ⟨_, erS s7 1, u, nu5, Ct.of [aR 226, aI 1, aU, aU, aU] rfl (hstart _ (c5 _ ?_)), z7.s, g3.1.tail, (vu_ne (by decide)).trans (vu_at _ _ _), (vu_at _ _ _).trans t7.2.2.2.1, ((f1.y.tr f5).tr f7.y).tr (Fx.er (by decide)).y⟩
    refine r_aldR cd_190_84 rfl rfl ?_
    refine r_cV hcN cd_190_85 rfl rfl rfl (rc0 z6.1 rfl) rfl rfl rfl ?_
    refine r_aldR cd_190_88 rfl rfl ?_
    refine r_con (v := 1) cd_190_89 rfl (by decide) ?_
    refine r_cI (c_185e (sw_at _ _ _) t7.2.1 1 ⟨by decide, by decide⟩ (by rw [t7.2.2.1]; exact (inR_of (tKnd_b (tx := tx) (N := N) (i := (tEnd tx N j2))) (by decide) (by decide))) (by rw [t7.2.2.1]; exact h8)) cd_190_90 rfl rfl rfl (rc0 (sw_at _ _ _) rfl) rfl rfl rfl ?_
    exact r_ret cd_190_93 (Or.inl rfl) (rfl)
theorem q_187_1 {h : aH} {s w nu tx : Nat → Int} {N i ex : Nat} (hM : h.2.2 226 = .inr (8, Mo s)) (htx : h.2.2 233 = .inl (0, 600, .inl tx)) (hb : TxB tx) (hN6 : N ≤ 600) (hT : PS s tx N i) (hi : i ≤ N) (hw : h.2.2 227 = .inl (0, 211, .inl w)) (hnu : h.2.2 235 = .inl (0, 4, .inl nu)) (hI : Inv w) (hx : s 20 = ((ex : Nat) : Int)) (hx2 : ex ≤ 200) : CQ 12 187 [aR 226, aI 1] h s (cmdG (deepR tx N 1) tx N i w ex) := by
  have wb := wordI_b (tx := tx) (N := N) (i := i)
  have hWR : inR (wordI tx N i) := ⟨by omega, by omega⟩
  by_cases h1 : wordI tx N i = -1
  · rw [show cmdG (deepR tx N 1) tx N i w ex = .inl (1, ((tOff tx N i : Nat) : Int)) by unfold cmdG; rw [if_pos h1]]
    refine ⟨sw h 226 (.inr (8, Mo (erS s 1))), erS s 1, w, nu, Ct.of [aR 226, aI 1, aU] rfl ?_, (RZ.rf hM hw hnu).s, hI.1.tail, (vu_ne (by decide)).trans (vu_at _ _ _), (vu_at _ _ _).trans hT.2.2.2.1, (Fx.er (by decide)).y⟩
    refine r_aldR cd_187_0 rfl rfl ?_
    refine r_cI (c_188 hM htx hb hN6 hT hi) cd_187_1 rfl rfl rfl (rc0 hM rfl) rfl rfl rfl ?_
    refine r_ist cd_187_4 rfl rfl (L' := [aR 226, aI 1, aI (wordI tx N i)]) rfl ?_
    refine r_ild cd_187_5 rfl rfl ?_
    refine r_con (v := (-1)) cd_187_6 rfl (by decide) ?_
    refine r_ic62 cd_187_7 rfl hWR ⟨by omega, by omega⟩ (fun n1 => ?_) (fun n1 => ?_)
    · refine r_aldR cd_187_10 rfl rfl ?_
      refine r_con (v := 1) cd_187_11 rfl (by decide) ?_
      refine r_cI (c_183 hM hT.2.1 1) cd_187_12 rfl rfl rfl (rc0 hM rfl) rfl rfl rfl ?_
      exact r_ret cd_187_15 (Or.inl rfl) (rfl)
    · exact absurd h1 n1
  have hp1 := tPos1 (tx := tx) hi (by rw [wb.2.2 h1]; decide)
  obtain ⟨s1, hcN, t1, f1⟩ := nextZ hM htx hb hT.1 hT.2.1 hN6 hT.2.2.2.2.1 hp1.2
  by_cases h2 : wordI tx N i = 15
  · rw [show cmdG (deepR tx N 1) tx N i w ex = deepR tx N 1 i w ex by unfold cmdG; rw [if_neg h1, if_pos h2]]
    have hQ := q_190_1 (h := sw h 226 (.inr (8, Mo s1))) (sw_at _ _ _) ((sw_ne (by decide)).trans htx) hb hN6 t1 hp1.2 ((sw_ne (by decide)).trans hw) ((sw_ne (by decide)).trans hnu) hI ((f1.1 20 (by omega)).trans hx) hx2
    have r1 : RZ h (sw h 226 (.inr (8, Mo s1))) s1 w nu := (RZ.rf hM hw hnu).s
    rcases hD : deepR tx N 1 i w ex with e | ⟨j, u, ey⟩
    · rw [show repG' (loopG 5 (deepR tx N 0) tx N (N + 1)) tx N (tEnd tx N i) w ex = .inl e from hD] at hQ
      obtain ⟨h3, s3, w3, nu3, c3, z3, y3, e31, e32, f3⟩ := hQ
      refine ⟨h3, s3, w3, nu3, Ct.of [aR 226, aI 1, aU] rfl ?_, r1.tr z3, y3, e31, e32, f1.y.tr f3⟩
      refine r_aldR cd_187_0 rfl rfl ?_
      refine r_cI (c_188 hM htx hb hN6 hT hi) cd_187_1 rfl rfl rfl (rc0 hM rfl) rfl rfl rfl ?_
      refine r_ist cd_187_4 rfl rfl (L' := [aR 226, aI 1, aI (wordI tx N i)]) rfl ?_
      refine r_ild cd_187_5 rfl rfl ?_
      refine r_con (v := (-1)) cd_187_6 rfl (by decide) ?_
      refine r_ic62 cd_187_7 rfl hWR ⟨by omega, by omega⟩ (fun n1 => ?_) (fun n1 => ?_)
      · exact absurd n1 h1
      · refine r_ild cd_187_16 rfl rfl ?_
        refine r_con (v := 15) cd_187_17 rfl (by decide) ?_
        refine r_ic62 cd_187_19 rfl hWR ⟨by omega, by omega⟩ (fun n2 => ?_) (fun n2 => ?_)
        · refine r_ild cd_187_22 rfl rfl ?_
          refine r_con (v := 2) cd_187_23 rfl (by decide) ?_
          refine r_ic62 cd_187_24 rfl ⟨by omega, by omega⟩ ⟨by omega, by omega⟩ (fun n3 => ?_) (fun n3 => ?_)
          · exact absurd n3 (by decide)
          · refine r_aldR cd_187_33 rfl rfl ?_
            refine r_cV hcN cd_187_34 rfl rfl rfl (rc0 hM rfl) rfl rfl rfl ?_
            refine r_aldR cd_187_37 rfl rfl ?_
            refine r_ild cd_187_38 rfl rfl ?_
            refine r_cI c3 cd_187_39 rfl rfl rfl (rc0 (sw_at _ _ _) rfl) rfl rfl rfl ?_
            exact r_ret cd_187_42 (Or.inl rfl) (rfl)
        · exact absurd h2 n2
    · rw [show repG' (loopG 5 (deepR tx N 0) tx N (N + 1)) tx N (tEnd tx N i) w ex = .inr (j, u, ey) from hD] at hQ
      obtain ⟨h3, s3, nu3, c3, z3, e31, e32, e33, f3⟩ := hQ
      refine ⟨h3, s3, nu3, Ct.of [aR 226, aI 1, aU] rfl ?_, r1.tr z3, e31, e32, e33, f1.y.tr f3⟩
      refine r_aldR cd_187_0 rfl rfl ?_
      refine r_cI (c_188 hM htx hb hN6 hT hi) cd_187_1 rfl rfl rfl (rc0 hM rfl) rfl rfl rfl ?_
      refine r_ist cd_187_4 rfl rfl (L' := [aR 226, aI 1, aI (wordI tx N i)]) rfl ?_
      refine r_ild cd_187_5 rfl rfl ?_
      refine r_con (v := (-1)) cd_187_6 rfl (by decide) ?_
      refine r_ic62 cd_187_7 rfl hWR ⟨by omega, by omega⟩ (fun n1 => ?_) (fun n1 => ?_)
      · exact absurd n1 h1
      · refine r_ild cd_187_16 rfl rfl ?_
        refine r_con (v := 15) cd_187_17 rfl (by decide) ?_
        refine r_ic62 cd_187_19 rfl hWR ⟨by omega, by omega⟩ (fun n2 => ?_) (fun n2 => ?_)
        · refine r_ild cd_187_22 rfl rfl ?_
          refine r_con (v := 2) cd_187_23 rfl (by decide) ?_
          refine r_ic62 cd_187_24 rfl ⟨by omega, by omega⟩ ⟨by omega, by omega⟩ (fun n3 => ?_) (fun n3 => ?_)
          · exact absurd n3 (by decide)
          · refine r_aldR cd_187_33 rfl rfl ?_
            refine r_cV hcN cd_187_34 rfl rfl rfl (rc0 hM rfl) rfl rfl rfl ?_
            refine r_aldR cd_187_37 rfl rfl ?_
            refine r_ild cd_187_38 rfl rfl ?_
            refine r_cI c3 cd_187_39 rfl rfl rfl (rc0 (sw_at _ _ _) rfl) rfl rfl rfl ?_
            exact r_ret cd_187_42 (Or.inr rfl) (rfl)
        · exact absurd h2 n2
  by_cases h3 : ex = 200
  · rw [show cmdG (deepR tx N 1) tx N i w ex = .inl (5, ((tOff tx N i : Nat) : Int)) by unfold cmdG; rw [if_neg h1, if_neg h2, if_pos h3]]
    refine ⟨sw h 226 (.inr (8, Mo (erS s 5))), erS s 5, w, nu, Ct.of [aR 226, aI 1, aU] rfl ?_, (RZ.rf hM hw hnu).s, hI.1.tail, (vu_ne (by decide)).trans (vu_at _ _ _), (vu_at _ _ _).trans hT.2.2.2.1, (Fx.er (by decide)).y⟩
    refine r_aldR cd_187_0 rfl rfl ?_
    refine r_cI (c_188 hM htx hb hN6 hT hi) cd_187_1 rfl rfl rfl (rc0 hM rfl) rfl rfl rfl ?_
    refine r_ist cd_187_4 rfl rfl (L' := [aR 226, aI 1, aI (wordI tx N i)]) rfl ?_
    refine r_ild cd_187_5 rfl rfl ?_
    refine r_con (v := (-1)) cd_187_6 rfl (by decide) ?_
    refine r_ic62 cd_187_7 rfl hWR ⟨by omega, by omega⟩ (fun n1 => ?_) (fun n1 => ?_)
    · exact absurd n1 h1
    · refine r_ild cd_187_16 rfl rfl ?_
      refine r_con (v := 15) cd_187_17 rfl (by decide) ?_
      refine r_ic62 cd_187_19 rfl hWR ⟨by omega, by omega⟩ (fun n2 => ?_) (fun n2 => ?_)
      · exact absurd n2 h2
      · refine r_aldR cd_187_43 rfl rfl ?_
        refine r_get (v := aI ((ex : Nat) : Int)) cd_187_44 rfl hM (by rw [← hx]; rfl) ?_
        refine r_con (v := 200) cd_187_47 rfl (by decide) ?_
        refine r_ic62 cd_187_50 rfl ⟨by omega, by omega⟩ ⟨by omega, by omega⟩ (fun n3 => ?_) (fun n3 => ?_)
        · refine r_aldR cd_187_53 rfl rfl ?_
          refine r_con (v := 5) cd_187_54 rfl (by decide) ?_
          refine r_cI (c_183 hM hT.2.1 5) cd_187_55 rfl rfl rfl (rc0 hM rfl) rfl rfl rfl ?_
          exact r_ret cd_187_58 (Or.inl rfl) (rfl)
        · exact absurd n3 (by omega)
  obtain ⟨s2, hcM, t2, f2⟩ := nextZ (h := sw h 226 (.inr (8, Mo (va_up s 20 ((ex + 1 : Nat) : Int))))) (sw_at _ _ _) ((sw_ne (by decide)).trans htx) hb ((vu_ne (by decide)).trans hT.1) ((vu_ne (by decide)).trans hT.2.1) hN6 ((vu_ne (by decide)).trans hT.2.2.2.2.1) hp1.2
  have e20 : s2 20 = ((ex + 1 : Nat) : Int) := (f2.1 20 (by omega)).trans (vu_at _ _ _)
  rw [sw_sw] at hcM
  have hQ := r_191 (h := sw h 226 (.inr (8, Mo s2))) (sw_at _ _ _) ((sw_ne (by decide)).trans htx) hb hN6 t2 hp1.2 ((sw_ne (by decide)).trans hw) ((sw_ne (by decide)).trans hnu) hI.1 (wordI tx N i) (by omega)
  have r2 : RZ h (sw h 226 (.inr (8, Mo s2))) s2 w nu := (RZ.rf hM hw hnu).s
  rcases hD : cmdA (wordI tx N i) tx N (tEnd tx N i) w with e | ⟨j, u⟩
  · rw [show cmdG (deepR tx N 1) tx N i w ex = .inl e by unfold cmdG; rw [if_neg h1, if_neg h2, if_neg h3, hD]; rfl]
    rw [hD] at hQ
    obtain ⟨h4, c4, s4, nu4, z4, e41, e42, f4⟩ := hQ
    refine ⟨h4, s4, w, nu4, Ct.of [aR 226, aI 1, aU] rfl ?_, r2.tr z4, hI.1.tail, e41, e42, (Fy.ex.tr f2.y).tr f4.y⟩
    refine r_aldR cd_187_0 rfl rfl ?_
    refine r_cI (c_188 hM htx hb hN6 hT hi) cd_187_1 rfl rfl rfl (rc0 hM rfl) rfl rfl rfl ?_
    refine r_ist cd_187_4 rfl rfl (L' := [aR 226, aI 1, aI (wordI tx N i)]) rfl ?_
    refine r_ild cd_187_5 rfl rfl ?_
    refine r_con (v := (-1)) cd_187_6 rfl (by decide) ?_
    refine r_ic62 cd_187_7 rfl hWR ⟨by omega, by omega⟩ (fun n1 => ?_) (fun n1 => ?_)
    · exact absurd n1 h1
    · refine r_ild cd_187_16 rfl rfl ?_
      refine r_con (v := 15) cd_187_17 rfl (by decide) ?_
      refine r_ic62 cd_187_19 rfl hWR ⟨by omega, by omega⟩ (fun n2 => ?_) (fun n2 => ?_)
      · exact absurd n2 h2
      · refine r_aldR cd_187_43 rfl rfl ?_
        refine r_get (v := aI ((ex : Nat) : Int)) cd_187_44 rfl hM (by rw [← hx]; rfl) ?_
        refine r_con (v := 200) cd_187_47 rfl (by decide) ?_
        refine r_ic62 cd_187_50 rfl ⟨by omega, by omega⟩ ⟨by omega, by omega⟩ (fun n3 => ?_) (fun n3 => ?_)
        · exact absurd n3 (by omega)
        · refine r_aldR cd_187_59 rfl rfl ?_
          refine r_dup cd_187_60 rfl rfl ?_
          refine r_get (v := aI ((ex : Nat) : Int)) cd_187_61 rfl hM (by rw [← hx]; rfl) ?_
          refine r_con (v := 1) cd_187_64 rfl (by decide) ?_
          refine r_add (v := ((ex + 1 : Nat) : Int)) cd_187_65 rfl (by omega) ?_
          refine r_put (fs' := Mo (va_up s 20 ((ex + 1 : Nat) : Int))) cd_187_66 rfl hM rfl rfl ?_
          refine r_aldR cd_187_69 rfl rfl ?_
          refine r_cV hcM cd_187_70 rfl rfl rfl (rc0 (sw_at _ _ _) rfl) rfl rfl rfl ?_
          refine r_aldR cd_187_73 rfl rfl ?_
          refine r_ild cd_187_74 rfl rfl ?_
          refine r_cI c4 cd_187_75 rfl rfl rfl (rc0 (sw_at _ _ _) rfl) rfl rfl rfl ?_
          exact r_ret cd_187_78 (Or.inl rfl) (rfl)
  · rw [show cmdG (deepR tx N 1) tx N i w ex = .inr (j, u, ex + 1) by unfold cmdG; rw [if_neg h1, if_neg h2, if_neg h3, hD]; rfl]
    rw [hD] at hQ
    obtain ⟨h4, s4, nu4, c4, z4, e41, e42, e43, e44, f4⟩ := hQ
    refine ⟨h4, s4, nu4, Ct.of [aR 226, aI 1, aU] rfl ?_, r2.tr z4, e41, e43, (f4.1 20 (by omega)).trans e20, (Fy.ex.tr f2.y).tr f4.y⟩
    refine r_aldR cd_187_0 rfl rfl ?_
    refine r_cI (c_188 hM htx hb hN6 hT hi) cd_187_1 rfl rfl rfl (rc0 hM rfl) rfl rfl rfl ?_
    refine r_ist cd_187_4 rfl rfl (L' := [aR 226, aI 1, aI (wordI tx N i)]) rfl ?_
    refine r_ild cd_187_5 rfl rfl ?_
    refine r_con (v := (-1)) cd_187_6 rfl (by decide) ?_
    refine r_ic62 cd_187_7 rfl hWR ⟨by omega, by omega⟩ (fun n1 => ?_) (fun n1 => ?_)
    · exact absurd n1 h1
    · refine r_ild cd_187_16 rfl rfl ?_
      refine r_con (v := 15) cd_187_17 rfl (by decide) ?_
      refine r_ic62 cd_187_19 rfl hWR ⟨by omega, by omega⟩ (fun n2 => ?_) (fun n2 => ?_)
      · exact absurd n2 h2
      · refine r_aldR cd_187_43 rfl rfl ?_
        refine r_get (v := aI ((ex : Nat) : Int)) cd_187_44 rfl hM (by rw [← hx]; rfl) ?_
        refine r_con (v := 200) cd_187_47 rfl (by decide) ?_
        refine r_ic62 cd_187_50 rfl ⟨by omega, by omega⟩ ⟨by omega, by omega⟩ (fun n3 => ?_) (fun n3 => ?_)
        · exact absurd n3 (by omega)
        · refine r_aldR cd_187_59 rfl rfl ?_
          refine r_dup cd_187_60 rfl rfl ?_
          refine r_get (v := aI ((ex : Nat) : Int)) cd_187_61 rfl hM (by rw [← hx]; rfl) ?_
          refine r_con (v := 1) cd_187_64 rfl (by decide) ?_
          refine r_add (v := ((ex + 1 : Nat) : Int)) cd_187_65 rfl (by omega) ?_
          refine r_put (fs' := Mo (va_up s 20 ((ex + 1 : Nat) : Int))) cd_187_66 rfl hM rfl rfl ?_
          refine r_aldR cd_187_69 rfl rfl ?_
          refine r_cV hcM cd_187_70 rfl rfl rfl (rc0 (sw_at _ _ _) rfl) rfl rfl rfl ?_
          refine r_aldR cd_187_73 rfl rfl ?_
          refine r_ild cd_187_74 rfl rfl ?_
          refine r_cI c4 cd_187_75 rfl rfl rfl (rc0 (sw_at _ _ _) rfl) rfl rfl rfl ?_
          exact r_ret cd_187_78 (Or.inr rfl) (rfl)
section
variable {a b0 k : Nat}
theorem lc_190_2 {tx : Nat → Int} {N : Nat} (hb : TxB tx) (hN6 : N ≤ 600) (Lq : List aV) (hLq : Lq = [aR 226, aI 0, aI ((a : Nat) : Int), aI ((b0 : Nat) : Int), aI ((k : Nat) : Int)]) : ∀ (f : Nat) {h : aH} {s w nu : Nat → Int} {i ex : Nat}, h.2.2 226 = .inr (8, Mo s) → h.2.2 233 = .inl (0, 600, .inl tx) → PS s tx N i → i ≤ N → h.2.2 227 = .inl (0, 211, .inl w) → h.2.2 235 = .inl (0, 4, .inl nu) → Inv w → s 20 = ((ex : Nat) : Int) → ex ≤ 200 → N + 1 - i ≤ f → LQ 13 190 Lq Lq 51 78 h s tx N (loopG 5 (deepR tx N 1) tx N f i w ex)
  | 0, h, s, w, nu, i, ex, hM, htx, hT, hi, hw, hnu, hI, hx, hx2, hf => by omega
  | f + 1, h, s, w, nu, i, ex, hM, htx, hT, hi, hw, hnu, hI, hx, hx2, hf => by
    subst hLq
    by_cases hk : tKnd tx N i = 5
    · rw [show loopG 5 (deepR tx N 1) tx N (f + 1) i w ex = .inr (i, w, ex) by unfold loopG; rw [if_pos hk]]
      refine ⟨h, s, nu, fun res k => ?_, RZ.rf hM hw hnu, hT, hx, Fy.rf⟩
      refine r_aldR cd_190_51 rfl rfl ?_
      refine r_get (v := aI (tKnd tx N i)) cd_190_52 rfl hM (by rw [← hT.2.2.1]; rfl) ?_
      refine r_con (v := 5) cd_190_55 rfl (by decide) ?_
      refine r_ic61 cd_190_56 rfl (inR_of (tKnd_b (tx := tx) (N := N) (i := i)) (by decide) (by decide)) ⟨by omega, by omega⟩ (fun n1 => ?_) (fun n1 => ?_)
      · exact k
      · exact absurd hk n1
    have hQ := q_187_1 hM htx hb hN6 hT hi hw hnu hI hx hx2
    have hG := good_cmd (R := deepR tx N 1) (tx := tx) (good_deep hi hI hx2) hi hI hx2
    rcases hD : cmdG (deepR tx N 1) tx N i w ex with e | ⟨j, u, ey⟩
    · rw [show loopG 5 (deepR tx N 1) tx N (f + 1) i w ex = .inl e by rw [loop_s, if_neg hk, hD]; rfl]
      rw [hD] at hQ
      obtain ⟨h3, s3, w3, nu3, c3, z3, y3, e31, e32, f3⟩ := hQ
      refine ⟨h3, s3, w3, nu3, ?_, z3, y3, e31, e32, f3⟩
      refine r_aldR cd_190_51 rfl rfl ?_
      refine r_get (v := aI (tKnd tx N i)) cd_190_52 rfl hM (by rw [← hT.2.2.1]; rfl) ?_
      refine r_con (v := 5) cd_190_55 rfl (by decide) ?_
      refine r_ic61 cd_190_56 rfl (inR_of (tKnd_b (tx := tx) (N := N) (i := i)) (by decide) (by decide)) ⟨by omega, by omega⟩ (fun n1 => ?_) (fun n1 => ?_)
      · exact absurd n1 hk
      · refine r_aldR cd_190_59 rfl rfl ?_
        refine r_ild cd_190_60 rfl rfl ?_
        refine r_con (v := 1) cd_190_61 rfl (by decide) ?_
        refine r_add (v := 1) cd_190_62 rfl (by omega) ?_
        refine r_cI c3 cd_190_63 rfl rfl rfl (rc0 hM rfl) rfl rfl rfl ?_
        refine r_if52 cd_190_66 rfl ⟨by omega, by omega⟩ (fun n2 => ?_) (fun n2 => ?_)
        · refine r_con (v := 0) cd_190_69 rfl (by decide) ?_
          exact r_ret cd_190_70 (Or.inl rfl) (rfl)
        · exact absurd n2 (by decide)
    · rw [show loopG 5 (deepR tx N 1) tx N (f + 1) i w ex = loopG 5 (deepR tx N 1) tx N f j u ey by rw [loop_s, if_neg hk, hD]; rfl]
      rw [hD] at hQ hG
      obtain ⟨g1, g2, g3, g4⟩ := hG
      simp only at g1 g2 g3 g4
      obtain ⟨h3, s3, nu3, c3, z3, e31, e32, e33, f3⟩ := hQ
      simp only at z3 e31 e33
      have htx3 := (z3.2.2.2.1 233 (by decide) (by decide) (by decide)).trans htx
      obtain ⟨s4, hcN, t4, f4⟩ := nextZ z3.1 htx3 hb ((f3.1 10 (by omega)).trans hT.1) e32 hN6 e31 g2
      have z4 : RZ h (sw h3 226 (.inr (8, Mo s4))) s4 u nu3 := z3.s
      have hstep : ∀ res, RU 13 190 res (51, [aR 226, aI 0, aI ((a : Nat) : Int), aI ((b0 : Nat) : Int), aI ((k : Nat) : Int)], [], 0, 0, sw h3 226 (.inr (8, Mo s4))) → RU 13 190 res (51, [aR 226, aI 0, aI ((a : Nat) : Int), aI ((b0 : Nat) : Int), aI ((k : Nat) : Int)], [], 0, 0, h) := by
        intro res k
        refine r_aldR cd_190_51 rfl rfl ?_
        refine r_get (v := aI (tKnd tx N i)) cd_190_52 rfl hM (by rw [← hT.2.2.1]; rfl) ?_
        refine r_con (v := 5) cd_190_55 rfl (by decide) ?_
        refine r_ic61 cd_190_56 rfl (inR_of (tKnd_b (tx := tx) (N := N) (i := i)) (by decide) (by decide)) ⟨by omega, by omega⟩ (fun n1 => ?_) (fun n1 => ?_)
        · exact absurd n1 hk
        · refine r_aldR cd_190_59 rfl rfl ?_
          refine r_ild cd_190_60 rfl rfl ?_
          refine r_con (v := 1) cd_190_61 rfl (by decide) ?_
          refine r_add (v := 1) cd_190_62 rfl (by omega) ?_
          refine r_cI c3 cd_190_63 rfl rfl rfl (rc0 hM rfl) rfl rfl rfl ?_
          refine r_if52 cd_190_66 rfl ⟨by omega, by omega⟩ (fun n2 => ?_) (fun n2 => ?_)
          · exact absurd n2 (by decide)
          · refine r_aldR cd_190_71 rfl rfl ?_
            refine r_cV hcN cd_190_72 rfl rfl rfl (rc0 z3.1 rfl) rfl rfl rfl ?_
            refine r_goto cd_190_75 ?_
            exact k
      have ih := lc_190_2 hb hN6 [aR 226, aI 0, aI ((a : Nat) : Int), aI ((b0 : Nat) : Int), aI ((k : Nat) : Int)] rfl f (h := sw h3 226 (.inr (8, Mo s4))) (sw_at _ _ _) ((sw_ne (by decide)).trans htx3) t4 g2 z4.2.1 z4.2.2.1 g3 ((f4.1 20 (by omega)).trans e33) g4 (by omega)
      rcases hE : loopG 5 (deepR tx N 1) tx N f j u ey with e | ⟨j5, u5, ey5⟩
      · rw [hE] at ih
        obtain ⟨h5, s5, w5, nu5, c5, z5, y5, e51, e52, f5⟩ := ih
        exact ⟨h5, s5, w5, nu5, hstep _ c5, z4.tr z5, y5, e51, e52, (f3.tr f4.y).tr f5⟩
      · rw [hE] at ih
        obtain ⟨h5, s5, nu5, c5, z5, e51, e52, f5⟩ := ih
        exact ⟨h5, s5, nu5, fun res k => hstep _ (c5 res k), z4.tr z5, e51, e52, (f3.tr f4.y).tr f5⟩
end
theorem lr_190_2 {tx : Nat → Int} {N a b0 : Nat} (hb : TxB tx) (hN6 : N ≤ 600) (hb0 : b0 ≤ N) (ha : a ≤ 20) : ∀ (t k j : Nat) {h : aH} {s w nu : Nat → Int} {ex : Nat}, k + (t + 1) = a → h.2.2 226 = .inr (8, Mo s) → h.2.2 233 = .inl (0, 600, .inl tx) → s 10 = ((N : Nat) : Int) → s 11 = 0 → h.2.2 227 = .inl (0, 211, .inl w) → h.2.2 235 = .inl (0, 4, .inl nu) → Inv w → s 20 = ((ex : Nat) : Int) → ex ≤ 200 → LQ 13 190 [aR 226, aI 0, aI ((a : Nat) : Int), aI ((b0 : Nat) : Int), aI ((k : Nat) : Int)] [aR 226, aI 0, aI ((a : Nat) : Int), aI ((b0 : Nat) : Int), aI ((a : Nat) : Int)] 36 84 h s tx N (rndG (loopG 5 (deepR tx N 1) tx N (N + 1)) b0 (t + 1) j w ex) := by
  intro t
  induction t with
  | zero =>
    intro k j h s w nu ex hka hM htx h10 h11 hw hnu hI hx hx2
    have hstep0 : ∀ s1 res, Ct 2 179 [aR 226] (sw h 226 (.inr (8, Mo (va_up s 18 ((b0 : Nat) : Int))))) (.inl none, sw (sw h 226 (.inr (8, Mo (va_up s 18 ((b0 : Nat) : Int))))) 226 (.inr (8, Mo s1))) → RU 13 190 res (51, [aR 226, aI 0, aI ((a : Nat) : Int), aI ((b0 : Nat) : Int), aI ((k : Nat) : Int)], [], 0, 0, sw h 226 (.inr (8, Mo s1))) → RU 13 190 res (36, [aR 226, aI 0, aI ((a : Nat) : Int), aI ((b0 : Nat) : Int), aI ((k : Nat) : Int)], [], 0, 0, h) := by
      intro s1 res hcN hk9
      rw [sw_sw] at hcN
      refine r_ild cd_190_36 rfl rfl ?_
      refine r_ild cd_190_38 rfl rfl ?_
      refine r_ic64 cd_190_39 rfl ⟨by omega, by omega⟩ ⟨by omega, by omega⟩ (fun n1 => ?_) (fun n1 => ?_)
      · refine r_aldR cd_190_42 rfl rfl ?_
        refine r_ild cd_190_43 rfl rfl ?_
        refine r_put (fs' := Mo (va_up s 18 ((b0 : Nat) : Int))) cd_190_44 rfl hM rfl rfl ?_
        refine r_aldR cd_190_47 rfl rfl ?_
        refine r_cV hcN cd_190_48 rfl rfl rfl (rc0 (sw_at _ _ _) rfl) rfl rfl rfl ?_
        exact hk9
      · exact absurd n1 (by omega)
    obtain ⟨s1, hcN, t1, f1⟩ := nextZ (h := sw h 226 (.inr (8, Mo (va_up s 18 ((b0 : Nat) : Int))))) (sw_at _ _ _) ((sw_ne (by decide)).trans htx) hb ((vu_ne (by decide)).trans h10) ((vu_ne (by decide)).trans h11) hN6 (vu_at _ _ _) hb0
    have z1 : RZ h (sw h 226 (.inr (8, Mo s1))) s1 w nu := (RZ.rf hM hw hnu).s
    have e20 : s1 20 = ((ex : Nat) : Int) := (f1.1 20 (by omega)).trans ((vu_ne (by decide)).trans hx)
    have hB := lc_190_2 (a := a) (b0 := b0) (k := k) hb hN6 _ rfl (N + 1) (h := sw h 226 (.inr (8, Mo s1))) (sw_at _ _ _) ((sw_ne (by decide)).trans htx) t1 hb0 z1.2.1 z1.2.2.1 hI e20 hx2 (by omega)
    have hG := good_loop (stop := 5) (R := deepR tx N 1) (tx := tx) (N := N) (fun g1 g2 g3 g4 => good_deep g1 g2 g3 g4) (f := N + 1) (i := b0) (w := w) (ex := ex) (by omega) hb0 hI hx2
    rcases hD : loopG 5 (deepR tx N 1) tx N (N + 1) b0 w ex with e | ⟨j2, u, ey⟩
    · rw [show rndG (loopG 5 (deepR tx N 1) tx N (N + 1)) b0 (0 + 1) j w ex = .inl e by unfold rndG; rw [hD]; rfl]
      rw [hD] at hB
      obtain ⟨h5, s5, w5, nu5, c5, z5, y5, e51, e52, f5⟩ := hB
      exact ⟨h5, s5, w5, nu5, hstep0 _ _ hcN c5, z1.tr z5, y5, e51, e52, (Fy.ps.tr f1.y).tr f5⟩
    · rw [show rndG (loopG 5 (deepR tx N 1) tx N (N + 1)) b0 (0 + 1) j w ex = rndG (loopG 5 (deepR tx N 1) tx N (N + 1)) b0 0 j2 u ey by rw [rnd_s, hD]; rfl]
      rw [hD] at hB hG
      obtain ⟨g1, g2, g3, g4⟩ := hG
      simp only at g1 g2 g3 g4
      obtain ⟨h5, s5, nu5, c5, z5, e51, e52, f5⟩ := hB
      simp only at z5 e51 e52
      have z6 := z1.tr z5
      have hstep1 : ∀ res, RU 13 190 res (36, [aR 226, aI 0, aI ((a : Nat) : Int), aI ((b0 : Nat) : Int), aI ((k + 1 : Nat) : Int)], [], 0, 0, h5) → RU 13 190 res (36, [aR 226, aI 0, aI ((a : Nat) : Int), aI ((b0 : Nat) : Int), aI ((k : Nat) : Int)], [], 0, 0, h) := by
        intro res hk9
        refine hstep0 _ _ hcN (c5 _ ?_)
        refine r_inc (v := ((k + 1 : Nat) : Int)) cd_190_78 rfl rfl rfl (by omega) (L' := [aR 226, aI 0, aI ((a : Nat) : Int), aI ((b0 : Nat) : Int), aI ((k + 1 : Nat) : Int)]) rfl ?_
        refine r_goto cd_190_81 ?_
        exact hk9
      refine ⟨h5, s5, nu5, fun res hk9 => ?_, z6, e51, e52, (Fy.ps.tr f1.y).tr f5⟩
      refine hstep1 _ ?_
      refine r_ild cd_190_36 rfl rfl ?_
      refine r_ild cd_190_38 rfl rfl ?_
      refine r_ic64 cd_190_39 rfl ⟨by omega, by omega⟩ ⟨by omega, by omega⟩ (fun n1 => ?_) (fun n1 => ?_)
      · exact absurd n1 (by omega)
      · rw [show k + 1 = a by omega]
        exact hk9
  | succ t ih =>
    intro k j h s w nu ex hka hM htx h10 h11 hw hnu hI hx hx2
    have hstep0 : ∀ s1 res, Ct 2 179 [aR 226] (sw h 226 (.inr (8, Mo (va_up s 18 ((b0 : Nat) : Int))))) (.inl none, sw (sw h 226 (.inr (8, Mo (va_up s 18 ((b0 : Nat) : Int))))) 226 (.inr (8, Mo s1))) → RU 13 190 res (51, [aR 226, aI 0, aI ((a : Nat) : Int), aI ((b0 : Nat) : Int), aI ((k : Nat) : Int)], [], 0, 0, sw h 226 (.inr (8, Mo s1))) → RU 13 190 res (36, [aR 226, aI 0, aI ((a : Nat) : Int), aI ((b0 : Nat) : Int), aI ((k : Nat) : Int)], [], 0, 0, h) := by
      intro s1 res hcN hk9
      rw [sw_sw] at hcN
      refine r_ild cd_190_36 rfl rfl ?_
      refine r_ild cd_190_38 rfl rfl ?_
      refine r_ic64 cd_190_39 rfl ⟨by omega, by omega⟩ ⟨by omega, by omega⟩ (fun n1 => ?_) (fun n1 => ?_)
      · refine r_aldR cd_190_42 rfl rfl ?_
        refine r_ild cd_190_43 rfl rfl ?_
        refine r_put (fs' := Mo (va_up s 18 ((b0 : Nat) : Int))) cd_190_44 rfl hM rfl rfl ?_
        refine r_aldR cd_190_47 rfl rfl ?_
        refine r_cV hcN cd_190_48 rfl rfl rfl (rc0 (sw_at _ _ _) rfl) rfl rfl rfl ?_
        exact hk9
      · exact absurd n1 (by omega)
    obtain ⟨s1, hcN, t1, f1⟩ := nextZ (h := sw h 226 (.inr (8, Mo (va_up s 18 ((b0 : Nat) : Int))))) (sw_at _ _ _) ((sw_ne (by decide)).trans htx) hb ((vu_ne (by decide)).trans h10) ((vu_ne (by decide)).trans h11) hN6 (vu_at _ _ _) hb0
    have z1 : RZ h (sw h 226 (.inr (8, Mo s1))) s1 w nu := (RZ.rf hM hw hnu).s
    have e20 : s1 20 = ((ex : Nat) : Int) := (f1.1 20 (by omega)).trans ((vu_ne (by decide)).trans hx)
    have hB := lc_190_2 (a := a) (b0 := b0) (k := k) hb hN6 _ rfl (N + 1) (h := sw h 226 (.inr (8, Mo s1))) (sw_at _ _ _) ((sw_ne (by decide)).trans htx) t1 hb0 z1.2.1 z1.2.2.1 hI e20 hx2 (by omega)
    have hG := good_loop (stop := 5) (R := deepR tx N 1) (tx := tx) (N := N) (fun g1 g2 g3 g4 => good_deep g1 g2 g3 g4) (f := N + 1) (i := b0) (w := w) (ex := ex) (by omega) hb0 hI hx2
    rcases hD : loopG 5 (deepR tx N 1) tx N (N + 1) b0 w ex with e | ⟨j2, u, ey⟩
    · rw [show rndG (loopG 5 (deepR tx N 1) tx N (N + 1)) b0 (t + 1 + 1) j w ex = .inl e by unfold rndG; rw [hD]; rfl]
      rw [hD] at hB
      obtain ⟨h5, s5, w5, nu5, c5, z5, y5, e51, e52, f5⟩ := hB
      exact ⟨h5, s5, w5, nu5, hstep0 _ _ hcN c5, z1.tr z5, y5, e51, e52, (Fy.ps.tr f1.y).tr f5⟩
    · rw [show rndG (loopG 5 (deepR tx N 1) tx N (N + 1)) b0 (t + 1 + 1) j w ex = rndG (loopG 5 (deepR tx N 1) tx N (N + 1)) b0 (t + 1) j2 u ey by rw [rnd_s, hD]; rfl]
      rw [hD] at hB hG
      obtain ⟨g1, g2, g3, g4⟩ := hG
      simp only at g1 g2 g3 g4
      obtain ⟨h5, s5, nu5, c5, z5, e51, e52, f5⟩ := hB
      simp only at z5 e51 e52
      have z6 := z1.tr z5
      have hstep1 : ∀ res, RU 13 190 res (36, [aR 226, aI 0, aI ((a : Nat) : Int), aI ((b0 : Nat) : Int), aI ((k + 1 : Nat) : Int)], [], 0, 0, h5) → RU 13 190 res (36, [aR 226, aI 0, aI ((a : Nat) : Int), aI ((b0 : Nat) : Int), aI ((k : Nat) : Int)], [], 0, 0, h) := by
        intro res hk9
        refine hstep0 _ _ hcN (c5 _ ?_)
        refine r_inc (v := ((k + 1 : Nat) : Int)) cd_190_78 rfl rfl rfl (by omega) (L' := [aR 226, aI 0, aI ((a : Nat) : Int), aI ((b0 : Nat) : Int), aI ((k + 1 : Nat) : Int)]) rfl ?_
        refine r_goto cd_190_81 ?_
        exact hk9
      have ih2 := ih (k + 1) j2 (by omega) z6.1 ((z6.2.2.2.1 233 (by decide) (by decide) (by decide)).trans htx) e51.1 e51.2.1 z6.2.1 z6.2.2.1 g3 e52 g4
      rcases hE : rndG (loopG 5 (deepR tx N 1) tx N (N + 1)) b0 (t + 1) j2 u ey with e | ⟨j5, u5, ey5⟩
      · rw [hE] at ih2
        obtain ⟨h7, s7, w7, nu7, c7, z7, y7, e71, e72, f7⟩ := ih2
        exact ⟨h7, s7, w7, nu7, hstep1 _ c7, z6.tr z7, y7, e71, e72, ((Fy.ps.tr f1.y).tr f5).tr f7⟩
      · rw [hE] at ih2
        obtain ⟨h7, s7, nu7, c7, z7, e71, e72, f7⟩ := ih2
        exact ⟨h7, s7, nu7, fun res k => hstep1 _ (c7 res k), z6.tr z7, e71, e72, ((Fy.ps.tr f1.y).tr f5).tr f7⟩
theorem q_190_2 {h : aH} {s w nu tx : Nat → Int} {N i ex : Nat} (hM : h.2.2 226 = .inr (8, Mo s)) (htx : h.2.2 233 = .inl (0, 600, .inl tx)) (hb : TxB tx) (hN6 : N ≤ 600) (hT : PS s tx N i) (hi : i ≤ N) (hw : h.2.2 227 = .inl (0, 211, .inl w)) (hnu : h.2.2 235 = .inl (0, 4, .inl nu)) (hI : Inv w) (hx : s 20 = ((ex : Nat) : Int)) (hx2 : ex ≤ 200) : CQ 13 190 [aR 226, aI 0] h s (repG' (loopG 5 (deepR tx N 1) tx N (N + 1)) tx N i w ex) := by
  rcases hA : numA tx N i 1 20 with ⟨ek, eo⟩ | ⟨a, j1⟩
  · rw [show repG' (loopG 5 (deepR tx N 1) tx N (N + 1)) tx N i w ex = .inl (ek, eo) by unfold repG'; rw [hA]; rfl]
    obtain ⟨h1, hcE, s1, nu1, z1, e11, e12, f1⟩ := c_184e hM htx hb hN6 hT hi hw hnu 0 (by decide) 1 ⟨by decide, by decide⟩ 20 ⟨by decide, by decide⟩ (by decide) hA
    refine ⟨h1, s1, w, nu1, Ct.of [aR 226, aI 0, aU, aU, aU] rfl ?_, z1, hI.1.tail, e11, e12, f1.y⟩
    refine r_aldR cd_190_0 rfl rfl ?_
    refine r_con (v := 0) cd_190_1 rfl (by decide) ?_
    refine r_con (v := 1) cd_190_2 rfl (by decide) ?_
    refine r_con (v := 20) cd_190_3 rfl (by decide) ?_
    refine r_cI hcE cd_190_5 rfl rfl rfl (rc0 hM rfl) rfl rfl rfl ?_
    refine r_if51 cd_190_8 rfl ⟨by omega, by omega⟩ (fun n1 => ?_) (fun n1 => ?_)
    · refine r_con (v := 0) cd_190_19 rfl (by decide) ?_
      exact r_ret cd_190_20 (Or.inl rfl) (rfl)
    · exact absurd n1 (by decide)
  obtain ⟨h1, s1, hc1, z1, t1, l1, f1⟩ := c_184o hM htx hb hN6 hT hi hw hnu 0 (by decide) 1 ⟨by decide, by decide⟩ 20 ⟨by decide, by decide⟩ (by decide) hA
  have q1 := numA_o hA (by decide)
  have htx1 := (z1.2.2.2.1 233 (by decide) (by decide) (by decide)).trans htx
  by_cases h4 : tKnd tx N j1 = 4
  rotate_left
  · rw [show repG' (loopG 5 (deepR tx N 1) tx N (N + 1)) tx N i w ex = .inl (1, ((tOff tx N j1 : Nat) : Int)) by unfold repG'; rw [hA]; simp only [bnd]; rw [if_neg h4]]
    refine ⟨sw h1 226 (.inr (8, Mo (erS s1 1))), erS s1 1, w, _, Ct.of [aR 226, aI 0, aU, aU, aU] rfl ?_, z1.s, hI.1.tail, (vu_ne (by decide)).trans (vu_at _ _ _), (vu_at _ _ _).trans t1.2.2.2.1, (f1.tr (Fx.er (by decide))).y⟩
    refine r_aldR cd_190_0 rfl rfl ?_
    refine r_con (v := 0) cd_190_1 rfl (by decide) ?_
    refine r_con (v := 1) cd_190_2 rfl (by decide) ?_
    refine r_con (v := 20) cd_190_3 rfl (by decide) ?_
    refine r_cI hc1 cd_190_5 rfl rfl rfl (rc0 hM rfl) rfl rfl rfl ?_
    refine r_if51 cd_190_8 rfl ⟨by omega, by omega⟩ (fun n1 => ?_) (fun n1 => ?_)
    · exact absurd n1 (by decide)
    · refine r_aldR cd_190_11 rfl rfl ?_
      refine r_con (v := 4) cd_190_12 rfl (by decide) ?_
      refine r_cI (c_185e z1.1 t1.2.1 4 ⟨by decide, by decide⟩ (by rw [t1.2.2.1]; exact (inR_of (tKnd_b (tx := tx) (N := N) (i := j1)) (by decide) (by decide))) (by rw [t1.2.2.1]; exact h4)) cd_190_13 rfl rfl rfl (rc0 z1.1 rfl) rfl rfl rfl ?_
      refine r_if52 cd_190_16 rfl ⟨by omega, by omega⟩ (fun n2 => ?_) (fun n2 => ?_)
      · refine r_con (v := 0) cd_190_19 rfl (by decide) ?_
        exact r_ret cd_190_20 (Or.inl rfl) (rfl)
      · exact absurd n2 (by decide)
  have p2 := tPos (tx := tx) l1
  obtain ⟨t, rfl⟩ : ∃ t, a = t + 1 := ⟨a - 1, by omega⟩
  have hB := lr_190_2 (a := t + 1) (b0 := tEnd tx N j1) hb hN6 p2.2 (by omega) t 0 (tEnd tx N j1) (by omega) z1.1 htx1 t1.1 t1.2.1 z1.2.1 z1.2.2.1 hI ((f1.1 20 (by omega)).trans hx) hx2
  have hG := good_rnd (B := (loopG 5 (deepR tx N 1) tx N (N + 1))) (N := N) (i := tEnd tx N j1) (fun g2 g3 => good_loop (fun g1 g2 g3 g4 => good_deep g1 g2 g3 g4) (by omega) p2.2 g2 g3) (t := t + 1) (j := tEnd tx N j1) (Nat.le_refl _) p2.2 hI hx2
  have hstart : ∀ res, RU 13 190 res (36, [aR 226, aI 0, aI ((t + 1 : Nat) : Int), aI ((tEnd tx N j1 : Nat) : Int), aI 0], [], 0, 0, h1) → RU 13 190 res (0, [aR 226, aI 0, aU, aU, aU], [], 0, 0, h) := by
    intro res hk9
    refine r_aldR cd_190_0 rfl rfl ?_
    refine r_con (v := 0) cd_190_1 rfl (by decide) ?_
    refine r_con (v := 1) cd_190_2 rfl (by decide) ?_
    refine r_con (v := 20) cd_190_3 rfl (by decide) ?_
    refine r_cI hc1 cd_190_5 rfl rfl rfl (rc0 hM rfl) rfl rfl rfl ?_
    refine r_if51 cd_190_8 rfl ⟨by omega, by omega⟩ (fun n1 => ?_) (fun n1 => ?_)
    · exact absurd n1 (by decide)
    · refine r_aldR cd_190_11 rfl rfl ?_
      refine r_con (v := 4) cd_190_12 rfl (by decide) ?_
      refine r_cI (c_185o z1.1 t1.2.1 4 ⟨by decide, by decide⟩ (by rw [t1.2.2.1]; exact (inR_of (tKnd_b (tx := tx) (N := N) (i := j1)) (by decide) (by decide))) (by rw [t1.2.2.1]; exact h4)) cd_190_13 rfl rfl rfl (rc0 z1.1 rfl) rfl rfl rfl ?_
      refine r_if52 cd_190_16 rfl ⟨by omega, by omega⟩ (fun n2 => ?_) (fun n2 => ?_)
      · exact absurd n2 (by decide)
      · refine r_aldR cd_190_21 rfl rfl ?_
        refine r_get cd_190_22 rfl z1.1 rfl ?_
        refine r_con (v := 0) cd_190_25 rfl (by decide) ?_
        refine r_arr (i := 0) cd_190_26 rfl z1.2.2.1 rfl (by omega) rfl ?_
        refine RU.cast (pc2 := 27) (S2 := [aI ((t + 1 : Nat) : Int)]) rfl rfl rfl ?_
        refine r_ist cd_190_27 rfl rfl (L' := [aR 226, aI 0, aI ((t + 1 : Nat) : Int), aU, aU]) rfl ?_
        refine r_aldR cd_190_28 rfl rfl ?_
        refine r_get (v := aI ((tEnd tx N j1 : Nat) : Int)) cd_190_29 rfl z1.1 (by rw [← t1.2.2.2.2.1]; rfl) ?_
        refine r_ist cd_190_32 rfl rfl (L' := [aR 226, aI 0, aI ((t + 1 : Nat) : Int), aI ((tEnd tx N j1 : Nat) : Int), aU]) rfl ?_
        refine r_con (v := 0) cd_190_33 rfl (by decide) ?_
        refine r_ist cd_190_34 rfl rfl (L' := [aR 226, aI 0, aI ((t + 1 : Nat) : Int), aI ((tEnd tx N j1 : Nat) : Int), aI 0]) rfl ?_
        exact hk9
  rcases hD : rndG (loopG 5 (deepR tx N 1) tx N (N + 1)) (tEnd tx N j1) (t + 1) (tEnd tx N j1) w ex with e | ⟨j2, u, ey⟩
  · rw [show repG' (loopG 5 (deepR tx N 1) tx N (N + 1)) tx N i w ex = .inl e by unfold repG'; rw [hA]; simp only [bnd]; rw [if_pos h4, hD]]
    rw [hD] at hB
    obtain ⟨h5, s5, w5, nu5, c5, z5, y5, e51, e52, f5⟩ := hB
    exact ⟨h5, s5, w5, nu5, Ct.of [aR 226, aI 0, aU, aU, aU] rfl (hstart _ c5), z1.tr z5, y5, e51, e52, f1.y.tr f5⟩
  rw [hD] at hB hG
  obtain ⟨g1, g2, g3, g4⟩ := hG
  simp only at g1 g2 g3 g4
  obtain ⟨h5, s5, nu5, c5, z5, e51, e52, f5⟩ := hB
  simp only at z5 e51 e52
  have z6 := z1.tr z5
  have htx5 := (z6.2.2.2.1 233 (by decide) (by decide) (by decide)).trans htx
  have p3 := tPos (tx := tx) g2
  obtain ⟨s7, hcN, t7, f7⟩ := nextZ z6.1 htx5 hb e51.1 e51.2.1 hN6 e51.2.2.2.2.1 p3.2
  have z7 : RZ h (sw h5 226 (.inr (8, Mo s7))) s7 u nu5 := z6.s
  by_cases h8 : tKnd tx N (tEnd tx N j2) = 1
  · rw [show repG' (loopG 5 (deepR tx N 1) tx N (N + 1)) tx N i w ex = .inr (tEnd tx N (tEnd tx N j2), u, ey) by unfold repG'; rw [hA]; simp only [bnd]; rw [if_pos h4, hD]; simp only; rw [if_pos h8]]
    refine ⟨_, s7, nu5, Ct.of [aR 226, aI 0, aU, aU, aU] rfl (hstart _ (c5 _ ?_)), z7, t7.2.2.2.2.1, t7.2.1, (f7.1 20 (by omega)).trans e52, (f1.y.tr f5).tr f7.y⟩
    refine r_aldR cd_190_84 rfl rfl ?_
    refine r_cV hcN cd_190_85 rfl rfl rfl (rc0 z6.1 rfl) rfl rfl rfl ?_
    refine r_aldR cd_190_88 rfl rfl ?_
    refine r_con (v := 1) cd_190_89 rfl (by decide) ?_
    refine r_cI (c_185o (sw_at _ _ _) t7.2.1 1 ⟨by decide, by decide⟩ (by rw [t7.2.2.1]; exact (inR_of (tKnd_b (tx := tx) (N := N) (i := (tEnd tx N j2))) (by decide) (by decide))) (by rw [t7.2.2.1]; exact h8)) cd_190_90 rfl rfl rfl (rc0 (sw_at _ _ _) rfl) rfl rfl rfl ?_
    exact r_ret cd_190_93 (Or.inr rfl) (rfl)
  · rw [show repG' (loopG 5 (deepR tx N 1) tx N (N + 1)) tx N i w ex = .inl (1, ((tOff tx N (tEnd tx N j2) : Nat) : Int)) by unfold repG'; rw [hA]; simp only [bnd]; rw [if_pos h4, hD]; simp only; rw [if_neg h8]]
    refine ⟨_, erS s7 1, u, nu5, Ct.of [aR 226, aI 0, aU, aU, aU] rfl (hstart _ (c5 _ ?_)), z7.s, g3.1.tail, (vu_ne (by decide)).trans (vu_at _ _ _), (vu_at _ _ _).trans t7.2.2.2.1, ((f1.y.tr f5).tr f7.y).tr (Fx.er (by decide)).y⟩
    refine r_aldR cd_190_84 rfl rfl ?_
    refine r_cV hcN cd_190_85 rfl rfl rfl (rc0 z6.1 rfl) rfl rfl rfl ?_
    refine r_aldR cd_190_88 rfl rfl ?_
    refine r_con (v := 1) cd_190_89 rfl (by decide) ?_
    refine r_cI (c_185e (sw_at _ _ _) t7.2.1 1 ⟨by decide, by decide⟩ (by rw [t7.2.2.1]; exact (inR_of (tKnd_b (tx := tx) (N := N) (i := (tEnd tx N j2))) (by decide) (by decide))) (by rw [t7.2.2.1]; exact h8)) cd_190_90 rfl rfl rfl (rc0 (sw_at _ _ _) rfl) rfl rfl rfl ?_
    exact r_ret cd_190_93 (Or.inl rfl) (rfl)
theorem q_187_2 {h : aH} {s w nu tx : Nat → Int} {N i ex : Nat} (hM : h.2.2 226 = .inr (8, Mo s)) (htx : h.2.2 233 = .inl (0, 600, .inl tx)) (hb : TxB tx) (hN6 : N ≤ 600) (hT : PS s tx N i) (hi : i ≤ N) (hw : h.2.2 227 = .inl (0, 211, .inl w)) (hnu : h.2.2 235 = .inl (0, 4, .inl nu)) (hI : Inv w) (hx : s 20 = ((ex : Nat) : Int)) (hx2 : ex ≤ 200) : CQ 14 187 [aR 226, aI 0] h s (cmdG (deepR tx N 2) tx N i w ex) := by
  have wb := wordI_b (tx := tx) (N := N) (i := i)
  have hWR : inR (wordI tx N i) := ⟨by omega, by omega⟩
  by_cases h1 : wordI tx N i = -1
  · rw [show cmdG (deepR tx N 2) tx N i w ex = .inl (1, ((tOff tx N i : Nat) : Int)) by unfold cmdG; rw [if_pos h1]]
    refine ⟨sw h 226 (.inr (8, Mo (erS s 1))), erS s 1, w, nu, Ct.of [aR 226, aI 0, aU] rfl ?_, (RZ.rf hM hw hnu).s, hI.1.tail, (vu_ne (by decide)).trans (vu_at _ _ _), (vu_at _ _ _).trans hT.2.2.2.1, (Fx.er (by decide)).y⟩
    refine r_aldR cd_187_0 rfl rfl ?_
    refine r_cI (c_188 hM htx hb hN6 hT hi) cd_187_1 rfl rfl rfl (rc0 hM rfl) rfl rfl rfl ?_
    refine r_ist cd_187_4 rfl rfl (L' := [aR 226, aI 0, aI (wordI tx N i)]) rfl ?_
    refine r_ild cd_187_5 rfl rfl ?_
    refine r_con (v := (-1)) cd_187_6 rfl (by decide) ?_
    refine r_ic62 cd_187_7 rfl hWR ⟨by omega, by omega⟩ (fun n1 => ?_) (fun n1 => ?_)
    · refine r_aldR cd_187_10 rfl rfl ?_
      refine r_con (v := 1) cd_187_11 rfl (by decide) ?_
      refine r_cI (c_183 hM hT.2.1 1) cd_187_12 rfl rfl rfl (rc0 hM rfl) rfl rfl rfl ?_
      exact r_ret cd_187_15 (Or.inl rfl) (rfl)
    · exact absurd h1 n1
  have hp1 := tPos1 (tx := tx) hi (by rw [wb.2.2 h1]; decide)
  obtain ⟨s1, hcN, t1, f1⟩ := nextZ hM htx hb hT.1 hT.2.1 hN6 hT.2.2.2.2.1 hp1.2
  by_cases h2 : wordI tx N i = 15
  · rw [show cmdG (deepR tx N 2) tx N i w ex = deepR tx N 2 i w ex by unfold cmdG; rw [if_neg h1, if_pos h2]]
    have hQ := q_190_2 (h := sw h 226 (.inr (8, Mo s1))) (sw_at _ _ _) ((sw_ne (by decide)).trans htx) hb hN6 t1 hp1.2 ((sw_ne (by decide)).trans hw) ((sw_ne (by decide)).trans hnu) hI ((f1.1 20 (by omega)).trans hx) hx2
    have r1 : RZ h (sw h 226 (.inr (8, Mo s1))) s1 w nu := (RZ.rf hM hw hnu).s
    rcases hD : deepR tx N 2 i w ex with e | ⟨j, u, ey⟩
    · rw [show repG' (loopG 5 (deepR tx N 1) tx N (N + 1)) tx N (tEnd tx N i) w ex = .inl e from hD] at hQ
      obtain ⟨h3, s3, w3, nu3, c3, z3, y3, e31, e32, f3⟩ := hQ
      refine ⟨h3, s3, w3, nu3, Ct.of [aR 226, aI 0, aU] rfl ?_, r1.tr z3, y3, e31, e32, f1.y.tr f3⟩
      refine r_aldR cd_187_0 rfl rfl ?_
      refine r_cI (c_188 hM htx hb hN6 hT hi) cd_187_1 rfl rfl rfl (rc0 hM rfl) rfl rfl rfl ?_
      refine r_ist cd_187_4 rfl rfl (L' := [aR 226, aI 0, aI (wordI tx N i)]) rfl ?_
      refine r_ild cd_187_5 rfl rfl ?_
      refine r_con (v := (-1)) cd_187_6 rfl (by decide) ?_
      refine r_ic62 cd_187_7 rfl hWR ⟨by omega, by omega⟩ (fun n1 => ?_) (fun n1 => ?_)
      · exact absurd n1 h1
      · refine r_ild cd_187_16 rfl rfl ?_
        refine r_con (v := 15) cd_187_17 rfl (by decide) ?_
        refine r_ic62 cd_187_19 rfl hWR ⟨by omega, by omega⟩ (fun n2 => ?_) (fun n2 => ?_)
        · refine r_ild cd_187_22 rfl rfl ?_
          refine r_con (v := 2) cd_187_23 rfl (by decide) ?_
          refine r_ic62 cd_187_24 rfl ⟨by omega, by omega⟩ ⟨by omega, by omega⟩ (fun n3 => ?_) (fun n3 => ?_)
          · exact absurd n3 (by decide)
          · refine r_aldR cd_187_33 rfl rfl ?_
            refine r_cV hcN cd_187_34 rfl rfl rfl (rc0 hM rfl) rfl rfl rfl ?_
            refine r_aldR cd_187_37 rfl rfl ?_
            refine r_ild cd_187_38 rfl rfl ?_
            refine r_cI c3 cd_187_39 rfl rfl rfl (rc0 (sw_at _ _ _) rfl) rfl rfl rfl ?_
            exact r_ret cd_187_42 (Or.inl rfl) (rfl)
        · exact absurd h2 n2
    · rw [show repG' (loopG 5 (deepR tx N 1) tx N (N + 1)) tx N (tEnd tx N i) w ex = .inr (j, u, ey) from hD] at hQ
      obtain ⟨h3, s3, nu3, c3, z3, e31, e32, e33, f3⟩ := hQ
      refine ⟨h3, s3, nu3, Ct.of [aR 226, aI 0, aU] rfl ?_, r1.tr z3, e31, e32, e33, f1.y.tr f3⟩
      refine r_aldR cd_187_0 rfl rfl ?_
      refine r_cI (c_188 hM htx hb hN6 hT hi) cd_187_1 rfl rfl rfl (rc0 hM rfl) rfl rfl rfl ?_
      refine r_ist cd_187_4 rfl rfl (L' := [aR 226, aI 0, aI (wordI tx N i)]) rfl ?_
      refine r_ild cd_187_5 rfl rfl ?_
      refine r_con (v := (-1)) cd_187_6 rfl (by decide) ?_
      refine r_ic62 cd_187_7 rfl hWR ⟨by omega, by omega⟩ (fun n1 => ?_) (fun n1 => ?_)
      · exact absurd n1 h1
      · refine r_ild cd_187_16 rfl rfl ?_
        refine r_con (v := 15) cd_187_17 rfl (by decide) ?_
        refine r_ic62 cd_187_19 rfl hWR ⟨by omega, by omega⟩ (fun n2 => ?_) (fun n2 => ?_)
        · refine r_ild cd_187_22 rfl rfl ?_
          refine r_con (v := 2) cd_187_23 rfl (by decide) ?_
          refine r_ic62 cd_187_24 rfl ⟨by omega, by omega⟩ ⟨by omega, by omega⟩ (fun n3 => ?_) (fun n3 => ?_)
          · exact absurd n3 (by decide)
          · refine r_aldR cd_187_33 rfl rfl ?_
            refine r_cV hcN cd_187_34 rfl rfl rfl (rc0 hM rfl) rfl rfl rfl ?_
            refine r_aldR cd_187_37 rfl rfl ?_
            refine r_ild cd_187_38 rfl rfl ?_
            refine r_cI c3 cd_187_39 rfl rfl rfl (rc0 (sw_at _ _ _) rfl) rfl rfl rfl ?_
            exact r_ret cd_187_42 (Or.inr rfl) (rfl)
        · exact absurd h2 n2
  by_cases h3 : ex = 200
  · rw [show cmdG (deepR tx N 2) tx N i w ex = .inl (5, ((tOff tx N i : Nat) : Int)) by unfold cmdG; rw [if_neg h1, if_neg h2, if_pos h3]]
    refine ⟨sw h 226 (.inr (8, Mo (erS s 5))), erS s 5, w, nu, Ct.of [aR 226, aI 0, aU] rfl ?_, (RZ.rf hM hw hnu).s, hI.1.tail, (vu_ne (by decide)).trans (vu_at _ _ _), (vu_at _ _ _).trans hT.2.2.2.1, (Fx.er (by decide)).y⟩
    refine r_aldR cd_187_0 rfl rfl ?_
    refine r_cI (c_188 hM htx hb hN6 hT hi) cd_187_1 rfl rfl rfl (rc0 hM rfl) rfl rfl rfl ?_
    refine r_ist cd_187_4 rfl rfl (L' := [aR 226, aI 0, aI (wordI tx N i)]) rfl ?_
    refine r_ild cd_187_5 rfl rfl ?_
    refine r_con (v := (-1)) cd_187_6 rfl (by decide) ?_
    refine r_ic62 cd_187_7 rfl hWR ⟨by omega, by omega⟩ (fun n1 => ?_) (fun n1 => ?_)
    · exact absurd n1 h1
    · refine r_ild cd_187_16 rfl rfl ?_
      refine r_con (v := 15) cd_187_17 rfl (by decide) ?_
      refine r_ic62 cd_187_19 rfl hWR ⟨by omega, by omega⟩ (fun n2 => ?_) (fun n2 => ?_)
      · exact absurd n2 h2
      · refine r_aldR cd_187_43 rfl rfl ?_
        refine r_get (v := aI ((ex : Nat) : Int)) cd_187_44 rfl hM (by rw [← hx]; rfl) ?_
        refine r_con (v := 200) cd_187_47 rfl (by decide) ?_
        refine r_ic62 cd_187_50 rfl ⟨by omega, by omega⟩ ⟨by omega, by omega⟩ (fun n3 => ?_) (fun n3 => ?_)
        · refine r_aldR cd_187_53 rfl rfl ?_
          refine r_con (v := 5) cd_187_54 rfl (by decide) ?_
          refine r_cI (c_183 hM hT.2.1 5) cd_187_55 rfl rfl rfl (rc0 hM rfl) rfl rfl rfl ?_
          exact r_ret cd_187_58 (Or.inl rfl) (rfl)
        · exact absurd n3 (by omega)
  obtain ⟨s2, hcM, t2, f2⟩ := nextZ (h := sw h 226 (.inr (8, Mo (va_up s 20 ((ex + 1 : Nat) : Int))))) (sw_at _ _ _) ((sw_ne (by decide)).trans htx) hb ((vu_ne (by decide)).trans hT.1) ((vu_ne (by decide)).trans hT.2.1) hN6 ((vu_ne (by decide)).trans hT.2.2.2.2.1) hp1.2
  have e20 : s2 20 = ((ex + 1 : Nat) : Int) := (f2.1 20 (by omega)).trans (vu_at _ _ _)
  rw [sw_sw] at hcM
  have hQ := r_191 (h := sw h 226 (.inr (8, Mo s2))) (sw_at _ _ _) ((sw_ne (by decide)).trans htx) hb hN6 t2 hp1.2 ((sw_ne (by decide)).trans hw) ((sw_ne (by decide)).trans hnu) hI.1 (wordI tx N i) (by omega)
  have r2 : RZ h (sw h 226 (.inr (8, Mo s2))) s2 w nu := (RZ.rf hM hw hnu).s
  rcases hD : cmdA (wordI tx N i) tx N (tEnd tx N i) w with e | ⟨j, u⟩
  · rw [show cmdG (deepR tx N 2) tx N i w ex = .inl e by unfold cmdG; rw [if_neg h1, if_neg h2, if_neg h3, hD]; rfl]
    rw [hD] at hQ
    obtain ⟨h4, c4, s4, nu4, z4, e41, e42, f4⟩ := hQ
    refine ⟨h4, s4, w, nu4, Ct.of [aR 226, aI 0, aU] rfl ?_, r2.tr z4, hI.1.tail, e41, e42, (Fy.ex.tr f2.y).tr f4.y⟩
    refine r_aldR cd_187_0 rfl rfl ?_
    refine r_cI (c_188 hM htx hb hN6 hT hi) cd_187_1 rfl rfl rfl (rc0 hM rfl) rfl rfl rfl ?_
    refine r_ist cd_187_4 rfl rfl (L' := [aR 226, aI 0, aI (wordI tx N i)]) rfl ?_
    refine r_ild cd_187_5 rfl rfl ?_
    refine r_con (v := (-1)) cd_187_6 rfl (by decide) ?_
    refine r_ic62 cd_187_7 rfl hWR ⟨by omega, by omega⟩ (fun n1 => ?_) (fun n1 => ?_)
    · exact absurd n1 h1
    · refine r_ild cd_187_16 rfl rfl ?_
      refine r_con (v := 15) cd_187_17 rfl (by decide) ?_
      refine r_ic62 cd_187_19 rfl hWR ⟨by omega, by omega⟩ (fun n2 => ?_) (fun n2 => ?_)
      · exact absurd n2 h2
      · refine r_aldR cd_187_43 rfl rfl ?_
        refine r_get (v := aI ((ex : Nat) : Int)) cd_187_44 rfl hM (by rw [← hx]; rfl) ?_
        refine r_con (v := 200) cd_187_47 rfl (by decide) ?_
        refine r_ic62 cd_187_50 rfl ⟨by omega, by omega⟩ ⟨by omega, by omega⟩ (fun n3 => ?_) (fun n3 => ?_)
        · exact absurd n3 (by omega)
        · refine r_aldR cd_187_59 rfl rfl ?_
          refine r_dup cd_187_60 rfl rfl ?_
          refine r_get (v := aI ((ex : Nat) : Int)) cd_187_61 rfl hM (by rw [← hx]; rfl) ?_
          refine r_con (v := 1) cd_187_64 rfl (by decide) ?_
          refine r_add (v := ((ex + 1 : Nat) : Int)) cd_187_65 rfl (by omega) ?_
          refine r_put (fs' := Mo (va_up s 20 ((ex + 1 : Nat) : Int))) cd_187_66 rfl hM rfl rfl ?_
          refine r_aldR cd_187_69 rfl rfl ?_
          refine r_cV hcM cd_187_70 rfl rfl rfl (rc0 (sw_at _ _ _) rfl) rfl rfl rfl ?_
          refine r_aldR cd_187_73 rfl rfl ?_
          refine r_ild cd_187_74 rfl rfl ?_
          refine r_cI c4 cd_187_75 rfl rfl rfl (rc0 (sw_at _ _ _) rfl) rfl rfl rfl ?_
          exact r_ret cd_187_78 (Or.inl rfl) (rfl)
  · rw [show cmdG (deepR tx N 2) tx N i w ex = .inr (j, u, ex + 1) by unfold cmdG; rw [if_neg h1, if_neg h2, if_neg h3, hD]; rfl]
    rw [hD] at hQ
    obtain ⟨h4, s4, nu4, c4, z4, e41, e42, e43, e44, f4⟩ := hQ
    refine ⟨h4, s4, nu4, Ct.of [aR 226, aI 0, aU] rfl ?_, r2.tr z4, e41, e43, (f4.1 20 (by omega)).trans e20, (Fy.ex.tr f2.y).tr f4.y⟩
    refine r_aldR cd_187_0 rfl rfl ?_
    refine r_cI (c_188 hM htx hb hN6 hT hi) cd_187_1 rfl rfl rfl (rc0 hM rfl) rfl rfl rfl ?_
    refine r_ist cd_187_4 rfl rfl (L' := [aR 226, aI 0, aI (wordI tx N i)]) rfl ?_
    refine r_ild cd_187_5 rfl rfl ?_
    refine r_con (v := (-1)) cd_187_6 rfl (by decide) ?_
    refine r_ic62 cd_187_7 rfl hWR ⟨by omega, by omega⟩ (fun n1 => ?_) (fun n1 => ?_)
    · exact absurd n1 h1
    · refine r_ild cd_187_16 rfl rfl ?_
      refine r_con (v := 15) cd_187_17 rfl (by decide) ?_
      refine r_ic62 cd_187_19 rfl hWR ⟨by omega, by omega⟩ (fun n2 => ?_) (fun n2 => ?_)
      · exact absurd n2 h2
      · refine r_aldR cd_187_43 rfl rfl ?_
        refine r_get (v := aI ((ex : Nat) : Int)) cd_187_44 rfl hM (by rw [← hx]; rfl) ?_
        refine r_con (v := 200) cd_187_47 rfl (by decide) ?_
        refine r_ic62 cd_187_50 rfl ⟨by omega, by omega⟩ ⟨by omega, by omega⟩ (fun n3 => ?_) (fun n3 => ?_)
        · exact absurd n3 (by omega)
        · refine r_aldR cd_187_59 rfl rfl ?_
          refine r_dup cd_187_60 rfl rfl ?_
          refine r_get (v := aI ((ex : Nat) : Int)) cd_187_61 rfl hM (by rw [← hx]; rfl) ?_
          refine r_con (v := 1) cd_187_64 rfl (by decide) ?_
          refine r_add (v := ((ex + 1 : Nat) : Int)) cd_187_65 rfl (by omega) ?_
          refine r_put (fs' := Mo (va_up s 20 ((ex + 1 : Nat) : Int))) cd_187_66 rfl hM rfl rfl ?_
          refine r_aldR cd_187_69 rfl rfl ?_
          refine r_cV hcM cd_187_70 rfl rfl rfl (rc0 (sw_at _ _ _) rfl) rfl rfl rfl ?_
          refine r_aldR cd_187_73 rfl rfl ?_
          refine r_ild cd_187_74 rfl rfl ?_
          refine r_cI c4 cd_187_75 rfl rfl rfl (rc0 (sw_at _ _ _) rfl) rfl rfl rfl ?_
          exact r_ret cd_187_78 (Or.inr rfl) (rfl)
