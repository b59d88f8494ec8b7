/-! THE REFERENCE: commands of a script (written by wip/whole/gen30.py) -/
/-! the commands' mathematics -/
def cRow (row : Nat) (tx : Nat → Int) (N i : Nat) (w : Nat → Int) : Er ⊕ (Nat × (Nat → Int)) := bnd (numA tx N i 0 (w 0 - 1)) fun a => bnd (numA tx N a.2 0 9) fun b => bnd (semA tx N b.2 true) fun j => .inr (j, va_up w (row + a.1) ((b.1 : Nat) : Int))
def dirA (tx : Nat → Int) (N i : Nat) : Er ⊕ (Int × Nat) := if saysB tx N i (sT 34) = true then .inr (1, tEnd tx N i) else if saysB tx N i (sT 35) = true then .inr (-1, tEnd tx N i) else .inl (1, ((tOff tx N i : Nat) : Int))
def cGus (tx : Nat → Int) (N i : Nat) (w : Nat → Int) : Er ⊕ (Nat × (Nat → Int)) := bnd (dirA tx N i) fun d => bnd (numA tx N d.2 0 3) fun a => bnd (semA tx N a.2 (decide (w 4 < 12))) fun j => .inr (j, blowW w (d.1 * ((a.1 : Nat) : Int)))
def cLea (tx : Nat → Int) (N i : Nat) (w : Nat → Int) : Er ⊕ (Nat × (Nat → Int)) := bnd (numA tx N i 1 9) fun a => bnd (semA tx N a.2 true) fun j => .inr (j, va_up w 3 ((a.1 : Nat) : Int))
def cBal (tx : Nat → Int) (N i : Nat) (w : Nat → Int) : Er ⊕ (Nat × (Nat → Int)) := bnd (numA tx N i 0 (w 0 - 1)) fun a => bnd (numA tx N a.2 1 30) fun b => bnd (numA tx N b.2 1 9) fun c => bnd (semA tx N c.2 (decide (w 5 < 8))) fun j => .inr (j, brinW w ((a.1 : Nat) : Int) ((b.1 : Nat) : Int) ((c.1 : Nat) : Int))
def othA (tx : Nat → Int) (N i x : Nat) (w : Nat → Int) : Er ⊕ (Nat × Nat) := if tKnd tx N i = 3 ∧ tVal tx N i = ((x : Nat) : Int) then .inl (2, ((tOff tx N i : Nat) : Int)) else numA tx N i 0 (w 0 - 1)
def cPar (tx : Nat → Int) (N i : Nat) (w : Nat → Int) : Er ⊕ (Nat × (Nat → Int)) := bnd (numA tx N i 1 9) fun a => bnd (numA tx N a.2 0 (w 0 - 1)) fun b => bnd (othA tx N b.2 b.1 w) fun c => bnd (numA tx N c.2 0 99) fun d => bnd (semA tx N d.2 (decide (w 6 < 16) && decide (numbd w ((d.1 : Nat) : Int) = -1))) fun j => .inr (j, postW w ((a.1 : Nat) : Int) ((b.1 : Nat) : Int) ((c.1 : Nat) : Int) ((d.1 : Nat) : Int))
def cTie (tx : Nat → Int) (N i : Nat) (w : Nat → Int) : Er ⊕ (Nat × (Nat → Int)) := bnd (numA tx N i 0 (w 6 - 1)) fun a => bnd (numA tx N a.2 0 (w 5 - 1)) fun b => bnd (semA tx N b.2 (decide (whyT w a.1 b.1 = 0))) fun j => .inr (j, putP w a.1 1 ((b.1 : Nat) : Int))
def cUnt (tx : Nat → Int) (N i : Nat) (w : Nat → Int) : Er ⊕ (Nat × (Nat → Int)) := bnd (numA tx N i 0 (w 6 - 1)) fun a => bnd (semA tx N a.2 (canU w a.1)) fun j => .inr (j, untW w a.1)
def cLau (tx : Nat → Int) (N i : Nat) (w : Nat → Int) : Er ⊕ (Nat × (Nat → Int)) := bnd (numA tx N i 0 (w 5 - 1)) fun a => bnd (semA tx N a.2 (decide (whyL w a.1 = 0))) fun j => .inr (j, sbo w a.1 3 1)
def cMoo (tx : Nat → Int) (N i : Nat) (w : Nat → Int) : Er ⊕ (Nat × (Nat → Int)) := bnd (numA tx N i 0 (w 5 - 1)) fun a => bnd (semA tx N a.2 (decide (bo w a.1 3 = 1))) fun j => .inr (j, sbo w a.1 3 0)
def cFre (tx : Nat → Int) (N i : Nat) (w : Nat → Int) : Er ⊕ (Nat × (Nat → Int)) := bnd (numA tx N i 0 (w 5 - 1)) fun a => bnd (semA tx N a.2 (decide (bo w a.1 3 = 2))) fun j => .inr (j, freeW w a.1)
def cFil (tx : Nat → Int) (N i : Nat) (w : Nat → Int) : Er ⊕ (Nat × (Nat → Int)) := bnd (numA tx N i 0 (w 5 - 1)) fun a => bnd (numA tx N a.2 1 29) fun b => bnd (semA tx N b.2 (canF w a.1 ((b.1 : Nat) : Int))) fun j => .inr (j, fillW w a.1 ((b.1 : Nat) : Int))
def cGas (tx : Nat → Int) (N i : Nat) (w : Nat → Int) : Er ⊕ (Nat × (Nat → Int)) := bnd (numA tx N i 1 200) fun a => bnd (semA tx N a.2 (!decide (999 < w 2 + ((a.1 : Nat) : Int)))) fun j => .inr (j, va_up w 2 (w 2 + ((a.1 : Nat) : Int)))
def clmA (tx : Nat → Int) (N i x : Nat) (w : Nat → Int) : Er ⊕ (Nat × Nat) := if tKnd tx N i = 3 ∧ foundP w ((x : Nat) : Int) (tVal tx N i) = -1 then .inl (2, ((tOff tx N i : Nat) : Int)) else numA tx N i 0 99
def cClm (tx : Nat → Int) (N i : Nat) (w : Nat → Int) : Er ⊕ (Nat × (Nat → Int)) := bnd (numA tx N i 0 (w 0 - 1)) fun a => bnd (clmA tx N a.2 a.1 w) fun b => bnd (semA tx N b.2 true) fun j => .inr (j, clmW w (foundP w ((a.1 : Nat) : Int) ((b.1 : Nat) : Int)).toNat)
def cHrs (tx : Nat → Int) (N i : Nat) (w : Nat → Int) : Er ⊕ (Nat × (Nat → Int)) := bnd (numA tx N i 1 24) fun a => bnd (semA tx N a.2 (!decide (999 < w 1 + ((a.1 : Nat) : Int)))) fun j => .inr (j, passW w a.1)
def CP (K y : Nat) (args : List aV) (h : aH) (s w : Nat → Int) (N : Nat) (r : Er ⊕ (Nat × (Nat → Int))) : Prop := match r with
  | .inl e => ∃ h', Ct K y args h (.inl (some (aI 0)), h') ∧ PE h h' s w e.1 e.2
  | .inr a => ∃ h' s' nu', Ct K y args h (.inl (some (aI 1)), h') ∧ RZ h h' s' a.2 nu' ∧ s' 18 = ((a.1 : Nat) : Int) ∧ s' 10 = ((N : Nat) : Int) ∧ s' 11 = 0 ∧ a.1 ≤ N ∧ Fx s s'
theorem PE.tr' {h h1 h2 : aH} {s s1 w nu : Nat → Int} {k o : Int} (p : PE h1 h2 s1 w k o) (r : RZ h h1 s1 w nu) (f : Fx s s1) : PE h h2 s w k o := PE.tr r f p
theorem r_192 {h : aH} {s w nu tx : Nat → Int} {N i : Nat} (hM : h.2.2 226 = .inr (8, Mo s)) (htx : h.2.2 233 = .inl (0, 600, .inl tx)) (hb : TxB tx) (hN6 : N ≤ 600) (hT : PS s tx N i) (hi : i ≤ N) (hw : h.2.2 227 = .inl (0, 211, .inl w)) (hnu : h.2.2 235 = .inl (0, 4, .inl nu)) (hI : Inv0 w) (row : Nat) (hrow : row = 23 ∨ row = 53) : CP 5 192 [aR 226, aI ((row : Nat) : Int)] h s w N (cRow row tx N i w) := by
  have hbn := hI.bNe
  have hpn := hI.pNe
  have x0 := hI.len
  have x1 := hI.hour
  have x2 := hI.gas
  have x3 := hI.leak
  have x4 := hI.gn
  have x5 := hI.bn
  have x6 := hI.pn
  rcases hA1 : numA tx N i 0 (w 0 - 1) with ⟨ek, eo⟩ | ⟨v1, j1⟩
  · rw [show cRow row tx N i w = .inl (ek, eo) by simp only [cRow, bnd, hA1]]
    obtain ⟨he, hcE, hPE⟩ := c_193e hM htx hb hN6 hT hi hw hnu hI 0 (by decide) hA1
    refine ⟨he, Ct.of [aR 226, aI ((row : Nat) : Int)] rfl ?_, hPE.tr' (RZ.rf hM hw hnu) Fx.rf⟩
    refine r_aldR cd_192_0 rfl rfl ?_
    refine r_con (v := 0) cd_192_1 rfl (by decide) ?_
    refine r_cI hcE cd_192_2 rfl rfl rfl (rc0 hM rfl) rfl rfl rfl ?_
    refine r_if51 cd_192_5 rfl ⟨by omega, by omega⟩ (fun n1 => ?_) (fun n1 => ?_)
    · refine r_con (v := 0) cd_192_27 rfl (by decide) ?_
      exact r_ret cd_192_28 (Or.inl rfl) (rfl)
    · exact absurd n1 (by decide)
  obtain ⟨h1, s1, hc1, r1, t1, l1, f1⟩ := c_193o hM htx hb hN6 hT hi hw hnu hI 0 (by decide) hA1
  have q1 := numA_o hA1 (by decide)
  rcases hA2 : numA tx N j1 0 (9) with ⟨ek, eo⟩ | ⟨v2, j2⟩
  · rw [show cRow row tx N i w = .inl (ek, eo) by simp only [cRow, bnd, hA1, hA2]]
    obtain ⟨he, hcE, hPE⟩ := c_184e r1.1 ((r1.2.2.2.1 233 (by decide) (by decide) (by decide)).trans htx) hb hN6 t1 l1 r1.2.1 r1.2.2.1 1 (by decide) 0 ⟨by decide, by decide⟩ 9 ⟨by decide, by decide⟩ (by decide) hA2
    refine ⟨he, Ct.of [aR 226, aI ((row : Nat) : Int)] rfl ?_, hPE.tr' ((RZ.rf hM hw hnu).tr r1) (Fx.rf.tr f1)⟩
    refine r_aldR cd_192_0 rfl rfl ?_
    refine r_con (v := 0) cd_192_1 rfl (by decide) ?_
    refine r_cI hc1 cd_192_2 rfl rfl rfl (rc0 hM rfl) rfl rfl rfl ?_
    refine r_if51 cd_192_5 rfl ⟨by omega, by omega⟩ (fun n1 => ?_) (fun n1 => ?_)
    · exact absurd n1 (by decide)
    · refine r_aldR cd_192_8 rfl rfl ?_
      refine r_con (v := 1) cd_192_9 rfl (by decide) ?_
      refine r_con (v := 0) cd_192_10 rfl (by decide) ?_
      refine r_con (v := 9) cd_192_11 rfl (by decide) ?_
      refine r_cI hcE cd_192_13 rfl rfl rfl (rc0 r1.1 rfl) rfl rfl rfl ?_
      refine r_if51 cd_192_16 rfl ⟨by omega, by omega⟩ (fun n2 => ?_) (fun n2 => ?_)
      · refine r_con (v := 0) cd_192_27 rfl (by decide) ?_
        exact r_ret cd_192_28 (Or.inl rfl) (rfl)
      · exact absurd n2 (by decide)
  obtain ⟨h2, s2, hc2, r2, t2, l2, f2⟩ := c_184o r1.1 ((r1.2.2.2.1 233 (by decide) (by decide) (by decide)).trans htx) hb hN6 t1 l1 r1.2.1 r1.2.2.1 1 (by decide) 0 ⟨by decide, by decide⟩ 9 ⟨by decide, by decide⟩ (by decide) hA2
  have q2 := numA_o hA2 (by decide)
  rcases hS : semA tx N j2 (true) with ⟨ek, eo⟩ | jS
  · rw [show cRow row tx N i w = .inl (ek, eo) by simp only [cRow, bnd, hA1, hA2, hS]]
    obtain ⟨he, hcS, hPE⟩ := c_194e r2.1 ((r2.2.2.2.1 233 (by decide) (by decide) (by decide)).trans ((r1.2.2.2.1 233 (by decide) (by decide) (by decide)).trans htx)) hb hN6 t2 l2 r2.2.1 r2.2.2.1 hS
    refine ⟨he, Ct.of [aR 226, aI ((row : Nat) : Int)] rfl ?_, hPE.tr' (((RZ.rf hM hw hnu).tr r1).tr r2) ((Fx.rf.tr f1).tr f2)⟩
    refine r_aldR cd_192_0 rfl rfl ?_
    refine r_con (v := 0) cd_192_1 rfl (by decide) ?_
    refine r_cI hc1 cd_192_2 rfl rfl rfl (rc0 hM rfl) rfl rfl rfl ?_
    refine r_if51 cd_192_5 rfl ⟨by omega, by omega⟩ (fun n1 => ?_) (fun n1 => ?_)
    · exact absurd n1 (by decide)
    · refine r_aldR cd_192_8 rfl rfl ?_
      refine r_con (v := 1) cd_192_9 rfl (by decide) ?_
      refine r_con (v := 0) cd_192_10 rfl (by decide) ?_
      refine r_con (v := 9) cd_192_11 rfl (by decide) ?_
      refine r_cI hc2 cd_192_13 rfl rfl rfl (rc0 r1.1 rfl) rfl rfl rfl ?_
      refine r_if51 cd_192_16 rfl ⟨by omega, by omega⟩ (fun n2 => ?_) (fun n2 => ?_)
      · exact absurd n2 (by decide)
      · refine r_aldR cd_192_19 rfl rfl ?_
        refine r_con (v := 1) cd_192_20 rfl (by decide) ?_
        refine r_cI hcS cd_192_21 rfl rfl rfl (rc0 r2.1 rfl) rfl rfl rfl ?_
        refine r_if52 cd_192_24 rfl ⟨by omega, by omega⟩ (fun n3 => ?_) (fun n3 => ?_)
        · refine r_con (v := 0) cd_192_27 rfl (by decide) ?_
          exact r_ret cd_192_28 (Or.inl rfl) (rfl)
        · exact absurd n3 (by decide)
  · rw [show cRow row tx N i w = .inr (jS, va_up w (row + v1) ((v2 : Nat) : Int)) by simp only [cRow, bnd, hA1, hA2, hS]]
    have hcS := c_194o r2.1 ((r2.2.2.2.1 233 (by decide) (by decide) (by decide)).trans ((r1.2.2.2.1 233 (by decide) (by decide) (by decide)).trans htx)) hb hN6 t2 l2 hS
    have qS := semA_o hS
    have hej := (tEnd_b (tx := tx) (N := N) l2).2.1
    refine ⟨sw h2 227 (.inl (0, 211, .inl (va_up w (row + v1) ((v2 : Nat) : Int)))), s2, (va_up (va_up nu 0 ((v1 : Nat) : Int)) 1 ((v2 : Nat) : Int)), Ct.of [aR 226, aI ((row : Nat) : Int)] rfl ?_, (((RZ.rf hM hw hnu).tr r1).tr r2).w, t2.2.2.2.2.1.trans (by rw [qS.2.2]), t2.1, t2.2.1, by rw [qS.2.2]; exact hej, ((Fx.rf.tr f1).tr f2)⟩
    refine r_aldR cd_192_0 rfl rfl ?_
    refine r_con (v := 0) cd_192_1 rfl (by decide) ?_
    refine r_cI hc1 cd_192_2 rfl rfl rfl (rc0 hM rfl) rfl rfl rfl ?_
    refine r_if51 cd_192_5 rfl ⟨by omega, by omega⟩ (fun n1 => ?_) (fun n1 => ?_)
    · exact absurd n1 (by decide)
    · refine r_aldR cd_192_8 rfl rfl ?_
      refine r_con (v := 1) cd_192_9 rfl (by decide) ?_
      refine r_con (v := 0) cd_192_10 rfl (by decide) ?_
      refine r_con (v := 9) cd_192_11 rfl (by decide) ?_
      refine r_cI hc2 cd_192_13 rfl rfl rfl (rc0 r1.1 rfl) rfl rfl rfl ?_
      refine r_if51 cd_192_16 rfl ⟨by omega, by omega⟩ (fun n2 => ?_) (fun n2 => ?_)
      · exact absurd n2 (by decide)
      · refine r_aldR cd_192_19 rfl rfl ?_
        refine r_con (v := 1) cd_192_20 rfl (by decide) ?_
        refine r_cI hcS cd_192_21 rfl rfl rfl (rc0 r2.1 rfl) rfl rfl rfl ?_
        refine r_if52 cd_192_24 rfl ⟨by omega, by omega⟩ (fun n3 => ?_) (fun n3 => ?_)
        · exact absurd n3 (by decide)
        · refine r_aldR cd_192_29 rfl rfl ?_
          refine r_get cd_192_30 rfl r2.1 rfl ?_
          refine r_ild cd_192_33 rfl rfl ?_
          refine r_aldR cd_192_34 rfl rfl ?_
          refine r_get cd_192_35 rfl r2.1 rfl ?_
          refine r_con (v := 0) cd_192_38 rfl (by decide) ?_
          refine r_arr (i := 0) cd_192_39 rfl r2.2.2.1 rfl (by omega) rfl ?_
          refine RU.cast (pc2 := 40) (S2 := [aI ((v1 : Nat) : Int), aI ((row : Nat) : Int), aR 227]) rfl rfl rfl ?_
          refine r_add (v := ((row + v1 : Nat) : Int)) cd_192_40 rfl (by omega) ?_
          refine r_aldR cd_192_41 rfl rfl ?_
          refine r_get cd_192_42 rfl r2.1 rfl ?_
          refine r_con (v := 1) cd_192_45 rfl (by decide) ?_
          refine r_arr (i := 1) cd_192_46 rfl r2.2.2.1 rfl (by omega) rfl ?_
          refine RU.cast (pc2 := 47) (S2 := [aI ((v2 : Nat) : Int), aI ((row + v1 : Nat) : Int), aR 227]) rfl rfl rfl ?_
          refine r_arsI (i := row + v1) cd_192_47 rfl rfl r2.2.1 rfl (by omega) rfl ?_
          refine r_con (v := 1) cd_192_48 rfl (by decide) ?_
          exact r_ret cd_192_49 (Or.inr rfl) (rfl)
theorem r_197 {h : aH} {s w nu tx : Nat → Int} {N i : Nat} (hM : h.2.2 226 = .inr (8, Mo s)) (htx : h.2.2 233 = .inl (0, 600, .inl tx)) (hb : TxB tx) (hN6 : N ≤ 600) (hT : PS s tx N i) (hi : i ≤ N) (hw : h.2.2 227 = .inl (0, 211, .inl w)) (hnu : h.2.2 235 = .inl (0, 4, .inl nu)) (hI : Inv0 w) : CP 4 197 [aR 226] h s w N (cLea tx N i w) := by
  have hbn := hI.bNe
  have hpn := hI.pNe
  have x0 := hI.len
  have x1 := hI.hour
  have x2 := hI.gas
  have x3 := hI.leak
  have x4 := hI.gn
  have x5 := hI.bn
  have x6 := hI.pn
  rcases hA1 : numA tx N i 1 (9) with ⟨ek, eo⟩ | ⟨v1, j1⟩
  · rw [show cLea tx N i w = .inl (ek, eo) by simp only [cLea, bnd, hA1]]
    obtain ⟨he, hcE, hPE⟩ := c_184e hM htx hb hN6 hT hi hw hnu 0 (by decide) 1 ⟨by decide, by decide⟩ 9 ⟨by decide, by decide⟩ (by decide) hA1
    refine ⟨he, Ct.of [aR 226] rfl ?_, hPE.tr' (RZ.rf hM hw hnu) Fx.rf⟩
    refine r_aldR cd_197_0 rfl rfl ?_
    refine r_con (v := 0) cd_197_1 rfl (by decide) ?_
    refine r_con (v := 1) cd_197_2 rfl (by decide) ?_
    refine r_con (v := 9) cd_197_3 rfl (by decide) ?_
    refine r_cI hcE cd_197_5 rfl rfl rfl (rc0 hM rfl) rfl rfl rfl ?_
    refine r_if51 cd_197_8 rfl ⟨by omega, by omega⟩ (fun n1 => ?_) (fun n1 => ?_)
    · refine r_con (v := 0) cd_197_19 rfl (by decide) ?_
      exact r_ret cd_197_20 (Or.inl rfl) (rfl)
    · exact absurd n1 (by decide)
  obtain ⟨h1, s1, hc1, r1, t1, l1, f1⟩ := c_184o hM htx hb hN6 hT hi hw hnu 0 (by decide) 1 ⟨by decide, by decide⟩ 9 ⟨by decide, by decide⟩ (by decide) hA1
  have q1 := numA_o hA1 (by decide)
  rcases hS : semA tx N j1 (true) with ⟨ek, eo⟩ | jS
  · rw [show cLea tx N i w = .inl (ek, eo) by simp only [cLea, bnd, hA1, hS]]
    obtain ⟨he, hcS, hPE⟩ := c_194e r1.1 ((r1.2.2.2.1 233 (by decide) (by decide) (by decide)).trans htx) hb hN6 t1 l1 r1.2.1 r1.2.2.1 hS
    refine ⟨he, Ct.of [aR 226] rfl ?_, hPE.tr' ((RZ.rf hM hw hnu).tr r1) (Fx.rf.tr f1)⟩
    refine r_aldR cd_197_0 rfl rfl ?_
    refine r_con (v := 0) cd_197_1 rfl (by decide) ?_
    refine r_con (v := 1) cd_197_2 rfl (by decide) ?_
    refine r_con (v := 9) cd_197_3 rfl (by decide) ?_
    refine r_cI hc1 cd_197_5 rfl rfl rfl (rc0 hM rfl) rfl rfl rfl ?_
    refine r_if51 cd_197_8 rfl ⟨by omega, by omega⟩ (fun n1 => ?_) (fun n1 => ?_)
    · exact absurd n1 (by decide)
    · refine r_aldR cd_197_11 rfl rfl ?_
      refine r_con (v := 1) cd_197_12 rfl (by decide) ?_
      refine r_cI hcS cd_197_13 rfl rfl rfl (rc0 r1.1 rfl) rfl rfl rfl ?_
      refine r_if52 cd_197_16 rfl ⟨by omega, by omega⟩ (fun n2 => ?_) (fun n2 => ?_)
      · refine r_con (v := 0) cd_197_19 rfl (by decide) ?_
        exact r_ret cd_197_20 (Or.inl rfl) (rfl)
      · exact absurd n2 (by decide)
  · rw [show cLea tx N i w = .inr (jS, va_up w 3 ((v1 : Nat) : Int)) by simp only [cLea, bnd, hA1, hS]]
    have hcS := c_194o r1.1 ((r1.2.2.2.1 233 (by decide) (by decide) (by decide)).trans htx) hb hN6 t1 l1 hS
    have qS := semA_o hS
    have hej := (tEnd_b (tx := tx) (N := N) l1).2.1
    refine ⟨sw h1 227 (.inl (0, 211, .inl (va_up w 3 ((v1 : Nat) : Int)))), s1, (va_up nu 0 ((v1 : Nat) : Int)), Ct.of [aR 226] rfl ?_, ((RZ.rf hM hw hnu).tr r1).w, t1.2.2.2.2.1.trans (by rw [qS.2.2]), t1.1, t1.2.1, by rw [qS.2.2]; exact hej, (Fx.rf.tr f1)⟩
    refine r_aldR cd_197_0 rfl rfl ?_
    refine r_con (v := 0) cd_197_1 rfl (by decide) ?_
    refine r_con (v := 1) cd_197_2 rfl (by decide) ?_
    refine r_con (v := 9) cd_197_3 rfl (by decide) ?_
    refine r_cI hc1 cd_197_5 rfl rfl rfl (rc0 hM rfl) rfl rfl rfl ?_
    refine r_if51 cd_197_8 rfl ⟨by omega, by omega⟩ (fun n1 => ?_) (fun n1 => ?_)
    · exact absurd n1 (by decide)
    · refine r_aldR cd_197_11 rfl rfl ?_
      refine r_con (v := 1) cd_197_12 rfl (by decide) ?_
      refine r_cI hcS cd_197_13 rfl rfl rfl (rc0 r1.1 rfl) rfl rfl rfl ?_
      refine r_if52 cd_197_16 rfl ⟨by omega, by omega⟩ (fun n2 => ?_) (fun n2 => ?_)
      · exact absurd n2 (by decide)
      · refine r_aldR cd_197_21 rfl rfl ?_
        refine r_get cd_197_22 rfl r1.1 rfl ?_
        refine r_con (v := 3) cd_197_25 rfl (by decide) ?_
        refine r_aldR cd_197_26 rfl rfl ?_
        refine r_get cd_197_27 rfl r1.1 rfl ?_
        refine r_con (v := 0) cd_197_30 rfl (by decide) ?_
        refine r_arr (i := 0) cd_197_31 rfl r1.2.2.1 rfl (by omega) rfl ?_
        refine RU.cast (pc2 := 32) (S2 := [aI ((v1 : Nat) : Int), aI 3, aR 227]) rfl rfl rfl ?_
        refine r_arsI (i := 3) cd_197_32 rfl rfl r1.2.1 rfl (by omega) rfl ?_
        refine r_con (v := 1) cd_197_33 rfl (by decide) ?_
        exact r_ret cd_197_34 (Or.inr rfl) (rfl)
theorem r_198 {h : aH} {s w nu tx : Nat → Int} {N i : Nat} (hM : h.2.2 226 = .inr (8, Mo s)) (htx : h.2.2 233 = .inl (0, 600, .inl tx)) (hb : TxB tx) (hN6 : N ≤ 600) (hT : PS s tx N i) (hi : i ≤ N) (hw : h.2.2 227 = .inl (0, 211, .inl w)) (hnu : h.2.2 235 = .inl (0, 4, .inl nu)) (hI : Inv0 w) : CP 5 198 [aR 226] h s w N (cBal tx N i w) := by
  have hbn := hI.bNe
  have hpn := hI.pNe
  have x0 := hI.len
  have x1 := hI.hour
  have x2 := hI.gas
  have x3 := hI.leak
  have x4 := hI.gn
  have x5 := hI.bn
  have x6 := hI.pn
  rcases hA1 : numA tx N i 0 (w 0 - 1) with ⟨ek, eo⟩ | ⟨v1, j1⟩
  · rw [show cBal tx N i w = .inl (ek, eo) by simp only [cBal, bnd, hA1]]
    obtain ⟨he, hcE, hPE⟩ := c_193e hM htx hb hN6 hT hi hw hnu hI 0 (by decide) hA1
    refine ⟨he, Ct.of [aR 226] rfl ?_, hPE.tr' (RZ.rf hM hw hnu) Fx.rf⟩
    refine r_aldR cd_198_0 rfl rfl ?_
    refine r_con (v := 0) cd_198_1 rfl (by decide) ?_
    refine r_cI hcE cd_198_2 rfl rfl rfl (rc0 hM rfl) rfl rfl rfl ?_
    refine r_if51 cd_198_5 rfl ⟨by omega, by omega⟩ (fun n1 => ?_) (fun n1 => ?_)
    · refine r_con (v := 0) cd_198_53 rfl (by decide) ?_
      exact r_ret cd_198_54 (Or.inl rfl) (rfl)
    · exact absurd n1 (by decide)
  obtain ⟨h1, s1, hc1, r1, t1, l1, f1⟩ := c_193o hM htx hb hN6 hT hi hw hnu hI 0 (by decide) hA1
  have q1 := numA_o hA1 (by decide)
  rcases hA2 : numA tx N j1 1 (30) with ⟨ek, eo⟩ | ⟨v2, j2⟩
  · rw [show cBal tx N i w = .inl (ek, eo) by simp only [cBal, bnd, hA1, hA2]]
    obtain ⟨he, hcE, hPE⟩ := c_184e r1.1 ((r1.2.2.2.1 233 (by decide) (by decide) (by decide)).trans htx) hb hN6 t1 l1 r1.2.1 r1.2.2.1 1 (by decide) 1 ⟨by decide, by decide⟩ 30 ⟨by decide, by decide⟩ (by decide) hA2
    refine ⟨he, Ct.of [aR 226] rfl ?_, hPE.tr' ((RZ.rf hM hw hnu).tr r1) (Fx.rf.tr f1)⟩
    refine r_aldR cd_198_0 rfl rfl ?_
    refine r_con (v := 0) cd_198_1 rfl (by decide) ?_
    refine r_cI hc1 cd_198_2 rfl rfl rfl (rc0 hM rfl) rfl rfl rfl ?_
    refine r_if51 cd_198_5 rfl ⟨by omega, by omega⟩ (fun n1 => ?_) (fun n1 => ?_)
    · exact absurd n1 (by decide)
    · refine r_aldR cd_198_8 rfl rfl ?_
      refine r_con (v := 1) cd_198_9 rfl (by decide) ?_
      refine r_con (v := 1) cd_198_10 rfl (by decide) ?_
      refine r_con (v := 30) cd_198_11 rfl (by decide) ?_
      refine r_cI hcE cd_198_13 rfl rfl rfl (rc0 r1.1 rfl) rfl rfl rfl ?_
      refine r_if51 cd_198_16 rfl ⟨by omega, by omega⟩ (fun n2 => ?_) (fun n2 => ?_)
      · refine r_con (v := 0) cd_198_53 rfl (by decide) ?_
        exact r_ret cd_198_54 (Or.inl rfl) (rfl)
      · exact absurd n2 (by decide)
  obtain ⟨h2, s2, hc2, r2, t2, l2, f2⟩ := c_184o r1.1 ((r1.2.2.2.1 233 (by decide) (by decide) (by decide)).trans htx) hb hN6 t1 l1 r1.2.1 r1.2.2.1 1 (by decide) 1 ⟨by decide, by decide⟩ 30 ⟨by decide, by decide⟩ (by decide) hA2
  have q2 := numA_o hA2 (by decide)
  rcases hA3 : numA tx N j2 1 (9) with ⟨ek, eo⟩ | ⟨v3, j3⟩
  · rw [show cBal tx N i w = .inl (ek, eo) by simp only [cBal, bnd, hA1, hA2, hA3]]
    obtain ⟨he, hcE, hPE⟩ := c_184e r2.1 ((r2.2.2.2.1 233 (by decide) (by decide) (by decide)).trans ((r1.2.2.2.1 233 (by decide) (by decide) (by decide)).trans htx)) hb hN6 t2 l2 r2.2.1 r2.2.2.1 2 (by decide) 1 ⟨by decide, by decide⟩ 9 ⟨by decide, by decide⟩ (by decide) hA3
    refine ⟨he, Ct.of [aR 226] rfl ?_, hPE.tr' (((RZ.rf hM hw hnu).tr r1).tr r2) ((Fx.rf.tr f1).tr f2)⟩
    refine r_aldR cd_198_0 rfl rfl ?_
    refine r_con (v := 0) cd_198_1 rfl (by decide) ?_
    refine r_cI hc1 cd_198_2 rfl rfl rfl (rc0 hM rfl) rfl rfl rfl ?_
    refine r_if51 cd_198_5 rfl ⟨by omega, by omega⟩ (fun n1 => ?_) (fun n1 => ?_)
    · exact absurd n1 (by decide)
    · refine r_aldR cd_198_8 rfl rfl ?_
      refine r_con (v := 1) cd_198_9 rfl (by decide) ?_
      refine r_con (v := 1) cd_198_10 rfl (by decide) ?_
      refine r_con (v := 30) cd_198_11 rfl (by decide) ?_
      refine r_cI hc2 cd_198_13 rfl rfl rfl (rc0 r1.1 rfl) rfl rfl rfl ?_
      refine r_if51 cd_198_16 rfl ⟨by omega, by omega⟩ (fun n2 => ?_) (fun n2 => ?_)
      · exact absurd n2 (by decide)
      · refine r_aldR cd_198_19 rfl rfl ?_
        refine r_con (v := 2) cd_198_20 rfl (by decide) ?_
        refine r_con (v := 1) cd_198_21 rfl (by decide) ?_
        refine r_con (v := 9) cd_198_22 rfl (by decide) ?_
        refine r_cI hcE cd_198_24 rfl rfl rfl (rc0 r2.1 rfl) rfl rfl rfl ?_
        refine r_if51 cd_198_27 rfl ⟨by omega, by omega⟩ (fun n3 => ?_) (fun n3 => ?_)
        · refine r_con (v := 0) cd_198_53 rfl (by decide) ?_
          exact r_ret cd_198_54 (Or.inl rfl) (rfl)
        · exact absurd n3 (by decide)
  obtain ⟨h3, s3, hc3, r3, t3, l3, f3⟩ := c_184o r2.1 ((r2.2.2.2.1 233 (by decide) (by decide) (by decide)).trans ((r1.2.2.2.1 233 (by decide) (by decide) (by decide)).trans htx)) hb hN6 t2 l2 r2.2.1 r2.2.2.1 2 (by decide) 1 ⟨by decide, by decide⟩ 9 ⟨by decide, by decide⟩ (by decide) hA3
  have q3 := numA_o hA3 (by decide)
  rcases hS : semA tx N j3 (decide (w 5 < 8)) with ⟨ek, eo⟩ | jS
  · rw [show cBal tx N i w = .inl (ek, eo) by simp only [cBal, bnd, hA1, hA2, hA3, hS]]
    obtain ⟨he, hcS, hPE⟩ := c_194e r3.1 ((r3.2.2.2.1 233 (by decide) (by decide) (by decide)).trans ((r2.2.2.2.1 233 (by decide) (by decide) (by decide)).trans ((r1.2.2.2.1 233 (by decide) (by decide) (by decide)).trans htx))) hb hN6 t3 l3 r3.2.1 r3.2.2.1 hS
    refine ⟨he, Ct.of [aR 226] rfl ?_, hPE.tr' ((((RZ.rf hM hw hnu).tr r1).tr r2).tr r3) (((Fx.rf.tr f1).tr f2).tr f3)⟩
    refine r_aldR cd_198_0 rfl rfl ?_
    refine r_con (v := 0) cd_198_1 rfl (by decide) ?_
    refine r_cI hc1 cd_198_2 rfl rfl rfl (rc0 hM rfl) rfl rfl rfl ?_
    refine r_if51 cd_198_5 rfl ⟨by omega, by omega⟩ (fun n1 => ?_) (fun n1 => ?_)
    · exact absurd n1 (by decide)
    · refine r_aldR cd_198_8 rfl rfl ?_
      refine r_con (v := 1) cd_198_9 rfl (by decide) ?_
      refine r_con (v := 1) cd_198_10 rfl (by decide) ?_
      refine r_con (v := 30) cd_198_11 rfl (by decide) ?_
      refine r_cI hc2 cd_198_13 rfl rfl rfl (rc0 r1.1 rfl) rfl rfl rfl ?_
      refine r_if51 cd_198_16 rfl ⟨by omega, by omega⟩ (fun n2 => ?_) (fun n2 => ?_)
      · exact absurd n2 (by decide)
      · refine r_aldR cd_198_19 rfl rfl ?_
        refine r_con (v := 2) cd_198_20 rfl (by decide) ?_
        refine r_con (v := 1) cd_198_21 rfl (by decide) ?_
        refine r_con (v := 9) cd_198_22 rfl (by decide) ?_
        refine r_cI hc3 cd_198_24 rfl rfl rfl (rc0 r2.1 rfl) rfl rfl rfl ?_
        refine r_if51 cd_198_27 rfl ⟨by omega, by omega⟩ (fun n3 => ?_) (fun n3 => ?_)
        · exact absurd n3 (by decide)
        · refine r_aldR cd_198_30 rfl rfl ?_
          refine r_aldR cd_198_31 rfl rfl ?_
          refine r_get cd_198_32 rfl r3.1 rfl ?_
          refine r_con (v := 5) cd_198_35 rfl (by decide) ?_
          refine r_arr (i := 5) cd_198_36 rfl r3.2.1 rfl (by omega) rfl ?_
          refine r_con (v := 8) cd_198_37 rfl (by decide) ?_
          refine r_ic64 cd_198_39 rfl (inR_of hI.bn (by decide) (by decide)) ⟨by omega, by omega⟩ (fun n4 => ?_) (fun n4 => ?_)
          · refine r_con (v := 1) cd_198_42 rfl (by decide) ?_
            refine r_goto cd_198_43 ?_
            refine r_cI (by rw [← bz_t (t := decide (w 5 < 8)) (by simp [n4])]; exact hcS) cd_198_47 rfl rfl rfl (rc0 r3.1 rfl) rfl rfl rfl ?_
            refine r_if52 cd_198_50 rfl ⟨by omega, by omega⟩ (fun n5 => ?_) (fun n5 => ?_)
            · refine r_con (v := 0) cd_198_53 rfl (by decide) ?_
              exact r_ret cd_198_54 (Or.inl rfl) (rfl)
            · exact absurd n5 (by decide)
          · refine r_con (v := 0) cd_198_46 rfl (by decide) ?_
            refine r_cI (by rw [← bz_f (t := decide (w 5 < 8)) (by simp [n4])]; exact hcS) cd_198_47 rfl rfl rfl (rc0 r3.1 rfl) rfl rfl rfl ?_
            refine r_if52 cd_198_50 rfl ⟨by omega, by omega⟩ (fun n6 => ?_) (fun n6 => ?_)
            · refine r_con (v := 0) cd_198_53 rfl (by decide) ?_
              exact r_ret cd_198_54 (Or.inl rfl) (rfl)
            · exact absurd n6 (by decide)
  · rw [show cBal tx N i w = .inr (jS, brinW w ((v1 : Nat) : Int) ((v2 : Nat) : Int) ((v3 : Nat) : Int)) by simp only [cBal, bnd, hA1, hA2, hA3, hS]]
    have hcS := c_194o r3.1 ((r3.2.2.2.1 233 (by decide) (by decide) (by decide)).trans ((r2.2.2.2.1 233 (by decide) (by decide) (by decide)).trans ((r1.2.2.2.1 233 (by decide) (by decide) (by decide)).trans htx))) hb hN6 t3 l3 hS
    have qS := semA_o hS
    have hej := (tEnd_b (tx := tx) (N := N) l3).2.1
    have qS2 : w 5 < 8 := by simpa using qS.2.1
    refine ⟨sw h3 227 (.inl (0, 211, .inl (brinW w ((v1 : Nat) : Int) ((v2 : Nat) : Int) ((v3 : Nat) : Int)))), s3, (va_up (va_up (va_up nu 0 ((v1 : Nat) : Int)) 1 ((v2 : Nat) : Int)) 2 ((v3 : Nat) : Int)), Ct.of [aR 226] rfl ?_, ((((RZ.rf hM hw hnu).tr r1).tr r2).tr r3).w, t3.2.2.2.2.1.trans (by rw [qS.2.2]), t3.1, t3.2.1, by rw [qS.2.2]; exact hej, (((Fx.rf.tr f1).tr f2).tr f3)⟩
    refine r_aldR cd_198_0 rfl rfl ?_
    refine r_con (v := 0) cd_198_1 rfl (by decide) ?_
    refine r_cI hc1 cd_198_2 rfl rfl rfl (rc0 hM rfl) rfl rfl rfl ?_
    refine r_if51 cd_198_5 rfl ⟨by omega, by omega⟩ (fun n1 => ?_) (fun n1 => ?_)
    · exact absurd n1 (by decide)
    · refine r_aldR cd_198_8 rfl rfl ?_
      refine r_con (v := 1) cd_198_9 rfl (by decide) ?_
      refine r_con (v := 1) cd_198_10 rfl (by decide) ?_
      refine r_con (v := 30) cd_198_11 rfl (by decide) ?_
      refine r_cI hc2 cd_198_13 rfl rfl rfl (rc0 r1.1 rfl) rfl rfl rfl ?_
      refine r_if51 cd_198_16 rfl ⟨by omega, by omega⟩ (fun n2 => ?_) (fun n2 => ?_)
      · exact absurd n2 (by decide)
      · refine r_aldR cd_198_19 rfl rfl ?_
        refine r_con (v := 2) cd_198_20 rfl (by decide) ?_
        refine r_con (v := 1) cd_198_21 rfl (by decide) ?_
        refine r_con (v := 9) cd_198_22 rfl (by decide) ?_
        refine r_cI hc3 cd_198_24 rfl rfl rfl (rc0 r2.1 rfl) rfl rfl rfl ?_
        refine r_if51 cd_198_27 rfl ⟨by omega, by omega⟩ (fun n3 => ?_) (fun n3 => ?_)
        · exact absurd n3 (by decide)
        · refine r_aldR cd_198_30 rfl rfl ?_
          refine r_aldR cd_198_31 rfl rfl ?_
          refine r_get cd_198_32 rfl r3.1 rfl ?_
          refine r_con (v := 5) cd_198_35 rfl (by decide) ?_
          refine r_arr (i := 5) cd_198_36 rfl r3.2.1 rfl (by omega) rfl ?_
          refine r_con (v := 8) cd_198_37 rfl (by decide) ?_
          refine r_ic64 cd_198_39 rfl (inR_of hI.bn (by decide) (by decide)) ⟨by omega, by omega⟩ (fun n4 => ?_) (fun n4 => ?_)
          · refine r_con (v := 1) cd_198_42 rfl (by decide) ?_
            refine r_goto cd_198_43 ?_
            refine r_cI (by rw [← bz_t (t := decide (w 5 < 8)) (by simp [n4])]; exact hcS) cd_198_47 rfl rfl rfl (rc0 r3.1 rfl) rfl rfl rfl ?_
            refine r_if52 cd_198_50 rfl ⟨by omega, by omega⟩ (fun n5 => ?_) (fun n5 => ?_)
            · exact absurd n5 (by decide)
            · refine r_aldR cd_198_55 rfl rfl ?_
              refine r_aldR cd_198_56 rfl rfl ?_
              refine r_get cd_198_57 rfl r3.1 rfl ?_
              refine r_con (v := 0) cd_198_60 rfl (by decide) ?_
              refine r_arr (i := 0) cd_198_61 rfl r3.2.2.1 rfl (by omega) rfl ?_
              refine RU.cast (pc2 := 62) (S2 := [aI ((v1 : Nat) : Int), aR 226]) rfl rfl rfl ?_
              refine r_aldR cd_198_62 rfl rfl ?_
              refine r_get cd_198_63 rfl r3.1 rfl ?_
              refine r_con (v := 1) cd_198_66 rfl (by decide) ?_
              refine r_arr (i := 1) cd_198_67 rfl r3.2.2.1 rfl (by omega) rfl ?_
              refine RU.cast (pc2 := 68) (S2 := [aI ((v2 : Nat) : Int), aI ((v1 : Nat) : Int), aR 226]) rfl rfl rfl ?_
              refine r_aldR cd_198_68 rfl rfl ?_
              refine r_get cd_198_69 rfl r3.1 rfl ?_
              refine r_con (v := 2) cd_198_72 rfl (by decide) ?_
              refine r_arr (i := 2) cd_198_73 rfl r3.2.2.1 rfl (by omega) rfl ?_
              refine RU.cast (pc2 := 74) (S2 := [aI ((v3 : Nat) : Int), aI ((v2 : Nat) : Int), aI ((v1 : Nat) : Int), aR 226]) rfl rfl rfl ?_
              refine r_cI (c_199 r3.1 r3.2.1 hI ((v1 : Nat) : Int) ((v2 : Nat) : Int) ((v3 : Nat) : Int) (by omega)) cd_198_74 rfl rfl rfl (rc0 r3.1 rfl) rfl rfl rfl ?_
              refine r_pop cd_198_77 rfl rfl ?_
              refine r_con (v := 1) cd_198_78 rfl (by decide) ?_
              exact r_ret cd_198_79 (Or.inr rfl) (rfl)
          · refine r_con (v := 0) cd_198_46 rfl (by decide) ?_
            refine r_cI (by rw [← bz_f (t := decide (w 5 < 8)) (by simp [n4])]; exact hcS) cd_198_47 rfl rfl rfl (rc0 r3.1 rfl) rfl rfl rfl ?_
            refine r_if52 cd_198_50 rfl ⟨by omega, by omega⟩ (fun n6 => ?_) (fun n6 => ?_)
            · exact absurd n6 (by decide)
            · refine r_aldR cd_198_55 rfl rfl ?_
              refine r_aldR cd_198_56 rfl rfl ?_
              refine r_get cd_198_57 rfl r3.1 rfl ?_
              refine r_con (v := 0) cd_198_60 rfl (by decide) ?_
              refine r_arr (i := 0) cd_198_61 rfl r3.2.2.1 rfl (by omega) rfl ?_
              refine RU.cast (pc2 := 62) (S2 := [aI ((v1 : Nat) : Int), aR 226]) rfl rfl rfl ?_
              refine r_aldR cd_198_62 rfl rfl ?_
              refine r_get cd_198_63 rfl r3.1 rfl ?_
              refine r_con (v := 1) cd_198_66 rfl (by decide) ?_
              refine r_arr (i := 1) cd_198_67 rfl r3.2.2.1 rfl (by omega) rfl ?_
              refine RU.cast (pc2 := 68) (S2 := [aI ((v2 : Nat) : Int), aI ((v1 : Nat) : Int), aR 226]) rfl rfl rfl ?_
              refine r_aldR cd_198_68 rfl rfl ?_
              refine r_get cd_198_69 rfl r3.1 rfl ?_
              refine r_con (v := 2) cd_198_72 rfl (by decide) ?_
              refine r_arr (i := 2) cd_198_73 rfl r3.2.2.1 rfl (by omega) rfl ?_
              refine RU.cast (pc2 := 74) (S2 := [aI ((v3 : Nat) : Int), aI ((v2 : Nat) : Int), aI ((v1 : Nat) : Int), aR 226]) rfl rfl rfl ?_
              refine r_cI (c_199 r3.1 r3.2.1 hI ((v1 : Nat) : Int) ((v2 : Nat) : Int) ((v3 : Nat) : Int) (by omega)) cd_198_74 rfl rfl rfl (rc0 r3.1 rfl) rfl rfl rfl ?_
              refine r_pop cd_198_77 rfl rfl ?_
              refine r_con (v := 1) cd_198_78 rfl (by decide) ?_
              exact r_ret cd_198_79 (Or.inr rfl) (rfl)
theorem r_205 {h : aH} {s w nu tx : Nat → Int} {N i : Nat} (hM : h.2.2 226 = .inr (8, Mo s)) (htx : h.2.2 233 = .inl (0, 600, .inl tx)) (hb : TxB tx) (hN6 : N ≤ 600) (hT : PS s tx N i) (hi : i ≤ N) (hw : h.2.2 227 = .inl (0, 211, .inl w)) (hnu : h.2.2 235 = .inl (0, 4, .inl nu)) (hI : Inv0 w) : CP 6 205 [aR 226] h s w N (cTie tx N i w) := by
  have hbn := hI.bNe
  have hpn := hI.pNe
  have x0 := hI.len
  have x1 := hI.hour
  have x2 := hI.gas
  have x3 := hI.leak
  have x4 := hI.gn
  have x5 := hI.bn
  have x6 := hI.pn
  rcases hA1 : numA tx N i 0 (w 6 - 1) with ⟨ek, eo⟩ | ⟨v1, j1⟩
  · rw [show cTie tx N i w = .inl (ek, eo) by simp only [cTie, bnd, hA1]]
    obtain ⟨he, hcE, hPE⟩ := c_206e hM htx hb hN6 hT hi hw hnu hI 0 (by decide) hA1
    refine ⟨he, Ct.of [aR 226] rfl ?_, hPE.tr' (RZ.rf hM hw hnu) Fx.rf⟩
    refine r_aldR cd_205_0 rfl rfl ?_
    refine r_con (v := 0) cd_205_1 rfl (by decide) ?_
    refine r_cI hcE cd_205_2 rfl rfl rfl (rc0 hM rfl) rfl rfl rfl ?_
    refine r_if51 cd_205_5 rfl ⟨by omega, by omega⟩ (fun n1 => ?_) (fun n1 => ?_)
    · refine r_con (v := 0) cd_205_47 rfl (by decide) ?_
      exact r_ret cd_205_48 (Or.inl rfl) (rfl)
    · exact absurd n1 (by decide)
  obtain ⟨h1, s1, hc1, r1, t1, l1, f1⟩ := c_206o hM htx hb hN6 hT hi hw hnu hI 0 (by decide) hA1
  have q1 := numA_o hA1 (by decide)
  rcases hA2 : numA tx N j1 0 (w 5 - 1) with ⟨ek, eo⟩ | ⟨v2, j2⟩
  · rw [show cTie tx N i w = .inl (ek, eo) by simp only [cTie, bnd, hA1, hA2]]
    obtain ⟨he, hcE, hPE⟩ := c_207e r1.1 ((r1.2.2.2.1 233 (by decide) (by decide) (by decide)).trans htx) hb hN6 t1 l1 r1.2.1 r1.2.2.1 hI 1 (by decide) hA2
    refine ⟨he, Ct.of [aR 226] rfl ?_, hPE.tr' ((RZ.rf hM hw hnu).tr r1) (Fx.rf.tr f1)⟩
    refine r_aldR cd_205_0 rfl rfl ?_
    refine r_con (v := 0) cd_205_1 rfl (by decide) ?_
    refine r_cI hc1 cd_205_2 rfl rfl rfl (rc0 hM rfl) rfl rfl rfl ?_
    refine r_if51 cd_205_5 rfl ⟨by omega, by omega⟩ (fun n1 => ?_) (fun n1 => ?_)
    · exact absurd n1 (by decide)
    · refine r_aldR cd_205_8 rfl rfl ?_
      refine r_con (v := 1) cd_205_9 rfl (by decide) ?_
      refine r_cI hcE cd_205_10 rfl rfl rfl (rc0 r1.1 rfl) rfl rfl rfl ?_
      refine r_if51 cd_205_13 rfl ⟨by omega, by omega⟩ (fun n2 => ?_) (fun n2 => ?_)
      · refine r_con (v := 0) cd_205_47 rfl (by decide) ?_
        exact r_ret cd_205_48 (Or.inl rfl) (rfl)
      · exact absurd n2 (by decide)
  obtain ⟨h2, s2, hc2, r2, t2, l2, f2⟩ := c_207o r1.1 ((r1.2.2.2.1 233 (by decide) (by decide) (by decide)).trans htx) hb hN6 t1 l1 r1.2.1 r1.2.2.1 hI 1 (by decide) hA2
  have q2 := numA_o hA2 (by decide)
  rcases hS : semA tx N j2 (decide (whyT w v1 v2 = 0)) with ⟨ek, eo⟩ | jS
  · rw [show cTie tx N i w = .inl (ek, eo) by simp only [cTie, bnd, hA1, hA2, hS]]
    obtain ⟨he, hcS, hPE⟩ := c_194e r2.1 ((r2.2.2.2.1 233 (by decide) (by decide) (by decide)).trans ((r1.2.2.2.1 233 (by decide) (by decide) (by decide)).trans htx)) hb hN6 t2 l2 r2.2.1 r2.2.2.1 hS
    refine ⟨he, Ct.of [aR 226] rfl ?_, hPE.tr' (((RZ.rf hM hw hnu).tr r1).tr r2) ((Fx.rf.tr f1).tr f2)⟩
    refine r_aldR cd_205_0 rfl rfl ?_
    refine r_con (v := 0) cd_205_1 rfl (by decide) ?_
    refine r_cI hc1 cd_205_2 rfl rfl rfl (rc0 hM rfl) rfl rfl rfl ?_
    refine r_if51 cd_205_5 rfl ⟨by omega, by omega⟩ (fun n1 => ?_) (fun n1 => ?_)
    · exact absurd n1 (by decide)
    · refine r_aldR cd_205_8 rfl rfl ?_
      refine r_con (v := 1) cd_205_9 rfl (by decide) ?_
      refine r_cI hc2 cd_205_10 rfl rfl rfl (rc0 r1.1 rfl) rfl rfl rfl ?_
      refine r_if51 cd_205_13 rfl ⟨by omega, by omega⟩ (fun n2 => ?_) (fun n2 => ?_)
      · exact absurd n2 (by decide)
      · refine r_aldR cd_205_16 rfl rfl ?_
        refine r_aldR cd_205_17 rfl rfl ?_
        refine r_aldR cd_205_18 rfl rfl ?_
        refine r_get cd_205_19 rfl r2.1 rfl ?_
        refine r_con (v := 0) cd_205_22 rfl (by decide) ?_
        refine r_arr (i := 0) cd_205_23 rfl r2.2.2.1 rfl (by omega) rfl ?_
        refine RU.cast (pc2 := 24) (S2 := [aI ((v1 : Nat) : Int), aR 226, aR 226]) rfl rfl rfl ?_
        refine r_aldR cd_205_24 rfl rfl ?_
        refine r_get cd_205_25 rfl r2.1 rfl ?_
        refine r_con (v := 1) cd_205_28 rfl (by decide) ?_
        refine r_arr (i := 1) cd_205_29 rfl r2.2.2.1 rfl (by omega) rfl ?_
        refine RU.cast (pc2 := 30) (S2 := [aI ((v2 : Nat) : Int), aI ((v1 : Nat) : Int), aR 226, aR 226]) rfl rfl rfl ?_
        refine r_cI (c_208 r2.1 r2.2.1 hI v1 v2 (by omega) (by omega)) cd_205_30 rfl rfl rfl (rc0 r2.1 rfl) rfl rfl rfl ?_
        refine r_if52 cd_205_33 rfl (inR_of (whyT_b _ _ _) (by decide) (by decide)) (fun n3 => ?_) (fun n3 => ?_)
        · refine r_con (v := 1) cd_205_36 rfl (by decide) ?_
          refine r_goto cd_205_37 ?_
          refine r_cI (by rw [← bz_t (t := decide (whyT w v1 v2 = 0)) (by simp [n3])]; exact hcS) cd_205_41 rfl rfl rfl (rc0 r2.1 rfl) rfl rfl rfl ?_
          refine r_if52 cd_205_44 rfl ⟨by omega, by omega⟩ (fun n4 => ?_) (fun n4 => ?_)
          · refine r_con (v := 0) cd_205_47 rfl (by decide) ?_
            exact r_ret cd_205_48 (Or.inl rfl) (rfl)
          · exact absurd n4 (by decide)
        · refine r_con (v := 0) cd_205_40 rfl (by decide) ?_
          refine r_cI (by rw [← bz_f (t := decide (whyT w v1 v2 = 0)) (by simp [n3])]; exact hcS) cd_205_41 rfl rfl rfl (rc0 r2.1 rfl) rfl rfl rfl ?_
          refine r_if52 cd_205_44 rfl ⟨by omega, by omega⟩ (fun n5 => ?_) (fun n5 => ?_)
          · refine r_con (v := 0) cd_205_47 rfl (by decide) ?_
            exact r_ret cd_205_48 (Or.inl rfl) (rfl)
          · exact absurd n5 (by decide)
  · rw [show cTie tx N i w = .inr (jS, putP w v1 1 ((v2 : Nat) : Int)) by simp only [cTie, bnd, hA1, hA2, hS]]
    have hcS := c_194o r2.1 ((r2.2.2.2.1 233 (by decide) (by decide) (by decide)).trans ((r1.2.2.2.1 233 (by decide) (by decide) (by decide)).trans htx)) hb hN6 t2 l2 hS
    have qS := semA_o hS
    have hej := (tEnd_b (tx := tx) (N := N) l2).2.1
    have qS2 := whyT_0 (w := w) (p := v1) (b := v2) (by simpa using qS.2.1)
    refine ⟨sw h2 227 (.inl (0, 211, .inl (putP w v1 1 ((v2 : Nat) : Int)))), s2, (va_up (va_up nu 0 ((v1 : Nat) : Int)) 1 ((v2 : Nat) : Int)), Ct.of [aR 226] rfl ?_, (((RZ.rf hM hw hnu).tr r1).tr r2).w, t2.2.2.2.2.1.trans (by rw [qS.2.2]), t2.1, t2.2.1, by rw [qS.2.2]; exact hej, ((Fx.rf.tr f1).tr f2)⟩
    refine r_aldR cd_205_0 rfl rfl ?_
    refine r_con (v := 0) cd_205_1 rfl (by decide) ?_
    refine r_cI hc1 cd_205_2 rfl rfl rfl (rc0 hM rfl) rfl rfl rfl ?_
    refine r_if51 cd_205_5 rfl ⟨by omega, by omega⟩ (fun n1 => ?_) (fun n1 => ?_)
    · exact absurd n1 (by decide)
    · refine r_aldR cd_205_8 rfl rfl ?_
      refine r_con (v := 1) cd_205_9 rfl (by decide) ?_
      refine r_cI hc2 cd_205_10 rfl rfl rfl (rc0 r1.1 rfl) rfl rfl rfl ?_
      refine r_if51 cd_205_13 rfl ⟨by omega, by omega⟩ (fun n2 => ?_) (fun n2 => ?_)
      · exact absurd n2 (by decide)
      · refine r_aldR cd_205_16 rfl rfl ?_
        refine r_aldR cd_205_17 rfl rfl ?_
        refine r_aldR cd_205_18 rfl rfl ?_
        refine r_get cd_205_19 rfl r2.1 rfl ?_
        refine r_con (v := 0) cd_205_22 rfl (by decide) ?_
        refine r_arr (i := 0) cd_205_23 rfl r2.2.2.1 rfl (by omega) rfl ?_
        refine RU.cast (pc2 := 24) (S2 := [aI ((v1 : Nat) : Int), aR 226, aR 226]) rfl rfl rfl ?_
        refine r_aldR cd_205_24 rfl rfl ?_
        refine r_get cd_205_25 rfl r2.1 rfl ?_
        refine r_con (v := 1) cd_205_28 rfl (by decide) ?_
        refine r_arr (i := 1) cd_205_29 rfl r2.2.2.1 rfl (by omega) rfl ?_
        refine RU.cast (pc2 := 30) (S2 := [aI ((v2 : Nat) : Int), aI ((v1 : Nat) : Int), aR 226, aR 226]) rfl rfl rfl ?_
        refine r_cI (c_208 r2.1 r2.2.1 hI v1 v2 (by omega) (by omega)) cd_205_30 rfl rfl rfl (rc0 r2.1 rfl) rfl rfl rfl ?_
        refine r_if52 cd_205_33 rfl (inR_of (whyT_b _ _ _) (by decide) (by decide)) (fun n3 => ?_) (fun n3 => ?_)
        · refine r_con (v := 1) cd_205_36 rfl (by decide) ?_
          refine r_goto cd_205_37 ?_
          refine r_cI (by rw [← bz_t (t := decide (whyT w v1 v2 = 0)) (by simp [n3])]; exact hcS) cd_205_41 rfl rfl rfl (rc0 r2.1 rfl) rfl rfl rfl ?_
          refine r_if52 cd_205_44 rfl ⟨by omega, by omega⟩ (fun n4 => ?_) (fun n4 => ?_)
          · exact absurd n4 (by decide)
          · refine r_aldR cd_205_49 rfl rfl ?_
            refine r_aldR cd_205_50 rfl rfl ?_
            refine r_get cd_205_51 rfl r2.1 rfl ?_
            refine r_con (v := 0) cd_205_54 rfl (by decide) ?_
            refine r_arr (i := 0) cd_205_55 rfl r2.2.2.1 rfl (by omega) rfl ?_
            refine RU.cast (pc2 := 56) (S2 := [aI ((v1 : Nat) : Int), aR 226]) rfl rfl rfl ?_
            refine r_aldR cd_205_56 rfl rfl ?_
            refine r_get cd_205_57 rfl r2.1 rfl ?_
            refine r_con (v := 1) cd_205_60 rfl (by decide) ?_
            refine r_arr (i := 1) cd_205_61 rfl r2.2.2.1 rfl (by omega) rfl ?_
            refine RU.cast (pc2 := 62) (S2 := [aI ((v2 : Nat) : Int), aI ((v1 : Nat) : Int), aR 226]) rfl rfl rfl ?_
            refine r_cI (c_214 r2.1 r2.2.1 hI v1 v2 (by omega) (by omega) (by omega)) cd_205_62 rfl rfl rfl (rc0 r2.1 rfl) rfl rfl rfl ?_
            refine r_pop cd_205_65 rfl rfl ?_
            refine r_con (v := 1) cd_205_66 rfl (by decide) ?_
            exact r_ret cd_205_67 (Or.inr rfl) (rfl)
        · refine r_con (v := 0) cd_205_40 rfl (by decide) ?_
          refine r_cI (by rw [← bz_f (t := decide (whyT w v1 v2 = 0)) (by simp [n3])]; exact hcS) cd_205_41 rfl rfl rfl (rc0 r2.1 rfl) rfl rfl rfl ?_
          refine r_if52 cd_205_44 rfl ⟨by omega, by omega⟩ (fun n5 => ?_) (fun n5 => ?_)
          · exact absurd n5 (by decide)
          · refine r_aldR cd_205_49 rfl rfl ?_
            refine r_aldR cd_205_50 rfl rfl ?_
            refine r_get cd_205_51 rfl r2.1 rfl ?_
            refine r_con (v := 0) cd_205_54 rfl (by decide) ?_
            refine r_arr (i := 0) cd_205_55 rfl r2.2.2.1 rfl (by omega) rfl ?_
            refine RU.cast (pc2 := 56) (S2 := [aI ((v1 : Nat) : Int), aR 226]) rfl rfl rfl ?_
            refine r_aldR cd_205_56 rfl rfl ?_
            refine r_get cd_205_57 rfl r2.1 rfl ?_
            refine r_con (v := 1) cd_205_60 rfl (by decide) ?_
            refine r_arr (i := 1) cd_205_61 rfl r2.2.2.1 rfl (by omega) rfl ?_
            refine RU.cast (pc2 := 62) (S2 := [aI ((v2 : Nat) : Int), aI ((v1 : Nat) : Int), aR 226]) rfl rfl rfl ?_
            refine r_cI (c_214 r2.1 r2.2.1 hI v1 v2 (by omega) (by omega) (by omega)) cd_205_62 rfl rfl rfl (rc0 r2.1 rfl) rfl rfl rfl ?_
            refine r_pop cd_205_65 rfl rfl ?_
            refine r_con (v := 1) cd_205_66 rfl (by decide) ?_
            exact r_ret cd_205_67 (Or.inr rfl) (rfl)
theorem r_216 {h : aH} {s w nu tx : Nat → Int} {N i : Nat} (hM : h.2.2 226 = .inr (8, Mo s)) (htx : h.2.2 233 = .inl (0, 600, .inl tx)) (hb : TxB tx) (hN6 : N ≤ 600) (hT : PS s tx N i) (hi : i ≤ N) (hw : h.2.2 227 = .inl (0, 211, .inl w)) (hnu : h.2.2 235 = .inl (0, 4, .inl nu)) (hI : Inv0 w) : CP 5 216 [aR 226] h s w N (cUnt tx N i w) := by
  have hbn := hI.bNe
  have hpn := hI.pNe
  have x0 := hI.len
  have x1 := hI.hour
  have x2 := hI.gas
  have x3 := hI.leak
  have x4 := hI.gn
  have x5 := hI.bn
  have x6 := hI.pn
  rcases hA1 : numA tx N i 0 (w 6 - 1) with ⟨ek, eo⟩ | ⟨v1, j1⟩
  · rw [show cUnt tx N i w = .inl (ek, eo) by simp only [cUnt, bnd, hA1]]
    obtain ⟨he, hcE, hPE⟩ := c_206e hM htx hb hN6 hT hi hw hnu hI 0 (by decide) hA1
    refine ⟨he, Ct.of [aR 226] rfl ?_, hPE.tr' (RZ.rf hM hw hnu) Fx.rf⟩
    refine r_aldR cd_216_0 rfl rfl ?_
    refine r_con (v := 0) cd_216_1 rfl (by decide) ?_
    refine r_cI hcE cd_216_2 rfl rfl rfl (rc0 hM rfl) rfl rfl rfl ?_
    refine r_if51 cd_216_5 rfl ⟨by omega, by omega⟩ (fun n1 => ?_) (fun n1 => ?_)
    · refine r_con (v := 0) cd_216_25 rfl (by decide) ?_
      exact r_ret cd_216_26 (Or.inl rfl) (rfl)
    · exact absurd n1 (by decide)
  obtain ⟨h1, s1, hc1, r1, t1, l1, f1⟩ := c_206o hM htx hb hN6 hT hi hw hnu hI 0 (by decide) hA1
  have q1 := numA_o hA1 (by decide)
  rcases hS : semA tx N j1 (canU w v1) with ⟨ek, eo⟩ | jS
  · rw [show cUnt tx N i w = .inl (ek, eo) by simp only [cUnt, bnd, hA1, hS]]
    obtain ⟨he, hcS, hPE⟩ := c_194e r1.1 ((r1.2.2.2.1 233 (by decide) (by decide) (by decide)).trans htx) hb hN6 t1 l1 r1.2.1 r1.2.2.1 hS
    refine ⟨he, Ct.of [aR 226] rfl ?_, hPE.tr' ((RZ.rf hM hw hnu).tr r1) (Fx.rf.tr f1)⟩
    refine r_aldR cd_216_0 rfl rfl ?_
    refine r_con (v := 0) cd_216_1 rfl (by decide) ?_
    refine r_cI hc1 cd_216_2 rfl rfl rfl (rc0 hM rfl) rfl rfl rfl ?_
    refine r_if51 cd_216_5 rfl ⟨by omega, by omega⟩ (fun n1 => ?_) (fun n1 => ?_)
    · exact absurd n1 (by decide)
    · refine r_aldR cd_216_8 rfl rfl ?_
      refine r_aldR cd_216_9 rfl rfl ?_
      refine r_aldR cd_216_10 rfl rfl ?_
      refine r_get cd_216_11 rfl r1.1 rfl ?_
      refine r_con (v := 0) cd_216_14 rfl (by decide) ?_
      refine r_arr (i := 0) cd_216_15 rfl r1.2.2.1 rfl (by omega) rfl ?_
      refine RU.cast (pc2 := 16) (S2 := [aI ((v1 : Nat) : Int), aR 226, aR 226]) rfl rfl rfl ?_
      refine r_cI (c_217 r1.1 r1.2.1 hI v1 (by omega)) cd_216_16 rfl rfl rfl (rc0 r1.1 rfl) rfl rfl rfl ?_
      refine r_cI hcS cd_216_19 rfl rfl rfl (rc0 r1.1 rfl) rfl rfl rfl ?_
      refine r_if52 cd_216_22 rfl ⟨by omega, by omega⟩ (fun n2 => ?_) (fun n2 => ?_)
      · refine r_con (v := 0) cd_216_25 rfl (by decide) ?_
        exact r_ret cd_216_26 (Or.inl rfl) (rfl)
      · exact absurd n2 (by decide)
  · rw [show cUnt tx N i w = .inr (jS, untW w v1) by simp only [cUnt, bnd, hA1, hS]]
    have hcS := c_194o r1.1 ((r1.2.2.2.1 233 (by decide) (by decide) (by decide)).trans htx) hb hN6 t1 l1 hS
    have qS := semA_o hS
    have hej := (tEnd_b (tx := tx) (N := N) l1).2.1
    have qS2 := canU_iff.mp qS.2.1
    refine ⟨sw h1 227 (.inl (0, 211, .inl (untW w v1))), s1, (va_up nu 0 ((v1 : Nat) : Int)), Ct.of [aR 226] rfl ?_, ((RZ.rf hM hw hnu).tr r1).w, t1.2.2.2.2.1.trans (by rw [qS.2.2]), t1.1, t1.2.1, by rw [qS.2.2]; exact hej, (Fx.rf.tr f1)⟩
    refine r_aldR cd_216_0 rfl rfl ?_
    refine r_con (v := 0) cd_216_1 rfl (by decide) ?_
    refine r_cI hc1 cd_216_2 rfl rfl rfl (rc0 hM rfl) rfl rfl rfl ?_
    refine r_if51 cd_216_5 rfl ⟨by omega, by omega⟩ (fun n1 => ?_) (fun n1 => ?_)
    · exact absurd n1 (by decide)
    · refine r_aldR cd_216_8 rfl rfl ?_
      refine r_aldR cd_216_9 rfl rfl ?_
      refine r_aldR cd_216_10 rfl rfl ?_
      refine r_get cd_216_11 rfl r1.1 rfl ?_
      refine r_con (v := 0) cd_216_14 rfl (by decide) ?_
      refine r_arr (i := 0) cd_216_15 rfl r1.2.2.1 rfl (by omega) rfl ?_
      refine RU.cast (pc2 := 16) (S2 := [aI ((v1 : Nat) : Int), aR 226, aR 226]) rfl rfl rfl ?_
      refine r_cI (c_217 r1.1 r1.2.1 hI v1 (by omega)) cd_216_16 rfl rfl rfl (rc0 r1.1 rfl) rfl rfl rfl ?_
      refine r_cI hcS cd_216_19 rfl rfl rfl (rc0 r1.1 rfl) rfl rfl rfl ?_
      refine r_if52 cd_216_22 rfl ⟨by omega, by omega⟩ (fun n2 => ?_) (fun n2 => ?_)
      · exact absurd n2 (by decide)
      · refine r_aldR cd_216_27 rfl rfl ?_
        refine r_aldR cd_216_28 rfl rfl ?_
        refine r_get cd_216_29 rfl r1.1 rfl ?_
        refine r_con (v := 0) cd_216_32 rfl (by decide) ?_
        refine r_arr (i := 0) cd_216_33 rfl r1.2.2.1 rfl (by omega) rfl ?_
        refine RU.cast (pc2 := 34) (S2 := [aI ((v1 : Nat) : Int), aR 226]) rfl rfl rfl ?_
        refine r_cI (c_218 r1.1 r1.2.1 hI v1 (by omega) (by omega)) cd_216_34 rfl rfl rfl (rc0 r1.1 rfl) rfl rfl rfl ?_
        refine r_pop cd_216_37 rfl rfl ?_
        refine r_con (v := 1) cd_216_38 rfl (by decide) ?_
        exact r_ret cd_216_39 (Or.inr rfl) (rfl)
theorem r_219 {h : aH} {s w nu tx : Nat → Int} {N i : Nat} (hM : h.2.2 226 = .inr (8, Mo s)) (htx : h.2.2 233 = .inl (0, 600, .inl tx)) (hb : TxB tx) (hN6 : N ≤ 600) (hT : PS s tx N i) (hi : i ≤ N) (hw : h.2.2 227 = .inl (0, 211, .inl w)) (hnu : h.2.2 235 = .inl (0, 4, .inl nu)) (hI : Inv0 w) : CP 7 219 [aR 226] h s w N (cLau tx N i w) := by
  have hbn := hI.bNe
  have hpn := hI.pNe
  have x0 := hI.len
  have x1 := hI.hour
  have x2 := hI.gas
  have x3 := hI.leak
  have x4 := hI.gn
  have x5 := hI.bn
  have x6 := hI.pn
  rcases hA1 : numA tx N i 0 (w 5 - 1) with ⟨ek, eo⟩ | ⟨v1, j1⟩
  · rw [show cLau tx N i w = .inl (ek, eo) by simp only [cLau, bnd, hA1]]
    obtain ⟨he, hcE, hPE⟩ := c_207e hM htx hb hN6 hT hi hw hnu hI 0 (by decide) hA1
    refine ⟨he, Ct.of [aR 226] rfl ?_, hPE.tr' (RZ.rf hM hw hnu) Fx.rf⟩
    refine r_aldR cd_219_0 rfl rfl ?_
    refine r_con (v := 0) cd_219_1 rfl (by decide) ?_
    refine r_cI hcE cd_219_2 rfl rfl rfl (rc0 hM rfl) rfl rfl rfl ?_
    refine r_if51 cd_219_5 rfl ⟨by omega, by omega⟩ (fun n1 => ?_) (fun n1 => ?_)
    · refine r_con (v := 0) cd_219_33 rfl (by decide) ?_
      exact r_ret cd_219_34 (Or.inl rfl) (rfl)
    · exact absurd n1 (by decide)
  obtain ⟨h1, s1, hc1, r1, t1, l1, f1⟩ := c_207o hM htx hb hN6 hT hi hw hnu hI 0 (by decide) hA1
  have q1 := numA_o hA1 (by decide)
  rcases hS : semA tx N j1 (decide (whyL w v1 = 0)) with ⟨ek, eo⟩ | jS
  · rw [show cLau tx N i w = .inl (ek, eo) by simp only [cLau, bnd, hA1, hS]]
    obtain ⟨he, hcS, hPE⟩ := c_194e r1.1 ((r1.2.2.2.1 233 (by decide) (by decide) (by decide)).trans htx) hb hN6 t1 l1 r1.2.1 r1.2.2.1 hS
    refine ⟨he, Ct.of [aR 226] rfl ?_, hPE.tr' ((RZ.rf hM hw hnu).tr r1) (Fx.rf.tr f1)⟩
    refine r_aldR cd_219_0 rfl rfl ?_
    refine r_con (v := 0) cd_219_1 rfl (by decide) ?_
    refine r_cI hc1 cd_219_2 rfl rfl rfl (rc0 hM rfl) rfl rfl rfl ?_
    refine r_if51 cd_219_5 rfl ⟨by omega, by omega⟩ (fun n1 => ?_) (fun n1 => ?_)
    · exact absurd n1 (by decide)
    · refine r_aldR cd_219_8 rfl rfl ?_
      refine r_aldR cd_219_9 rfl rfl ?_
      refine r_aldR cd_219_10 rfl rfl ?_
      refine r_get cd_219_11 rfl r1.1 rfl ?_
      refine r_con (v := 0) cd_219_14 rfl (by decide) ?_
      refine r_arr (i := 0) cd_219_15 rfl r1.2.2.1 rfl (by omega) rfl ?_
      refine RU.cast (pc2 := 16) (S2 := [aI ((v1 : Nat) : Int), aR 226, aR 226]) rfl rfl rfl ?_
      refine r_cI (c_220 r1.1 r1.2.1 hI v1 (by omega)) cd_219_16 rfl rfl rfl (rc0 r1.1 rfl) rfl rfl rfl ?_
      refine r_if52 cd_219_19 rfl (inR_of (whyL_b _ _) (by decide) (by decide)) (fun n2 => ?_) (fun n2 => ?_)
      · refine r_con (v := 1) cd_219_22 rfl (by decide) ?_
        refine r_goto cd_219_23 ?_
        refine r_cI (by rw [← bz_t (t := decide (whyL w v1 = 0)) (by simp [n2])]; exact hcS) cd_219_27 rfl rfl rfl (rc0 r1.1 rfl) rfl rfl rfl ?_
        refine r_if52 cd_219_30 rfl ⟨by omega, by omega⟩ (fun n3 => ?_) (fun n3 => ?_)
        · refine r_con (v := 0) cd_219_33 rfl (by decide) ?_
          exact r_ret cd_219_34 (Or.inl rfl) (rfl)
        · exact absurd n3 (by decide)
      · refine r_con (v := 0) cd_219_26 rfl (by decide) ?_
        refine r_cI (by rw [← bz_f (t := decide (whyL w v1 = 0)) (by simp [n2])]; exact hcS) cd_219_27 rfl rfl rfl (rc0 r1.1 rfl) rfl rfl rfl ?_
        refine r_if52 cd_219_30 rfl ⟨by omega, by omega⟩ (fun n4 => ?_) (fun n4 => ?_)
        · refine r_con (v := 0) cd_219_33 rfl (by decide) ?_
          exact r_ret cd_219_34 (Or.inl rfl) (rfl)
        · exact absurd n4 (by decide)
  · rw [show cLau tx N i w = .inr (jS, sbo w v1 3 1) by simp only [cLau, bnd, hA1, hS]]
    have hcS := c_194o r1.1 ((r1.2.2.2.1 233 (by decide) (by decide) (by decide)).trans htx) hb hN6 t1 l1 hS
    have qS := semA_o hS
    have hej := (tEnd_b (tx := tx) (N := N) l1).2.1
    refine ⟨sw h1 227 (.inl (0, 211, .inl (sbo w v1 3 1))), s1, (va_up nu 0 ((v1 : Nat) : Int)), Ct.of [aR 226] rfl ?_, ((RZ.rf hM hw hnu).tr r1).w, t1.2.2.2.2.1.trans (by rw [qS.2.2]), t1.1, t1.2.1, by rw [qS.2.2]; exact hej, (Fx.rf.tr f1)⟩
    refine r_aldR cd_219_0 rfl rfl ?_
    refine r_con (v := 0) cd_219_1 rfl (by decide) ?_
    refine r_cI hc1 cd_219_2 rfl rfl rfl (rc0 hM rfl) rfl rfl rfl ?_
    refine r_if51 cd_219_5 rfl ⟨by omega, by omega⟩ (fun n1 => ?_) (fun n1 => ?_)
    · exact absurd n1 (by decide)
    · refine r_aldR cd_219_8 rfl rfl ?_
      refine r_aldR cd_219_9 rfl rfl ?_
      refine r_aldR cd_219_10 rfl rfl ?_
      refine r_get cd_219_11 rfl r1.1 rfl ?_
      refine r_con (v := 0) cd_219_14 rfl (by decide) ?_
      refine r_arr (i := 0) cd_219_15 rfl r1.2.2.1 rfl (by omega) rfl ?_
      refine RU.cast (pc2 := 16) (S2 := [aI ((v1 : Nat) : Int), aR 226, aR 226]) rfl rfl rfl ?_
      refine r_cI (c_220 r1.1 r1.2.1 hI v1 (by omega)) cd_219_16 rfl rfl rfl (rc0 r1.1 rfl) rfl rfl rfl ?_
      refine r_if52 cd_219_19 rfl (inR_of (whyL_b _ _) (by decide) (by decide)) (fun n2 => ?_) (fun n2 => ?_)
      · refine r_con (v := 1) cd_219_22 rfl (by decide) ?_
        refine r_goto cd_219_23 ?_
        refine r_cI (by rw [← bz_t (t := decide (whyL w v1 = 0)) (by simp [n2])]; exact hcS) cd_219_27 rfl rfl rfl (rc0 r1.1 rfl) rfl rfl rfl ?_
        refine r_if52 cd_219_30 rfl ⟨by omega, by omega⟩ (fun n3 => ?_) (fun n3 => ?_)
        · exact absurd n3 (by decide)
        · refine r_aldR cd_219_35 rfl rfl ?_
          refine r_aldR cd_219_36 rfl rfl ?_
          refine r_get cd_219_37 rfl r1.1 rfl ?_
          refine r_con (v := 0) cd_219_40 rfl (by decide) ?_
          refine r_arr (i := 0) cd_219_41 rfl r1.2.2.1 rfl (by omega) rfl ?_
          refine RU.cast (pc2 := 42) (S2 := [aI ((v1 : Nat) : Int), aR 226]) rfl rfl rfl ?_
          refine r_cI (c_222 r1.1 r1.2.1 hI v1 (by omega)) cd_219_42 rfl rfl rfl (rc0 r1.1 rfl) rfl rfl rfl ?_
          refine r_pop cd_219_45 rfl rfl ?_
          refine r_con (v := 1) cd_219_46 rfl (by decide) ?_
          exact r_ret cd_219_47 (Or.inr rfl) (rfl)
      · refine r_con (v := 0) cd_219_26 rfl (by decide) ?_
        refine r_cI (by rw [← bz_f (t := decide (whyL w v1 = 0)) (by simp [n2])]; exact hcS) cd_219_27 rfl rfl rfl (rc0 r1.1 rfl) rfl rfl rfl ?_
        refine r_if52 cd_219_30 rfl ⟨by omega, by omega⟩ (fun n4 => ?_) (fun n4 => ?_)
        · exact absurd n4 (by decide)
        · refine r_aldR cd_219_35 rfl rfl ?_
          refine r_aldR cd_219_36 rfl rfl ?_
          refine r_get cd_219_37 rfl r1.1 rfl ?_
          refine r_con (v := 0) cd_219_40 rfl (by decide) ?_
          refine r_arr (i := 0) cd_219_41 rfl r1.2.2.1 rfl (by omega) rfl ?_
          refine RU.cast (pc2 := 42) (S2 := [aI ((v1 : Nat) : Int), aR 226]) rfl rfl rfl ?_
          refine r_cI (c_222 r1.1 r1.2.1 hI v1 (by omega)) cd_219_42 rfl rfl rfl (rc0 r1.1 rfl) rfl rfl rfl ?_
          refine r_pop cd_219_45 rfl rfl ?_
          refine r_con (v := 1) cd_219_46 rfl (by decide) ?_
          exact r_ret cd_219_47 (Or.inr rfl) (rfl)
theorem r_223 {h : aH} {s w nu tx : Nat → Int} {N i : Nat} (hM : h.2.2 226 = .inr (8, Mo s)) (htx : h.2.2 233 = .inl (0, 600, .inl tx)) (hb : TxB tx) (hN6 : N ≤ 600) (hT : PS s tx N i) (hi : i ≤ N) (hw : h.2.2 227 = .inl (0, 211, .inl w)) (hnu : h.2.2 235 = .inl (0, 4, .inl nu)) (hI : Inv0 w) : CP 5 223 [aR 226] h s w N (cMoo tx N i w) := by
  have hbn := hI.bNe
  have hpn := hI.pNe
  have x0 := hI.len
  have x1 := hI.hour
  have x2 := hI.gas
  have x3 := hI.leak
  have x4 := hI.gn
  have x5 := hI.bn
  have x6 := hI.pn
  rcases hA1 : numA tx N i 0 (w 5 - 1) with ⟨ek, eo⟩ | ⟨v1, j1⟩
  · rw [show cMoo tx N i w = .inl (ek, eo) by simp only [cMoo, bnd, hA1]]
    obtain ⟨he, hcE, hPE⟩ := c_207e hM htx hb hN6 hT hi hw hnu hI 0 (by decide) hA1
    refine ⟨he, Ct.of [aR 226] rfl ?_, hPE.tr' (RZ.rf hM hw hnu) Fx.rf⟩
    refine r_aldR cd_223_0 rfl rfl ?_
    refine r_con (v := 0) cd_223_1 rfl (by decide) ?_
    refine r_cI hcE cd_223_2 rfl rfl rfl (rc0 hM rfl) rfl rfl rfl ?_
    refine r_if51 cd_223_5 rfl ⟨by omega, by omega⟩ (fun n1 => ?_) (fun n1 => ?_)
    · refine r_con (v := 0) cd_223_35 rfl (by decide) ?_
      exact r_ret cd_223_36 (Or.inl rfl) (rfl)
    · exact absurd n1 (by decide)
  obtain ⟨h1, s1, hc1, r1, t1, l1, f1⟩ := c_207o hM htx hb hN6 hT hi hw hnu hI 0 (by decide) hA1
  have q1 := numA_o hA1 (by decide)
  rcases hS : semA tx N j1 (decide (bo w v1 3 = 1)) with ⟨ek, eo⟩ | jS
  · rw [show cMoo tx N i w = .inl (ek, eo) by simp only [cMoo, bnd, hA1, hS]]
    obtain ⟨he, hcS, hPE⟩ := c_194e r1.1 ((r1.2.2.2.1 233 (by decide) (by decide) (by decide)).trans htx) hb hN6 t1 l1 r1.2.1 r1.2.2.1 hS
    refine ⟨he, Ct.of [aR 226] rfl ?_, hPE.tr' ((RZ.rf hM hw hnu).tr r1) (Fx.rf.tr f1)⟩
    refine r_aldR cd_223_0 rfl rfl ?_
    refine r_con (v := 0) cd_223_1 rfl (by decide) ?_
    refine r_cI hc1 cd_223_2 rfl rfl rfl (rc0 hM rfl) rfl rfl rfl ?_
    refine r_if51 cd_223_5 rfl ⟨by omega, by omega⟩ (fun n1 => ?_) (fun n1 => ?_)
    · exact absurd n1 (by decide)
    · refine r_aldR cd_223_8 rfl rfl ?_
      refine r_aldR cd_223_9 rfl rfl ?_
      refine r_aldR cd_223_10 rfl rfl ?_
      refine r_get cd_223_11 rfl r1.1 rfl ?_
      refine r_con (v := 0) cd_223_14 rfl (by decide) ?_
      refine r_arr (i := 0) cd_223_15 rfl r1.2.2.1 rfl (by omega) rfl ?_
      refine RU.cast (pc2 := 16) (S2 := [aI ((v1 : Nat) : Int), aR 226, aR 226]) rfl rfl rfl ?_
      refine r_con (v := 3) cd_223_16 rfl (by decide) ?_
      refine r_cI (c_209 r1.1 r1.2.1 v1 3 (by omega)) cd_223_17 rfl rfl rfl (rc0 r1.1 rfl) rfl rfl rfl ?_
      refine r_con (v := 1) cd_223_20 rfl (by decide) ?_
      refine r_ic62 cd_223_21 rfl (hI.boR (by omega) (by omega)) ⟨by omega, by omega⟩ (fun n2 => ?_) (fun n2 => ?_)
      · refine r_con (v := 1) cd_223_24 rfl (by decide) ?_
        refine r_goto cd_223_25 ?_
        refine r_cI (by rw [← bz_t (t := decide (bo w v1 3 = 1)) (by simp [n2])]; exact hcS) cd_223_29 rfl rfl rfl (rc0 r1.1 rfl) rfl rfl rfl ?_
        refine r_if52 cd_223_32 rfl ⟨by omega, by omega⟩ (fun n3 => ?_) (fun n3 => ?_)
        · refine r_con (v := 0) cd_223_35 rfl (by decide) ?_
          exact r_ret cd_223_36 (Or.inl rfl) (rfl)
        · exact absurd n3 (by decide)
      · refine r_con (v := 0) cd_223_28 rfl (by decide) ?_
        refine r_cI (by rw [← bz_f (t := decide (bo w v1 3 = 1)) (by simp [n2])]; exact hcS) cd_223_29 rfl rfl rfl (rc0 r1.1 rfl) rfl rfl rfl ?_
        refine r_if52 cd_223_32 rfl ⟨by omega, by omega⟩ (fun n4 => ?_) (fun n4 => ?_)
        · refine r_con (v := 0) cd_223_35 rfl (by decide) ?_
          exact r_ret cd_223_36 (Or.inl rfl) (rfl)
        · exact absurd n4 (by decide)
  · rw [show cMoo tx N i w = .inr (jS, sbo w v1 3 0) by simp only [cMoo, bnd, hA1, hS]]
    have hcS := c_194o r1.1 ((r1.2.2.2.1 233 (by decide) (by decide) (by decide)).trans htx) hb hN6 t1 l1 hS
    have qS := semA_o hS
    have hej := (tEnd_b (tx := tx) (N := N) l1).2.1
    refine ⟨sw h1 227 (.inl (0, 211, .inl (sbo w v1 3 0))), s1, (va_up nu 0 ((v1 : Nat) : Int)), Ct.of [aR 226] rfl ?_, ((RZ.rf hM hw hnu).tr r1).w, t1.2.2.2.2.1.trans (by rw [qS.2.2]), t1.1, t1.2.1, by rw [qS.2.2]; exact hej, (Fx.rf.tr f1)⟩
    refine r_aldR cd_223_0 rfl rfl ?_
    refine r_con (v := 0) cd_223_1 rfl (by decide) ?_
    refine r_cI hc1 cd_223_2 rfl rfl rfl (rc0 hM rfl) rfl rfl rfl ?_
    refine r_if51 cd_223_5 rfl ⟨by omega, by omega⟩ (fun n1 => ?_) (fun n1 => ?_)
    · exact absurd n1 (by decide)
    · refine r_aldR cd_223_8 rfl rfl ?_
      refine r_aldR cd_223_9 rfl rfl ?_
      refine r_aldR cd_223_10 rfl rfl ?_
      refine r_get cd_223_11 rfl r1.1 rfl ?_
      refine r_con (v := 0) cd_223_14 rfl (by decide) ?_
      refine r_arr (i := 0) cd_223_15 rfl r1.2.2.1 rfl (by omega) rfl ?_
      refine RU.cast (pc2 := 16) (S2 := [aI ((v1 : Nat) : Int), aR 226, aR 226]) rfl rfl rfl ?_
      refine r_con (v := 3) cd_223_16 rfl (by decide) ?_
      refine r_cI (c_209 r1.1 r1.2.1 v1 3 (by omega)) cd_223_17 rfl rfl rfl (rc0 r1.1 rfl) rfl rfl rfl ?_
      refine r_con (v := 1) cd_223_20 rfl (by decide) ?_
      refine r_ic62 cd_223_21 rfl (hI.boR (by omega) (by omega)) ⟨by omega, by omega⟩ (fun n2 => ?_) (fun n2 => ?_)
      · refine r_con (v := 1) cd_223_24 rfl (by decide) ?_
        refine r_goto cd_223_25 ?_
        refine r_cI (by rw [← bz_t (t := decide (bo w v1 3 = 1)) (by simp [n2])]; exact hcS) cd_223_29 rfl rfl rfl (rc0 r1.1 rfl) rfl rfl rfl ?_
        refine r_if52 cd_223_32 rfl ⟨by omega, by omega⟩ (fun n3 => ?_) (fun n3 => ?_)
        · exact absurd n3 (by decide)
        · refine r_aldR cd_223_37 rfl rfl ?_
          refine r_aldR cd_223_38 rfl rfl ?_
          refine r_get cd_223_39 rfl r1.1 rfl ?_
          refine r_con (v := 0) cd_223_42 rfl (by decide) ?_
          refine r_arr (i := 0) cd_223_43 rfl r1.2.2.1 rfl (by omega) rfl ?_
          refine RU.cast (pc2 := 44) (S2 := [aI ((v1 : Nat) : Int), aR 226]) rfl rfl rfl ?_
          refine r_cI (c_224 r1.1 r1.2.1 v1 (by omega)) cd_223_44 rfl rfl rfl (rc0 r1.1 rfl) rfl rfl rfl ?_
          refine r_pop cd_223_47 rfl rfl ?_
          refine r_con (v := 1) cd_223_48 rfl (by decide) ?_
          exact r_ret cd_223_49 (Or.inr rfl) (rfl)
      · refine r_con (v := 0) cd_223_28 rfl (by decide) ?_
        refine r_cI (by rw [← bz_f (t := decide (bo w v1 3 = 1)) (by simp [n2])]; exact hcS) cd_223_29 rfl rfl rfl (rc0 r1.1 rfl) rfl rfl rfl ?_
        refine r_if52 cd_223_32 rfl ⟨by omega, by omega⟩ (fun n4 => ?_) (fun n4 => ?_)
        · exact absurd n4 (by decide)
        · refine r_aldR cd_223_37 rfl rfl ?_
          refine r_aldR cd_223_38 rfl rfl ?_
          refine r_get cd_223_39 rfl r1.1 rfl ?_
          refine r_con (v := 0) cd_223_42 rfl (by decide) ?_
          refine r_arr (i := 0) cd_223_43 rfl r1.2.2.1 rfl (by omega) rfl ?_
          refine RU.cast (pc2 := 44) (S2 := [aI ((v1 : Nat) : Int), aR 226]) rfl rfl rfl ?_
          refine r_cI (c_224 r1.1 r1.2.1 v1 (by omega)) cd_223_44 rfl rfl rfl (rc0 r1.1 rfl) rfl rfl rfl ?_
          refine r_pop cd_223_47 rfl rfl ?_
          refine r_con (v := 1) cd_223_48 rfl (by decide) ?_
          exact r_ret cd_223_49 (Or.inr rfl) (rfl)
theorem r_225 {h : aH} {s w nu tx : Nat → Int} {N i : Nat} (hM : h.2.2 226 = .inr (8, Mo s)) (htx : h.2.2 233 = .inl (0, 600, .inl tx)) (hb : TxB tx) (hN6 : N ≤ 600) (hT : PS s tx N i) (hi : i ≤ N) (hw : h.2.2 227 = .inl (0, 211, .inl w)) (hnu : h.2.2 235 = .inl (0, 4, .inl nu)) (hI : Inv0 w) : CP 7 225 [aR 226] h s w N (cFre tx N i w) := by
  have hbn := hI.bNe
  have hpn := hI.pNe
  have x0 := hI.len
  have x1 := hI.hour
  have x2 := hI.gas
  have x3 := hI.leak
  have x4 := hI.gn
  have x5 := hI.bn
  have x6 := hI.pn
  rcases hA1 : numA tx N i 0 (w 5 - 1) with ⟨ek, eo⟩ | ⟨v1, j1⟩
  · rw [show cFre tx N i w = .inl (ek, eo) by simp only [cFre, bnd, hA1]]
    obtain ⟨he, hcE, hPE⟩ := c_207e hM htx hb hN6 hT hi hw hnu hI 0 (by decide) hA1
    refine ⟨he, Ct.of [aR 226] rfl ?_, hPE.tr' (RZ.rf hM hw hnu) Fx.rf⟩
    refine r_aldR cd_225_0 rfl rfl ?_
    refine r_con (v := 0) cd_225_1 rfl (by decide) ?_
    refine r_cI hcE cd_225_2 rfl rfl rfl (rc0 hM rfl) rfl rfl rfl ?_
    refine r_if51 cd_225_5 rfl ⟨by omega, by omega⟩ (fun n1 => ?_) (fun n1 => ?_)
    · refine r_con (v := 0) cd_225_35 rfl (by decide) ?_
      exact r_ret cd_225_36 (Or.inl rfl) (rfl)
    · exact absurd n1 (by decide)
  obtain ⟨h1, s1, hc1, r1, t1, l1, f1⟩ := c_207o hM htx hb hN6 hT hi hw hnu hI 0 (by decide) hA1
  have q1 := numA_o hA1 (by decide)
  rcases hS : semA tx N j1 (decide (bo w v1 3 = 2)) with ⟨ek, eo⟩ | jS
  · rw [show cFre tx N i w = .inl (ek, eo) by simp only [cFre, bnd, hA1, hS]]
    obtain ⟨he, hcS, hPE⟩ := c_194e r1.1 ((r1.2.2.2.1 233 (by decide) (by decide) (by decide)).trans htx) hb hN6 t1 l1 r1.2.1 r1.2.2.1 hS
    refine ⟨he, Ct.of [aR 226] rfl ?_, hPE.tr' ((RZ.rf hM hw hnu).tr r1) (Fx.rf.tr f1)⟩
    refine r_aldR cd_225_0 rfl rfl ?_
    refine r_con (v := 0) cd_225_1 rfl (by decide) ?_
    refine r_cI hc1 cd_225_2 rfl rfl rfl (rc0 hM rfl) rfl rfl rfl ?_
    refine r_if51 cd_225_5 rfl ⟨by omega, by omega⟩ (fun n1 => ?_) (fun n1 => ?_)
    · exact absurd n1 (by decide)
    · refine r_aldR cd_225_8 rfl rfl ?_
      refine r_aldR cd_225_9 rfl rfl ?_
      refine r_aldR cd_225_10 rfl rfl ?_
      refine r_get cd_225_11 rfl r1.1 rfl ?_
      refine r_con (v := 0) cd_225_14 rfl (by decide) ?_
      refine r_arr (i := 0) cd_225_15 rfl r1.2.2.1 rfl (by omega) rfl ?_
      refine RU.cast (pc2 := 16) (S2 := [aI ((v1 : Nat) : Int), aR 226, aR 226]) rfl rfl rfl ?_
      refine r_con (v := 3) cd_225_16 rfl (by decide) ?_
      refine r_cI (c_209 r1.1 r1.2.1 v1 3 (by omega)) cd_225_17 rfl rfl rfl (rc0 r1.1 rfl) rfl rfl rfl ?_
      refine r_con (v := 2) cd_225_20 rfl (by decide) ?_
      refine r_ic62 cd_225_21 rfl (hI.boR (by omega) (by omega)) ⟨by omega, by omega⟩ (fun n2 => ?_) (fun n2 => ?_)
      · refine r_con (v := 1) cd_225_24 rfl (by decide) ?_
        refine r_goto cd_225_25 ?_
        refine r_cI (by rw [← bz_t (t := decide (bo w v1 3 = 2)) (by simp [n2])]; exact hcS) cd_225_29 rfl rfl rfl (rc0 r1.1 rfl) rfl rfl rfl ?_
        refine r_if52 cd_225_32 rfl ⟨by omega, by omega⟩ (fun n3 => ?_) (fun n3 => ?_)
        · refine r_con (v := 0) cd_225_35 rfl (by decide) ?_
          exact r_ret cd_225_36 (Or.inl rfl) (rfl)
        · exact absurd n3 (by decide)
      · refine r_con (v := 0) cd_225_28 rfl (by decide) ?_
        refine r_cI (by rw [← bz_f (t := decide (bo w v1 3 = 2)) (by simp [n2])]; exact hcS) cd_225_29 rfl rfl rfl (rc0 r1.1 rfl) rfl rfl rfl ?_
        refine r_if52 cd_225_32 rfl ⟨by omega, by omega⟩ (fun n4 => ?_) (fun n4 => ?_)
        · refine r_con (v := 0) cd_225_35 rfl (by decide) ?_
          exact r_ret cd_225_36 (Or.inl rfl) (rfl)
        · exact absurd n4 (by decide)
  · rw [show cFre tx N i w = .inr (jS, freeW w v1) by simp only [cFre, bnd, hA1, hS]]
    have hcS := c_194o r1.1 ((r1.2.2.2.1 233 (by decide) (by decide) (by decide)).trans htx) hb hN6 t1 l1 hS
    have qS := semA_o hS
    have hej := (tEnd_b (tx := tx) (N := N) l1).2.1
    refine ⟨sw h1 227 (.inl (0, 211, .inl (freeW w v1))), s1, (va_up nu 0 ((v1 : Nat) : Int)), Ct.of [aR 226] rfl ?_, ((RZ.rf hM hw hnu).tr r1).w, t1.2.2.2.2.1.trans (by rw [qS.2.2]), t1.1, t1.2.1, by rw [qS.2.2]; exact hej, (Fx.rf.tr f1)⟩
    refine r_aldR cd_225_0 rfl rfl ?_
    refine r_con (v := 0) cd_225_1 rfl (by decide) ?_
    refine r_cI hc1 cd_225_2 rfl rfl rfl (rc0 hM rfl) rfl rfl rfl ?_
    refine r_if51 cd_225_5 rfl ⟨by omega, by omega⟩ (fun n1 => ?_) (fun n1 => ?_)
    · exact absurd n1 (by decide)
    · refine r_aldR cd_225_8 rfl rfl ?_
      refine r_aldR cd_225_9 rfl rfl ?_
      refine r_aldR cd_225_10 rfl rfl ?_
      refine r_get cd_225_11 rfl r1.1 rfl ?_
      refine r_con (v := 0) cd_225_14 rfl (by decide) ?_
      refine r_arr (i := 0) cd_225_15 rfl r1.2.2.1 rfl (by omega) rfl ?_
      refine RU.cast (pc2 := 16) (S2 := [aI ((v1 : Nat) : Int), aR 226, aR 226]) rfl rfl rfl ?_
      refine r_con (v := 3) cd_225_16 rfl (by decide) ?_
      refine r_cI (c_209 r1.1 r1.2.1 v1 3 (by omega)) cd_225_17 rfl rfl rfl (rc0 r1.1 rfl) rfl rfl rfl ?_
      refine r_con (v := 2) cd_225_20 rfl (by decide) ?_
      refine r_ic62 cd_225_21 rfl (hI.boR (by omega) (by omega)) ⟨by omega, by omega⟩ (fun n2 => ?_) (fun n2 => ?_)
      · refine r_con (v := 1) cd_225_24 rfl (by decide) ?_
        refine r_goto cd_225_25 ?_
        refine r_cI (by rw [← bz_t (t := decide (bo w v1 3 = 2)) (by simp [n2])]; exact hcS) cd_225_29 rfl rfl rfl (rc0 r1.1 rfl) rfl rfl rfl ?_
        refine r_if52 cd_225_32 rfl ⟨by omega, by omega⟩ (fun n3 => ?_) (fun n3 => ?_)
        · exact absurd n3 (by decide)
        · refine r_aldR cd_225_37 rfl rfl ?_
          refine r_aldR cd_225_38 rfl rfl ?_
          refine r_get cd_225_39 rfl r1.1 rfl ?_
          refine r_con (v := 0) cd_225_42 rfl (by decide) ?_
          refine r_arr (i := 0) cd_225_43 rfl r1.2.2.1 rfl (by omega) rfl ?_
          refine RU.cast (pc2 := 44) (S2 := [aI ((v1 : Nat) : Int), aR 226]) rfl rfl rfl ?_
          refine r_cI (c_226 r1.1 r1.2.1 hI v1 (by omega)) cd_225_44 rfl rfl rfl (rc0 r1.1 rfl) rfl rfl rfl ?_
          refine r_pop cd_225_47 rfl rfl ?_
          refine r_con (v := 1) cd_225_48 rfl (by decide) ?_
          exact r_ret cd_225_49 (Or.inr rfl) (rfl)
      · refine r_con (v := 0) cd_225_28 rfl (by decide) ?_
        refine r_cI (by rw [← bz_f (t := decide (bo w v1 3 = 2)) (by simp [n2])]; exact hcS) cd_225_29 rfl rfl rfl (rc0 r1.1 rfl) rfl rfl rfl ?_
        refine r_if52 cd_225_32 rfl ⟨by omega, by omega⟩ (fun n4 => ?_) (fun n4 => ?_)
        · exact absurd n4 (by decide)
        · refine r_aldR cd_225_37 rfl rfl ?_
          refine r_aldR cd_225_38 rfl rfl ?_
          refine r_get cd_225_39 rfl r1.1 rfl ?_
          refine r_con (v := 0) cd_225_42 rfl (by decide) ?_
          refine r_arr (i := 0) cd_225_43 rfl r1.2.2.1 rfl (by omega) rfl ?_
          refine RU.cast (pc2 := 44) (S2 := [aI ((v1 : Nat) : Int), aR 226]) rfl rfl rfl ?_
          refine r_cI (c_226 r1.1 r1.2.1 hI v1 (by omega)) cd_225_44 rfl rfl rfl (rc0 r1.1 rfl) rfl rfl rfl ?_
          refine r_pop cd_225_47 rfl rfl ?_
          refine r_con (v := 1) cd_225_48 rfl (by decide) ?_
          exact r_ret cd_225_49 (Or.inr rfl) (rfl)
theorem r_230 {h : aH} {s w nu tx : Nat → Int} {N i : Nat} (hM : h.2.2 226 = .inr (8, Mo s)) (htx : h.2.2 233 = .inl (0, 600, .inl tx)) (hb : TxB tx) (hN6 : N ≤ 600) (hT : PS s tx N i) (hi : i ≤ N) (hw : h.2.2 227 = .inl (0, 211, .inl w)) (hnu : h.2.2 235 = .inl (0, 4, .inl nu)) (hI : Inv0 w) : CP 5 230 [aR 226] h s w N (cFil tx N i w) := by
  have hbn := hI.bNe
  have hpn := hI.pNe
  have x0 := hI.len
  have x1 := hI.hour
  have x2 := hI.gas
  have x3 := hI.leak
  have x4 := hI.gn
  have x5 := hI.bn
  have x6 := hI.pn
  rcases hA1 : numA tx N i 0 (w 5 - 1) with ⟨ek, eo⟩ | ⟨v1, j1⟩
  · rw [show cFil tx N i w = .inl (ek, eo) by simp only [cFil, bnd, hA1]]
    obtain ⟨he, hcE, hPE⟩ := c_207e hM htx hb hN6 hT hi hw hnu hI 0 (by decide) hA1
    refine ⟨he, Ct.of [aR 226] rfl ?_, hPE.tr' (RZ.rf hM hw hnu) Fx.rf⟩
    refine r_aldR cd_230_0 rfl rfl ?_
    refine r_con (v := 0) cd_230_1 rfl (by decide) ?_
    refine r_cI hcE cd_230_2 rfl rfl rfl (rc0 hM rfl) rfl rfl rfl ?_
    refine r_if51 cd_230_5 rfl ⟨by omega, by omega⟩ (fun n1 => ?_) (fun n1 => ?_)
    · refine r_con (v := 0) cd_230_42 rfl (by decide) ?_
      exact r_ret cd_230_43 (Or.inl rfl) (rfl)
    · exact absurd n1 (by decide)
  obtain ⟨h1, s1, hc1, r1, t1, l1, f1⟩ := c_207o hM htx hb hN6 hT hi hw hnu hI 0 (by decide) hA1
  have q1 := numA_o hA1 (by decide)
  rcases hA2 : numA tx N j1 1 (29) with ⟨ek, eo⟩ | ⟨v2, j2⟩
  · rw [show cFil tx N i w = .inl (ek, eo) by simp only [cFil, bnd, hA1, hA2]]
    obtain ⟨he, hcE, hPE⟩ := c_184e r1.1 ((r1.2.2.2.1 233 (by decide) (by decide) (by decide)).trans htx) hb hN6 t1 l1 r1.2.1 r1.2.2.1 1 (by decide) 1 ⟨by decide, by decide⟩ 29 ⟨by decide, by decide⟩ (by decide) hA2
    refine ⟨he, Ct.of [aR 226] rfl ?_, hPE.tr' ((RZ.rf hM hw hnu).tr r1) (Fx.rf.tr f1)⟩
    refine r_aldR cd_230_0 rfl rfl ?_
    refine r_con (v := 0) cd_230_1 rfl (by decide) ?_
    refine r_cI hc1 cd_230_2 rfl rfl rfl (rc0 hM rfl) rfl rfl rfl ?_
    refine r_if51 cd_230_5 rfl ⟨by omega, by omega⟩ (fun n1 => ?_) (fun n1 => ?_)
    · exact absurd n1 (by decide)
    · refine r_aldR cd_230_8 rfl rfl ?_
      refine r_con (v := 1) cd_230_9 rfl (by decide) ?_
      refine r_con (v := 1) cd_230_10 rfl (by decide) ?_
      refine r_con (v := 29) cd_230_11 rfl (by decide) ?_
      refine r_cI hcE cd_230_13 rfl rfl rfl (rc0 r1.1 rfl) rfl rfl rfl ?_
      refine r_if51 cd_230_16 rfl ⟨by omega, by omega⟩ (fun n2 => ?_) (fun n2 => ?_)
      · refine r_con (v := 0) cd_230_42 rfl (by decide) ?_
        exact r_ret cd_230_43 (Or.inl rfl) (rfl)
      · exact absurd n2 (by decide)
  obtain ⟨h2, s2, hc2, r2, t2, l2, f2⟩ := c_184o r1.1 ((r1.2.2.2.1 233 (by decide) (by decide) (by decide)).trans htx) hb hN6 t1 l1 r1.2.1 r1.2.2.1 1 (by decide) 1 ⟨by decide, by decide⟩ 29 ⟨by decide, by decide⟩ (by decide) hA2
  have q2 := numA_o hA2 (by decide)
  rcases hS : semA tx N j2 (canF w v1 ((v2 : Nat) : Int)) with ⟨ek, eo⟩ | jS
  · rw [show cFil tx N i w = .inl (ek, eo) by simp only [cFil, bnd, hA1, hA2, hS]]
    obtain ⟨he, hcS, hPE⟩ := c_194e r2.1 ((r2.2.2.2.1 233 (by decide) (by decide) (by decide)).trans ((r1.2.2.2.1 233 (by decide) (by decide) (by decide)).trans htx)) hb hN6 t2 l2 r2.2.1 r2.2.2.1 hS
    refine ⟨he, Ct.of [aR 226] rfl ?_, hPE.tr' (((RZ.rf hM hw hnu).tr r1).tr r2) ((Fx.rf.tr f1).tr f2)⟩
    refine r_aldR cd_230_0 rfl rfl ?_
    refine r_con (v := 0) cd_230_1 rfl (by decide) ?_
    refine r_cI hc1 cd_230_2 rfl rfl rfl (rc0 hM rfl) rfl rfl rfl ?_
    refine r_if51 cd_230_5 rfl ⟨by omega, by omega⟩ (fun n1 => ?_) (fun n1 => ?_)
    · exact absurd n1 (by decide)
    · refine r_aldR cd_230_8 rfl rfl ?_
      refine r_con (v := 1) cd_230_9 rfl (by decide) ?_
      refine r_con (v := 1) cd_230_10 rfl (by decide) ?_
      refine r_con (v := 29) cd_230_11 rfl (by decide) ?_
      refine r_cI hc2 cd_230_13 rfl rfl rfl (rc0 r1.1 rfl) rfl rfl rfl ?_
      refine r_if51 cd_230_16 rfl ⟨by omega, by omega⟩ (fun n2 => ?_) (fun n2 => ?_)
      · exact absurd n2 (by decide)
      · refine r_aldR cd_230_19 rfl rfl ?_
        refine r_aldR cd_230_20 rfl rfl ?_
        refine r_aldR cd_230_21 rfl rfl ?_
        refine r_get cd_230_22 rfl r2.1 rfl ?_
        refine r_con (v := 0) cd_230_25 rfl (by decide) ?_
        refine r_arr (i := 0) cd_230_26 rfl r2.2.2.1 rfl (by omega) rfl ?_
        refine RU.cast (pc2 := 27) (S2 := [aI ((v1 : Nat) : Int), aR 226, aR 226]) rfl rfl rfl ?_
        refine r_aldR cd_230_27 rfl rfl ?_
        refine r_get cd_230_28 rfl r2.1 rfl ?_
        refine r_con (v := 1) cd_230_31 rfl (by decide) ?_
        refine r_arr (i := 1) cd_230_32 rfl r2.2.2.1 rfl (by omega) rfl ?_
        refine RU.cast (pc2 := 33) (S2 := [aI ((v2 : Nat) : Int), aI ((v1 : Nat) : Int), aR 226, aR 226]) rfl rfl rfl ?_
        refine r_cI (c_231 r2.1 r2.2.1 hI v1 ((v2 : Nat) : Int) ⟨by omega, by omega⟩ (by omega) (by omega) (by omega)) cd_230_33 rfl rfl rfl (rc0 r2.1 rfl) rfl rfl rfl ?_
        refine r_cI hcS cd_230_36 rfl rfl rfl (rc0 r2.1 rfl) rfl rfl rfl ?_
        refine r_if52 cd_230_39 rfl ⟨by omega, by omega⟩ (fun n3 => ?_) (fun n3 => ?_)
        · refine r_con (v := 0) cd_230_42 rfl (by decide) ?_
          exact r_ret cd_230_43 (Or.inl rfl) (rfl)
        · exact absurd n3 (by decide)
  · rw [show cFil tx N i w = .inr (jS, fillW w v1 ((v2 : Nat) : Int)) by simp only [cFil, bnd, hA1, hA2, hS]]
    have hcS := c_194o r2.1 ((r2.2.2.2.1 233 (by decide) (by decide) (by decide)).trans ((r1.2.2.2.1 233 (by decide) (by decide) (by decide)).trans htx)) hb hN6 t2 l2 hS
    have qS := semA_o hS
    have hej := (tEnd_b (tx := tx) (N := N) l2).2.1
    refine ⟨sw h2 227 (.inl (0, 211, .inl (fillW w v1 ((v2 : Nat) : Int)))), s2, (va_up (va_up nu 0 ((v1 : Nat) : Int)) 1 ((v2 : Nat) : Int)), Ct.of [aR 226] rfl ?_, (((RZ.rf hM hw hnu).tr r1).tr r2).w, t2.2.2.2.2.1.trans (by rw [qS.2.2]), t2.1, t2.2.1, by rw [qS.2.2]; exact hej, ((Fx.rf.tr f1).tr f2)⟩
    refine r_aldR cd_230_0 rfl rfl ?_
    refine r_con (v := 0) cd_230_1 rfl (by decide) ?_
    refine r_cI hc1 cd_230_2 rfl rfl rfl (rc0 hM rfl) rfl rfl rfl ?_
    refine r_if51 cd_230_5 rfl ⟨by omega, by omega⟩ (fun n1 => ?_) (fun n1 => ?_)
    · exact absurd n1 (by decide)
    · refine r_aldR cd_230_8 rfl rfl ?_
      refine r_con (v := 1) cd_230_9 rfl (by decide) ?_
      refine r_con (v := 1) cd_230_10 rfl (by decide) ?_
      refine r_con (v := 29) cd_230_11 rfl (by decide) ?_
      refine r_cI hc2 cd_230_13 rfl rfl rfl (rc0 r1.1 rfl) rfl rfl rfl ?_
      refine r_if51 cd_230_16 rfl ⟨by omega, by omega⟩ (fun n2 => ?_) (fun n2 => ?_)
      · exact absurd n2 (by decide)
      · refine r_aldR cd_230_19 rfl rfl ?_
        refine r_aldR cd_230_20 rfl rfl ?_
        refine r_aldR cd_230_21 rfl rfl ?_
        refine r_get cd_230_22 rfl r2.1 rfl ?_
        refine r_con (v := 0) cd_230_25 rfl (by decide) ?_
        refine r_arr (i := 0) cd_230_26 rfl r2.2.2.1 rfl (by omega) rfl ?_
        refine RU.cast (pc2 := 27) (S2 := [aI ((v1 : Nat) : Int), aR 226, aR 226]) rfl rfl rfl ?_
        refine r_aldR cd_230_27 rfl rfl ?_
        refine r_get cd_230_28 rfl r2.1 rfl ?_
        refine r_con (v := 1) cd_230_31 rfl (by decide) ?_
        refine r_arr (i := 1) cd_230_32 rfl r2.2.2.1 rfl (by omega) rfl ?_
        refine RU.cast (pc2 := 33) (S2 := [aI ((v2 : Nat) : Int), aI ((v1 : Nat) : Int), aR 226, aR 226]) rfl rfl rfl ?_
        refine r_cI (c_231 r2.1 r2.2.1 hI v1 ((v2 : Nat) : Int) ⟨by omega, by omega⟩ (by omega) (by omega) (by omega)) cd_230_33 rfl rfl rfl (rc0 r2.1 rfl) rfl rfl rfl ?_
        refine r_cI hcS cd_230_36 rfl rfl rfl (rc0 r2.1 rfl) rfl rfl rfl ?_
        refine r_if52 cd_230_39 rfl ⟨by omega, by omega⟩ (fun n3 => ?_) (fun n3 => ?_)
        · exact absurd n3 (by decide)
        · refine r_aldR cd_230_44 rfl rfl ?_
          refine r_aldR cd_230_45 rfl rfl ?_
          refine r_get cd_230_46 rfl r2.1 rfl ?_
          refine r_con (v := 0) cd_230_49 rfl (by decide) ?_
          refine r_arr (i := 0) cd_230_50 rfl r2.2.2.1 rfl (by omega) rfl ?_
          refine RU.cast (pc2 := 51) (S2 := [aI ((v1 : Nat) : Int), aR 226]) rfl rfl rfl ?_
          refine r_aldR cd_230_51 rfl rfl ?_
          refine r_get cd_230_52 rfl r2.1 rfl ?_
          refine r_con (v := 1) cd_230_55 rfl (by decide) ?_
          refine r_arr (i := 1) cd_230_56 rfl r2.2.2.1 rfl (by omega) rfl ?_
          refine RU.cast (pc2 := 57) (S2 := [aI ((v2 : Nat) : Int), aI ((v1 : Nat) : Int), aR 226]) rfl rfl rfl ?_
          refine r_cI (c_232 r2.1 r2.2.1 v1 ((v2 : Nat) : Int) (by omega)) cd_230_57 rfl rfl rfl (rc0 r2.1 rfl) rfl rfl rfl ?_
          refine r_pop cd_230_60 rfl rfl ?_
          refine r_con (v := 1) cd_230_61 rfl (by decide) ?_
          exact r_ret cd_230_62 (Or.inr rfl) (rfl)
theorem r_233 {h : aH} {s w nu tx : Nat → Int} {N i : Nat} (hM : h.2.2 226 = .inr (8, Mo s)) (htx : h.2.2 233 = .inl (0, 600, .inl tx)) (hb : TxB tx) (hN6 : N ≤ 600) (hT : PS s tx N i) (hi : i ≤ N) (hw : h.2.2 227 = .inl (0, 211, .inl w)) (hnu : h.2.2 235 = .inl (0, 4, .inl nu)) (hI : Inv0 w) : CP 4 233 [aR 226] h s w N (cGas tx N i w) := by
  have hbn := hI.bNe
  have hpn := hI.pNe
  have x0 := hI.len
  have x1 := hI.hour
  have x2 := hI.gas
  have x3 := hI.leak
  have x4 := hI.gn
  have x5 := hI.bn
  have x6 := hI.pn
  rcases hA1 : numA tx N i 1 (200) with ⟨ek, eo⟩ | ⟨v1, j1⟩
  · rw [show cGas tx N i w = .inl (ek, eo) by simp only [cGas, bnd, hA1]]
    obtain ⟨he, hcE, hPE⟩ := c_184e hM htx hb hN6 hT hi hw hnu 0 (by decide) 1 ⟨by decide, by decide⟩ 200 ⟨by decide, by decide⟩ (by decide) hA1
    refine ⟨he, Ct.of [aR 226] rfl ?_, hPE.tr' (RZ.rf hM hw hnu) Fx.rf⟩
    refine r_aldR cd_233_0 rfl rfl ?_
    refine r_con (v := 0) cd_233_1 rfl (by decide) ?_
    refine r_con (v := 1) cd_233_2 rfl (by decide) ?_
    refine r_con (v := 200) cd_233_3 rfl (by decide) ?_
    refine r_cI hcE cd_233_6 rfl rfl rfl (rc0 hM rfl) rfl rfl rfl ?_
    refine r_if51 cd_233_9 rfl ⟨by omega, by omega⟩ (fun n1 => ?_) (fun n1 => ?_)
    · refine r_con (v := 0) cd_233_43 rfl (by decide) ?_
      exact r_ret cd_233_44 (Or.inl rfl) (rfl)
    · exact absurd n1 (by decide)
  obtain ⟨h1, s1, hc1, r1, t1, l1, f1⟩ := c_184o hM htx hb hN6 hT hi hw hnu 0 (by decide) 1 ⟨by decide, by decide⟩ 200 ⟨by decide, by decide⟩ (by decide) hA1
  have q1 := numA_o hA1 (by decide)
  rcases hS : semA tx N j1 (!decide (999 < w 2 + ((v1 : Nat) : Int))) with ⟨ek, eo⟩ | jS
  · rw [show cGas tx N i w = .inl (ek, eo) by simp only [cGas, bnd, hA1, hS]]
    obtain ⟨he, hcS, hPE⟩ := c_194e r1.1 ((r1.2.2.2.1 233 (by decide) (by decide) (by decide)).trans htx) hb hN6 t1 l1 r1.2.1 r1.2.2.1 hS
    refine ⟨he, Ct.of [aR 226] rfl ?_, hPE.tr' ((RZ.rf hM hw hnu).tr r1) (Fx.rf.tr f1)⟩
    refine r_aldR cd_233_0 rfl rfl ?_
    refine r_con (v := 0) cd_233_1 rfl (by decide) ?_
    refine r_con (v := 1) cd_233_2 rfl (by decide) ?_
    refine r_con (v := 200) cd_233_3 rfl (by decide) ?_
    refine r_cI hc1 cd_233_6 rfl rfl rfl (rc0 hM rfl) rfl rfl rfl ?_
    refine r_if51 cd_233_9 rfl ⟨by omega, by omega⟩ (fun n1 => ?_) (fun n1 => ?_)
    · exact absurd n1 (by decide)
    · refine r_aldR cd_233_12 rfl rfl ?_
      refine r_aldR cd_233_13 rfl rfl ?_
      refine r_get cd_233_14 rfl r1.1 rfl ?_
      refine r_con (v := 2) cd_233_17 rfl (by decide) ?_
      refine r_arr (i := 2) cd_233_18 rfl r1.2.1 rfl (by omega) rfl ?_
      refine r_aldR cd_233_19 rfl rfl ?_
      refine r_get cd_233_20 rfl r1.1 rfl ?_
      refine r_con (v := 0) cd_233_23 rfl (by decide) ?_
      refine r_arr (i := 0) cd_233_24 rfl r1.2.2.1 rfl (by omega) rfl ?_
      refine RU.cast (pc2 := 25) (S2 := [aI ((v1 : Nat) : Int), aI (w 2), aR 226]) rfl rfl rfl ?_
      refine r_add (v := (w 2) + ((v1 : Nat) : Int)) cd_233_25 rfl (by rfl) ?_
      refine r_con (v := 999) cd_233_26 rfl (by decide) ?_
      refine r_ic65 cd_233_29 rfl ⟨by omega, by omega⟩ ⟨by omega, by omega⟩ (fun n2 => ?_) (fun n2 => ?_)
      · refine r_con (v := 0) cd_233_36 rfl (by decide) ?_
        refine r_cI (by rw [← bz_f (t := !decide (999 < w 2 + ((v1 : Nat) : Int))) (by simp [n2])]; exact hcS) cd_233_37 rfl rfl rfl (rc0 r1.1 rfl) rfl rfl rfl ?_
        refine r_if52 cd_233_40 rfl ⟨by omega, by omega⟩ (fun n3 => ?_) (fun n3 => ?_)
        · refine r_con (v := 0) cd_233_43 rfl (by decide) ?_
          exact r_ret cd_233_44 (Or.inl rfl) (rfl)
        · exact absurd n3 (by decide)
      · refine r_con (v := 1) cd_233_32 rfl (by decide) ?_
        refine r_goto cd_233_33 ?_
        refine r_cI (by rw [← bz_t (t := !decide (999 < w 2 + ((v1 : Nat) : Int))) (by simp [n2])]; exact hcS) cd_233_37 rfl rfl rfl (rc0 r1.1 rfl) rfl rfl rfl ?_
        refine r_if52 cd_233_40 rfl ⟨by omega, by omega⟩ (fun n4 => ?_) (fun n4 => ?_)
        · refine r_con (v := 0) cd_233_43 rfl (by decide) ?_
          exact r_ret cd_233_44 (Or.inl rfl) (rfl)
        · exact absurd n4 (by decide)
  · rw [show cGas tx N i w = .inr (jS, va_up w 2 (w 2 + ((v1 : Nat) : Int))) by simp only [cGas, bnd, hA1, hS]]
    have hcS := c_194o r1.1 ((r1.2.2.2.1 233 (by decide) (by decide) (by decide)).trans htx) hb hN6 t1 l1 hS
    have qS := semA_o hS
    have hej := (tEnd_b (tx := tx) (N := N) l1).2.1
    refine ⟨sw h1 227 (.inl (0, 211, .inl (va_up w 2 (w 2 + ((v1 : Nat) : Int))))), s1, (va_up nu 0 ((v1 : Nat) : Int)), Ct.of [aR 226] rfl ?_, ((RZ.rf hM hw hnu).tr r1).w, t1.2.2.2.2.1.trans (by rw [qS.2.2]), t1.1, t1.2.1, by rw [qS.2.2]; exact hej, (Fx.rf.tr f1)⟩
    refine r_aldR cd_233_0 rfl rfl ?_
    refine r_con (v := 0) cd_233_1 rfl (by decide) ?_
    refine r_con (v := 1) cd_233_2 rfl (by decide) ?_
    refine r_con (v := 200) cd_233_3 rfl (by decide) ?_
    refine r_cI hc1 cd_233_6 rfl rfl rfl (rc0 hM rfl) rfl rfl rfl ?_
    refine r_if51 cd_233_9 rfl ⟨by omega, by omega⟩ (fun n1 => ?_) (fun n1 => ?_)
    · exact absurd n1 (by decide)
    · refine r_aldR cd_233_12 rfl rfl ?_
      refine r_aldR cd_233_13 rfl rfl ?_
      refine r_get cd_233_14 rfl r1.1 rfl ?_
      refine r_con (v := 2) cd_233_17 rfl (by decide) ?_
      refine r_arr (i := 2) cd_233_18 rfl r1.2.1 rfl (by omega) rfl ?_
      refine r_aldR cd_233_19 rfl rfl ?_
      refine r_get cd_233_20 rfl r1.1 rfl ?_
      refine r_con (v := 0) cd_233_23 rfl (by decide) ?_
      refine r_arr (i := 0) cd_233_24 rfl r1.2.2.1 rfl (by omega) rfl ?_
      refine RU.cast (pc2 := 25) (S2 := [aI ((v1 : Nat) : Int), aI (w 2), aR 226]) rfl rfl rfl ?_
      refine r_add (v := (w 2) + ((v1 : Nat) : Int)) cd_233_25 rfl (by rfl) ?_
      refine r_con (v := 999) cd_233_26 rfl (by decide) ?_
      refine r_ic65 cd_233_29 rfl ⟨by omega, by omega⟩ ⟨by omega, by omega⟩ (fun n2 => ?_) (fun n2 => ?_)
      · refine r_con (v := 0) cd_233_36 rfl (by decide) ?_
        refine r_cI (by rw [← bz_f (t := !decide (999 < w 2 + ((v1 : Nat) : Int))) (by simp [n2])]; exact hcS) cd_233_37 rfl rfl rfl (rc0 r1.1 rfl) rfl rfl rfl ?_
        refine r_if52 cd_233_40 rfl ⟨by omega, by omega⟩ (fun n3 => ?_) (fun n3 => ?_)
        · exact absurd n3 (by decide)
        · refine r_aldR cd_233_45 rfl rfl ?_
          refine r_get cd_233_46 rfl r1.1 rfl ?_
          refine r_con (v := 2) cd_233_49 rfl (by decide) ?_
          refine r_dup2 cd_233_50 rfl rfl rfl ?_
          refine r_arr (i := 2) cd_233_51 rfl r1.2.1 rfl (by omega) rfl ?_
          refine r_aldR cd_233_52 rfl rfl ?_
          refine r_get cd_233_53 rfl r1.1 rfl ?_
          refine r_con (v := 0) cd_233_56 rfl (by decide) ?_
          refine r_arr (i := 0) cd_233_57 rfl r1.2.2.1 rfl (by omega) rfl ?_
          refine RU.cast (pc2 := 58) (S2 := [aI ((v1 : Nat) : Int), aI (w 2), aI 2, aR 227]) rfl rfl rfl ?_
          refine r_add (v := (w 2) + ((v1 : Nat) : Int)) cd_233_58 rfl (by rfl) ?_
          refine r_arsI (i := 2) cd_233_59 rfl rfl r1.2.1 rfl (by omega) rfl ?_
          refine r_con (v := 1) cd_233_60 rfl (by decide) ?_
          exact r_ret cd_233_61 (Or.inr rfl) (rfl)
      · refine r_con (v := 1) cd_233_32 rfl (by decide) ?_
        refine r_goto cd_233_33 ?_
        refine r_cI (by rw [← bz_t (t := !decide (999 < w 2 + ((v1 : Nat) : Int))) (by simp [n2])]; exact hcS) cd_233_37 rfl rfl rfl (rc0 r1.1 rfl) rfl rfl rfl ?_
        refine r_if52 cd_233_40 rfl ⟨by omega, by omega⟩ (fun n4 => ?_) (fun n4 => ?_)
        · exact absurd n4 (by decide)
        · refine r_aldR cd_233_45 rfl rfl ?_
          refine r_get cd_233_46 rfl r1.1 rfl ?_
          refine r_con (v := 2) cd_233_49 rfl (by decide) ?_
          refine r_dup2 cd_233_50 rfl rfl rfl ?_
          refine r_arr (i := 2) cd_233_51 rfl r1.2.1 rfl (by omega) rfl ?_
          refine r_aldR cd_233_52 rfl rfl ?_
          refine r_get cd_233_53 rfl r1.1 rfl ?_
          refine r_con (v := 0) cd_233_56 rfl (by decide) ?_
          refine r_arr (i := 0) cd_233_57 rfl r1.2.2.1 rfl (by omega) rfl ?_
          refine RU.cast (pc2 := 58) (S2 := [aI ((v1 : Nat) : Int), aI (w 2), aI 2, aR 227]) rfl rfl rfl ?_
          refine r_add (v := (w 2) + ((v1 : Nat) : Int)) cd_233_58 rfl (by rfl) ?_
          refine r_arsI (i := 2) cd_233_59 rfl rfl r1.2.1 rfl (by omega) rfl ?_
          refine r_con (v := 1) cd_233_60 rfl (by decide) ?_
          exact r_ret cd_233_61 (Or.inr rfl) (rfl)
theorem r_240 {h : aH} {s w nu tx : Nat → Int} {N i : Nat} (hM : h.2.2 226 = .inr (8, Mo s)) (htx : h.2.2 233 = .inl (0, 600, .inl tx)) (hb : TxB tx) (hN6 : N ≤ 600) (hT : PS s tx N i) (hi : i ≤ N) (hw : h.2.2 227 = .inl (0, 211, .inl w)) (hnu : h.2.2 235 = .inl (0, 4, .inl nu)) (hI : Inv0 w) : CP 8 240 [aR 226] h s w N (cHrs tx N i w) := by
  have hbn := hI.bNe
  have hpn := hI.pNe
  have x0 := hI.len
  have x1 := hI.hour
  have x2 := hI.gas
  have x3 := hI.leak
  have x4 := hI.gn
  have x5 := hI.bn
  have x6 := hI.pn
  rcases hA1 : numA tx N i 1 (24) with ⟨ek, eo⟩ | ⟨v1, j1⟩
  · rw [show cHrs tx N i w = .inl (ek, eo) by simp only [cHrs, bnd, hA1]]
    obtain ⟨he, hcE, hPE⟩ := c_184e hM htx hb hN6 hT hi hw hnu 0 (by decide) 1 ⟨by decide, by decide⟩ 24 ⟨by decide, by decide⟩ (by decide) hA1
    refine ⟨he, Ct.of [aR 226] rfl ?_, hPE.tr' (RZ.rf hM hw hnu) Fx.rf⟩
    refine r_aldR cd_240_0 rfl rfl ?_
    refine r_con (v := 0) cd_240_1 rfl (by decide) ?_
    refine r_con (v := 1) cd_240_2 rfl (by decide) ?_
    refine r_con (v := 24) cd_240_3 rfl (by decide) ?_
    refine r_cI hcE cd_240_5 rfl rfl rfl (rc0 hM rfl) rfl rfl rfl ?_
    refine r_if51 cd_240_8 rfl ⟨by omega, by omega⟩ (fun n1 => ?_) (fun n1 => ?_)
    · refine r_con (v := 0) cd_240_42 rfl (by decide) ?_
      exact r_ret cd_240_43 (Or.inl rfl) (rfl)
    · exact absurd n1 (by decide)
  obtain ⟨h1, s1, hc1, r1, t1, l1, f1⟩ := c_184o hM htx hb hN6 hT hi hw hnu 0 (by decide) 1 ⟨by decide, by decide⟩ 24 ⟨by decide, by decide⟩ (by decide) hA1
  have q1 := numA_o hA1 (by decide)
  rcases hS : semA tx N j1 (!decide (999 < w 1 + ((v1 : Nat) : Int))) with ⟨ek, eo⟩ | jS
  · rw [show cHrs tx N i w = .inl (ek, eo) by simp only [cHrs, bnd, hA1, hS]]
    obtain ⟨he, hcS, hPE⟩ := c_194e r1.1 ((r1.2.2.2.1 233 (by decide) (by decide) (by decide)).trans htx) hb hN6 t1 l1 r1.2.1 r1.2.2.1 hS
    refine ⟨he, Ct.of [aR 226] rfl ?_, hPE.tr' ((RZ.rf hM hw hnu).tr r1) (Fx.rf.tr f1)⟩
    refine r_aldR cd_240_0 rfl rfl ?_
    refine r_con (v := 0) cd_240_1 rfl (by decide) ?_
    refine r_con (v := 1) cd_240_2 rfl (by decide) ?_
    refine r_con (v := 24) cd_240_3 rfl (by decide) ?_
    refine r_cI hc1 cd_240_5 rfl rfl rfl (rc0 hM rfl) rfl rfl rfl ?_
    refine r_if51 cd_240_8 rfl ⟨by omega, by omega⟩ (fun n1 => ?_) (fun n1 => ?_)
    · exact absurd n1 (by decide)
    · refine r_aldR cd_240_11 rfl rfl ?_
      refine r_aldR cd_240_12 rfl rfl ?_
      refine r_get cd_240_13 rfl r1.1 rfl ?_
      refine r_con (v := 1) cd_240_16 rfl (by decide) ?_
      refine r_arr (i := 1) cd_240_17 rfl r1.2.1 rfl (by omega) rfl ?_
      refine r_aldR cd_240_18 rfl rfl ?_
      refine r_get cd_240_19 rfl r1.1 rfl ?_
      refine r_con (v := 0) cd_240_22 rfl (by decide) ?_
      refine r_arr (i := 0) cd_240_23 rfl r1.2.2.1 rfl (by omega) rfl ?_
      refine RU.cast (pc2 := 24) (S2 := [aI ((v1 : Nat) : Int), aI (w 1), aR 226]) rfl rfl rfl ?_
      refine r_add (v := (w 1) + ((v1 : Nat) : Int)) cd_240_24 rfl (by rfl) ?_
      refine r_con (v := 999) cd_240_25 rfl (by decide) ?_
      refine r_ic65 cd_240_28 rfl ⟨by omega, by omega⟩ ⟨by omega, by omega⟩ (fun n2 => ?_) (fun n2 => ?_)
      · refine r_con (v := 0) cd_240_35 rfl (by decide) ?_
        refine r_cI (by rw [← bz_f (t := !decide (999 < w 1 + ((v1 : Nat) : Int))) (by simp [n2])]; exact hcS) cd_240_36 rfl rfl rfl (rc0 r1.1 rfl) rfl rfl rfl ?_
        refine r_if52 cd_240_39 rfl ⟨by omega, by omega⟩ (fun n3 => ?_) (fun n3 => ?_)
        · refine r_con (v := 0) cd_240_42 rfl (by decide) ?_
          exact r_ret cd_240_43 (Or.inl rfl) (rfl)
        · exact absurd n3 (by decide)
      · refine r_con (v := 1) cd_240_31 rfl (by decide) ?_
        refine r_goto cd_240_32 ?_
        refine r_cI (by rw [← bz_t (t := !decide (999 < w 1 + ((v1 : Nat) : Int))) (by simp [n2])]; exact hcS) cd_240_36 rfl rfl rfl (rc0 r1.1 rfl) rfl rfl rfl ?_
        refine r_if52 cd_240_39 rfl ⟨by omega, by omega⟩ (fun n4 => ?_) (fun n4 => ?_)
        · refine r_con (v := 0) cd_240_42 rfl (by decide) ?_
          exact r_ret cd_240_43 (Or.inl rfl) (rfl)
        · exact absurd n4 (by decide)
  · rw [show cHrs tx N i w = .inr (jS, passW w v1) by simp only [cHrs, bnd, hA1, hS]]
    have hcS := c_194o r1.1 ((r1.2.2.2.1 233 (by decide) (by decide) (by decide)).trans htx) hb hN6 t1 l1 hS
    have qS := semA_o hS
    have hej := (tEnd_b (tx := tx) (N := N) l1).2.1
    have qS2 : ¬ 999 < w 1 + ((v1 : Nat) : Int) := by simpa using qS.2.1
    refine ⟨sw h1 227 (.inl (0, 211, .inl (passW w v1))), s1, (va_up nu 0 ((v1 : Nat) : Int)), Ct.of [aR 226] rfl ?_, ((RZ.rf hM hw hnu).tr r1).w, t1.2.2.2.2.1.trans (by rw [qS.2.2]), t1.1, t1.2.1, by rw [qS.2.2]; exact hej, (Fx.rf.tr f1)⟩
    refine r_aldR cd_240_0 rfl rfl ?_
    refine r_con (v := 0) cd_240_1 rfl (by decide) ?_
    refine r_con (v := 1) cd_240_2 rfl (by decide) ?_
    refine r_con (v := 24) cd_240_3 rfl (by decide) ?_
    refine r_cI hc1 cd_240_5 rfl rfl rfl (rc0 hM rfl) rfl rfl rfl ?_
    refine r_if51 cd_240_8 rfl ⟨by omega, by omega⟩ (fun n1 => ?_) (fun n1 => ?_)
    · exact absurd n1 (by decide)
    · refine r_aldR cd_240_11 rfl rfl ?_
      refine r_aldR cd_240_12 rfl rfl ?_
      refine r_get cd_240_13 rfl r1.1 rfl ?_
      refine r_con (v := 1) cd_240_16 rfl (by decide) ?_
      refine r_arr (i := 1) cd_240_17 rfl r1.2.1 rfl (by omega) rfl ?_
      refine r_aldR cd_240_18 rfl rfl ?_
      refine r_get cd_240_19 rfl r1.1 rfl ?_
      refine r_con (v := 0) cd_240_22 rfl (by decide) ?_
      refine r_arr (i := 0) cd_240_23 rfl r1.2.2.1 rfl (by omega) rfl ?_
      refine RU.cast (pc2 := 24) (S2 := [aI ((v1 : Nat) : Int), aI (w 1), aR 226]) rfl rfl rfl ?_
      refine r_add (v := (w 1) + ((v1 : Nat) : Int)) cd_240_24 rfl (by rfl) ?_
      refine r_con (v := 999) cd_240_25 rfl (by decide) ?_
      refine r_ic65 cd_240_28 rfl ⟨by omega, by omega⟩ ⟨by omega, by omega⟩ (fun n2 => ?_) (fun n2 => ?_)
      · refine r_con (v := 0) cd_240_35 rfl (by decide) ?_
        refine r_cI (by rw [← bz_f (t := !decide (999 < w 1 + ((v1 : Nat) : Int))) (by simp [n2])]; exact hcS) cd_240_36 rfl rfl rfl (rc0 r1.1 rfl) rfl rfl rfl ?_
        refine r_if52 cd_240_39 rfl ⟨by omega, by omega⟩ (fun n3 => ?_) (fun n3 => ?_)
        · exact absurd n3 (by decide)
        · refine r_aldR cd_240_44 rfl rfl ?_
          refine r_aldR cd_240_45 rfl rfl ?_
          refine r_get cd_240_46 rfl r1.1 rfl ?_
          refine r_con (v := 0) cd_240_49 rfl (by decide) ?_
          refine r_arr (i := 0) cd_240_50 rfl r1.2.2.1 rfl (by omega) rfl ?_
          refine RU.cast (pc2 := 51) (S2 := [aI ((v1 : Nat) : Int), aR 226]) rfl rfl rfl ?_
          refine r_cI (c_241 r1.1 r1.2.1 hI v1 (by omega) (by omega)) cd_240_51 rfl rfl rfl (rc0 r1.1 rfl) rfl rfl rfl ?_
          refine r_pop cd_240_54 rfl rfl ?_
          refine r_con (v := 1) cd_240_55 rfl (by decide) ?_
          exact r_ret cd_240_56 (Or.inr rfl) (rfl)
      · refine r_con (v := 1) cd_240_31 rfl (by decide) ?_
        refine r_goto cd_240_32 ?_
        refine r_cI (by rw [← bz_t (t := !decide (999 < w 1 + ((v1 : Nat) : Int))) (by simp [n2])]; exact hcS) cd_240_36 rfl rfl rfl (rc0 r1.1 rfl) rfl rfl rfl ?_
        refine r_if52 cd_240_39 rfl ⟨by omega, by omega⟩ (fun n4 => ?_) (fun n4 => ?_)
        · exact absurd n4 (by decide)
        · refine r_aldR cd_240_44 rfl rfl ?_
          refine r_aldR cd_240_45 rfl rfl ?_
          refine r_get cd_240_46 rfl r1.1 rfl ?_
          refine r_con (v := 0) cd_240_49 rfl (by decide) ?_
          refine r_arr (i := 0) cd_240_50 rfl r1.2.2.1 rfl (by omega) rfl ?_
          refine RU.cast (pc2 := 51) (S2 := [aI ((v1 : Nat) : Int), aR 226]) rfl rfl rfl ?_
          refine r_cI (c_241 r1.1 r1.2.1 hI v1 (by omega) (by omega)) cd_240_51 rfl rfl rfl (rc0 r1.1 rfl) rfl rfl rfl ?_
          refine r_pop cd_240_54 rfl rfl ?_
          refine r_con (v := 1) cd_240_55 rfl (by decide) ?_
          exact r_ret cd_240_56 (Or.inr rfl) (rfl)
