/-! THE MATHEMATICS: a script's places (written by wip/whole/gen66.py) -/
/-- behind m tokens -/
def skp (tx : Nat → Int) (N : Nat) : Nat → Nat → Nat
  | 0, i => i
  | m + 1, i => skp tx N m (tEnd tx N i)
section POS
variable {tx w u : Nat → Int} {N i j : Nat}
theorem pRow {row : Nat} (h : cRow row tx N i w = .inr (j, u)) : j = skp tx N 3 i := by
  obtain ⟨⟨a1, j1⟩, h1, h⟩ := bnd_o h
  obtain ⟨⟨a2, j2⟩, h2, h⟩ := bnd_o h
  obtain ⟨js, hs, h⟩ := bnd_o h
  have e1 := (numA_o h1 (by decide)).2.2.2.1
  have e2 := (numA_o h2 (by decide)).2.2.2.1
  have es := (semA_o hs).2.2
  cases h
  simp only at e1 e2 es
  rw [es, e2, e1]
  rfl
theorem pGus (h : cGus tx N i w = .inr (j, u)) : j = skp tx N 3 i := by
  obtain ⟨⟨a1, j1⟩, h1, h⟩ := bnd_o h
  obtain ⟨⟨a2, j2⟩, h2, h⟩ := bnd_o h
  obtain ⟨js, hs, h⟩ := bnd_o h
  have e1 := (dirA_o h1).2
  have e2 := (numA_o h2 (by decide)).2.2.2.1
  have es := (semA_o hs).2.2
  cases h
  simp only at e1 e2 es
  rw [es, e2, e1]
  rfl
theorem pLea (h : cLea tx N i w = .inr (j, u)) : j = skp tx N 2 i := by
  obtain ⟨⟨a1, j1⟩, h1, h⟩ := bnd_o h
  obtain ⟨js, hs, h⟩ := bnd_o h
  have e1 := (numA_o h1 (by decide)).2.2.2.1
  have es := (semA_o hs).2.2
  cases h
  simp only at e1 es
  rw [es, e1]
  rfl
theorem pBal (h : cBal tx N i w = .inr (j, u)) : j = skp tx N 4 i := by
  obtain ⟨⟨a1, j1⟩, h1, h⟩ := bnd_o h
  obtain ⟨⟨a2, j2⟩, h2, h⟩ := bnd_o h
  obtain ⟨⟨a3, j3⟩, h3, h⟩ := bnd_o h
  obtain ⟨js, hs, h⟩ := bnd_o h
  have e1 := (numA_o h1 (by decide)).2.2.2.1
  have e2 := (numA_o h2 (by decide)).2.2.2.1
  have e3 := (numA_o h3 (by decide)).2.2.2.1
  have es := (semA_o hs).2.2
  cases h
  simp only at e1 e2 e3 es
  rw [es, e3, e2, e1]
  rfl
theorem pPar (h : cPar tx N i w = .inr (j, u)) : j = skp tx N 5 i := by
  obtain ⟨⟨a1, j1⟩, h1, h⟩ := bnd_o h
  obtain ⟨⟨a2, j2⟩, h2, h⟩ := bnd_o h
  obtain ⟨⟨a3, j3⟩, h3, h⟩ := bnd_o h
  obtain ⟨⟨a4, j4⟩, h4, h⟩ := bnd_o h
  obtain ⟨js, hs, h⟩ := bnd_o h
  have e1 := (numA_o h1 (by decide)).2.2.2.1
  have e2 := (numA_o h2 (by decide)).2.2.2.1
  have e3 := (numA_o (othA_o h3) (by decide)).2.2.2.1
  have e4 := (numA_o h4 (by decide)).2.2.2.1
  have es := (semA_o hs).2.2
  cases h
  simp only at e1 e2 e3 e4 es
  rw [es, e4, e3, e2, e1]
  rfl
theorem pTie (h : cTie tx N i w = .inr (j, u)) : j = skp tx N 3 i := by
  obtain ⟨⟨a1, j1⟩, h1, h⟩ := bnd_o h
  obtain ⟨⟨a2, j2⟩, h2, h⟩ := bnd_o h
  obtain ⟨js, hs, h⟩ := bnd_o h
  have e1 := (numA_o h1 (by decide)).2.2.2.1
  have e2 := (numA_o h2 (by decide)).2.2.2.1
  have es := (semA_o hs).2.2
  cases h
  simp only at e1 e2 es
  rw [es, e2, e1]
  rfl
theorem pUnt (h : cUnt tx N i w = .inr (j, u)) : j = skp tx N 2 i := by
  obtain ⟨⟨a1, j1⟩, h1, h⟩ := bnd_o h
  obtain ⟨js, hs, h⟩ := bnd_o h
  have e1 := (numA_o h1 (by decide)).2.2.2.1
  have es := (semA_o hs).2.2
  cases h
  simp only at e1 es
  rw [es, e1]
  rfl
theorem pLau (h : cLau tx N i w = .inr (j, u)) : j = skp tx N 2 i := by
  obtain ⟨⟨a1, j1⟩, h1, h⟩ := bnd_o h
  obtain ⟨js, hs, h⟩ := bnd_o h
  have e1 := (numA_o h1 (by decide)).2.2.2.1
  have es := (semA_o hs).2.2
  cases h
  simp only at e1 es
  rw [es, e1]
  rfl
theorem pMoo (h : cMoo tx N i w = .inr (j, u)) : j = skp tx N 2 i := by
  obtain ⟨⟨a1, j1⟩, h1, h⟩ := bnd_o h
  obtain ⟨js, hs, h⟩ := bnd_o h
  have e1 := (numA_o h1 (by decide)).2.2.2.1
  have es := (semA_o hs).2.2
  cases h
  simp only at e1 es
  rw [es, e1]
  rfl
theorem pFre (h : cFre tx N i w = .inr (j, u)) : j = skp tx N 2 i := by
  obtain ⟨⟨a1, j1⟩, h1, h⟩ := bnd_o h
  obtain ⟨js, hs, h⟩ := bnd_o h
  have e1 := (numA_o h1 (by decide)).2.2.2.1
  have es := (semA_o hs).2.2
  cases h
  simp only at e1 es
  rw [es, e1]
  rfl
theorem pFil (h : cFil tx N i w = .inr (j, u)) : j = skp tx N 3 i := by
  obtain ⟨⟨a1, j1⟩, h1, h⟩ := bnd_o h
  obtain ⟨⟨a2, j2⟩, h2, h⟩ := bnd_o h
  obtain ⟨js, hs, h⟩ := bnd_o h
  have e1 := (numA_o h1 (by decide)).2.2.2.1
  have e2 := (numA_o h2 (by decide)).2.2.2.1
  have es := (semA_o hs).2.2
  cases h
  simp only at e1 e2 es
  rw [es, e2, e1]
  rfl
theorem pGas (h : cGas tx N i w = .inr (j, u)) : j = skp tx N 2 i := by
  obtain ⟨⟨a1, j1⟩, h1, h⟩ := bnd_o h
  obtain ⟨js, hs, h⟩ := bnd_o h
  have e1 := (numA_o h1 (by decide)).2.2.2.1
  have es := (semA_o hs).2.2
  cases h
  simp only at e1 es
  rw [es, e1]
  rfl
theorem pClm (h : cClm tx N i w = .inr (j, u)) : j = skp tx N 3 i := by
  obtain ⟨⟨a1, j1⟩, h1, h⟩ := bnd_o h
  obtain ⟨⟨a2, j2⟩, h2, h⟩ := bnd_o h
  obtain ⟨js, hs, h⟩ := bnd_o h
  have e1 := (numA_o h1 (by decide)).2.2.2.1
  have e2 := (numA_o (clmA_o h2).1 (by decide)).2.2.2.1
  have es := (semA_o hs).2.2
  cases h
  simp only at e1 e2 es
  rw [es, e2, e1]
  rfl
theorem pHrs (h : cHrs tx N i w = .inr (j, u)) : j = skp tx N 2 i := by
  obtain ⟨⟨a1, j1⟩, h1, h⟩ := bnd_o h
  obtain ⟨js, hs, h⟩ := bnd_o h
  have e1 := (numA_o h1 (by decide)).2.2.2.1
  have es := (semA_o hs).2.2
  cases h
  simp only at e1 es
  rw [es, e1]
  rfl
end POS
def arC (c : Int) : Nat := if c = 0 then 3 else if c = 1 then 3 else if c = 2 then 3 else if c = 3 then 2 else if c = 4 then 4 else if c = 5 then 5 else if c = 6 then 3 else if c = 7 then 2 else if c = 8 then 2 else if c = 9 then 2 else if c = 10 then 2 else if c = 11 then 3 else if c = 12 then 2 else if c = 13 then 3 else 2
theorem pCmd {c : Int} {tx w u : Nat → Int} {N i j : Nat} (h : cmdA c tx N i w = .inr (j, u)) : j = skp tx N (arC c) i := by
  unfold cmdA at h
  unfold arC
  by_cases c0 : c = 0
  · rw [if_pos c0] at h ⊢
    exact pRow h
  rw [if_neg c0] at h ⊢
  by_cases c1 : c = 1
  · rw [if_pos c1] at h ⊢
    exact pRow h
  rw [if_neg c1] at h ⊢
  by_cases c2 : c = 2
  · rw [if_pos c2] at h ⊢
    exact pGus h
  rw [if_neg c2] at h ⊢
  by_cases c3 : c = 3
  · rw [if_pos c3] at h ⊢
    exact pLea h
  rw [if_neg c3] at h ⊢
  by_cases c4 : c = 4
  · rw [if_pos c4] at h ⊢
    exact pBal h
  rw [if_neg c4] at h ⊢
  by_cases c5 : c = 5
  · rw [if_pos c5] at h ⊢
    exact pPar h
  rw [if_neg c5] at h ⊢
  by_cases c6 : c = 6
  · rw [if_pos c6] at h ⊢
    exact pTie h
  rw [if_neg c6] at h ⊢
  by_cases c7 : c = 7
  · rw [if_pos c7] at h ⊢
    exact pUnt h
  rw [if_neg c7] at h ⊢
  by_cases c8 : c = 8
  · rw [if_pos c8] at h ⊢
    exact pLau h
  rw [if_neg c8] at h ⊢
  by_cases c9 : c = 9
  · rw [if_pos c9] at h ⊢
    exact pMoo h
  rw [if_neg c9] at h ⊢
  by_cases c10 : c = 10
  · rw [if_pos c10] at h ⊢
    exact pFre h
  rw [if_neg c10] at h ⊢
  by_cases c11 : c = 11
  · rw [if_pos c11] at h ⊢
    exact pFil h
  rw [if_neg c11] at h ⊢
  by_cases c12 : c = 12
  · rw [if_pos c12] at h ⊢
    exact pGas h
  rw [if_neg c12] at h ⊢
  by_cases c13 : c = 13
  · rw [if_pos c13] at h ⊢
    exact pClm h
  rw [if_neg c13] at h ⊢
  exact pHrs h
/-- the place behind a part is the same on every row -/
def Dt (R : Nat → (Nat → Int) → Nat → Rs) : Prop := ∀ i w ex w' ex' a b, R i w ex = .inr a → R i w' ex' = .inr b → a.1 = b.1
theorem det_cmd {R : Nat → (Nat → Int) → Nat → Rs} {tx : Nat → Int} {N : Nat} (hR : Dt R) : Dt (cmdG R tx N) := by
  intro i w ex w' ex' a b ha hb
  unfold cmdG at ha hb
  by_cases h1 : wordI tx N i = -1
  · rw [if_pos h1] at ha; cases ha
  · rw [if_neg h1] at ha hb
    by_cases h2 : wordI tx N i = 15
    · rw [if_pos h2] at ha hb; exact hR i w ex w' ex' a b ha hb
    · rw [if_neg h2] at ha hb
      by_cases h3 : ex = 200
      · rw [if_pos h3] at ha; cases ha
      · by_cases h4 : ex' = 200
        · rw [if_pos h4] at hb; cases hb
        · rw [if_neg h3] at ha
          rw [if_neg h4] at hb
          obtain ⟨⟨j, u⟩, g1, ha⟩ := bnd_o ha
          obtain ⟨⟨j', u'⟩, g2, hb⟩ := bnd_o hb
          cases ha
          cases hb
          exact (pCmd g1).trans (pCmd g2).symm
theorem det_loop {stop : Int} {R : Nat → (Nat → Int) → Nat → Rs} {tx : Nat → Int} {N : Nat} (hR : Dt R) : ∀ f, Dt (loopG stop R tx N f)
  | 0 => by
    intro i w ex w' ex' a b ha hb
    cases ha
  | f + 1 => by
    intro i w ex w' ex' a b ha hb
    rw [loop_s] at ha hb
    by_cases h1 : tKnd tx N i = stop
    · rw [if_pos h1] at ha hb; cases ha; cases hb; rfl
    · rw [if_neg h1] at ha hb
      obtain ⟨c, g1, ha⟩ := bnd_o ha
      obtain ⟨d, g2, hb⟩ := bnd_o hb
      have e := det_cmd hR i w ex w' ex' c d g1 g2
      rw [e] at ha
      exact det_loop hR f d.1 _ _ _ _ a b ha hb
theorem rnd_o {B : Nat → (Nat → Int) → Nat → Rs} {i : Nat} : ∀ {t j : Nat} {w : Nat → Int} {ex : Nat} {a}, rndG B i (t + 1) j w ex = .inr a → ∃ w0 e0 w1 e1, B i w0 e0 = .inr (a.1, w1, e1)
  | 0, j, w, ex, a, h => by
    rw [rnd_s] at h
    obtain ⟨⟨j1, w1, e1⟩, g1, h⟩ := bnd_o h
    cases h
    exact ⟨w, ex, w1, e1, g1⟩
  | t + 1, j, w, ex, a, h => by
    rw [rnd_s] at h
    obtain ⟨⟨j1, w1, e1⟩, g1, h⟩ := bnd_o h
    exact rnd_o h
theorem rep_e {B : Nat → (Nat → Int) → Nat → Rs} {tx : Nat → Int} {N i : Nat} {w : Nat → Int} {ex : Nat} : repG B tx N i w ex = bnd (begA tx N (tEnd tx N i)) fun a => bnd (rndG B a.2 a.1 a.2 w ex) fun b => if tKnd tx N (tEnd tx N b.1) = 1 then .inr (tEnd tx N (tEnd tx N b.1), b.2) else .inl (1, ((tOff tx N (tEnd tx N b.1) : Nat) : Int)) := by
  unfold repG begA
  rcases numA tx N (tEnd tx N i) 1 20 with e | ⟨a, j⟩
  · rfl
  · show (if tKnd tx N j = 4 then _ else _) = bnd (if tKnd tx N j = 4 then _ else _) _
    by_cases hk : tKnd tx N j = 4
    · rw [if_pos hk, if_pos hk]; rfl
    · rw [if_neg hk, if_neg hk]; rfl
theorem beg_o {tx : Nat → Int} {N i q ib : Nat} (hi : i ≤ N) (h : begA tx N i = .inr (q, ib)) : 1 ≤ q ∧ q ≤ 20 ∧ i ≤ ib ∧ ib ≤ N := by
  obtain ⟨⟨a, j⟩, h1, h⟩ := bnd_o h
  obtain ⟨-, h2, h3, h4, -⟩ := numA_o h1 (by decide)
  have p1 := tPos (tx := tx) hi
  simp only at h h2 h3 h4
  rw [← h4] at p1
  have p2 := tPos (tx := tx) p1.2
  by_cases hk : tKnd tx N j = 4
  · rw [if_pos hk] at h
    cases h
    exact ⟨by omega, by omega, by omega, by omega⟩
  · rw [if_neg hk] at h
    cases h
theorem beg_q {tx : Nat → Int} {N i q ib : Nat} (h : begA tx N i = .inr (q, ib)) : 1 ≤ q ∧ q ≤ 20 := by
  obtain ⟨⟨a, j⟩, h1, h⟩ := bnd_o h
  obtain ⟨-, h2, h3, h4, -⟩ := numA_o h1 (by decide)
  simp only at h h2 h3 h4
  by_cases hk : tKnd tx N j = 4
  · rw [if_pos hk] at h
    cases h
    exact ⟨by omega, by omega⟩
  · rw [if_neg hk] at h
    cases h
theorem det_rep {B : Nat → (Nat → Int) → Nat → Rs} {tx : Nat → Int} {N : Nat} (hB : Dt B) : Dt (repG B tx N) := by
  intro i w ex w' ex' a b ha hb
  rw [rep_e] at ha hb
  obtain ⟨⟨q, ib⟩, g1, ha⟩ := bnd_o ha
  obtain ⟨⟨q', ib'⟩, g2, hb⟩ := bnd_o hb
  rw [g1] at g2
  cases g2
  obtain ⟨c, g3, ha2⟩ := bnd_o ha
  obtain ⟨d, g4, hb2⟩ := bnd_o hb
  have hq := (beg_q g1).1
  obtain ⟨t, rfl⟩ : ∃ t, q = t + 1 := ⟨q - 1, by omega⟩
  obtain ⟨w0, e0, w1, e1, f1⟩ := rnd_o g3
  obtain ⟨v0, x0, v1, x1, f2⟩ := rnd_o g4
  have e : c.1 = d.1 := hB _ _ _ _ _ (c.1, w1, e1) (d.1, v1, x1) f1 f2
  try simp only at ha2 hb2
  rw [e] at ha2
  by_cases hk : tKnd tx N (tEnd tx N d.1) = 1
  · rw [if_pos hk] at ha2 hb2; cases ha2; cases hb2; rfl
  · rw [if_neg hk] at ha2; cases ha2
theorem det_deep {tx : Nat → Int} {N : Nat} : ∀ m, Dt (deepR tx N m)
  | 0 => by
    intro i w ex w' ex' a b ha hb
    cases ha
  | m + 1 => det_rep (det_loop (det_deep m) (N + 1))
