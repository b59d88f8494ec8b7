/-! THE MATHEMATICS: a script's commands keep what holds; the whole script -/
theorem bnd_o {α β : Type} {r : Er ⊕ α} {f : α → Er ⊕ β} {b : β} (h : bnd r f = .inr b) : ∃ a, r = .inr a ∧ f a = .inr b := by
  cases r with
  | inl e => cases h
  | inr a => exact ⟨a, rfl, h⟩
theorem tPos {tx : Nat → Int} {N i : Nat} (h : i ≤ N) : i ≤ tEnd tx N i ∧ tEnd tx N i ≤ N := by
  have h1 := tOff_b (tx := tx) h
  have h2 := tEnd_b (tx := tx) h
  omega
section KEEP
variable {tx w u : Nat → Int} {N i j : Nat}
theorem kRow {row : Nat} (hr : row = 23 ∨ row = 53) (hI : Inv w) (hi : i ≤ N) (h : cRow row tx N i w = .inr (j, u)) : Inv u ∧ i ≤ j ∧ j ≤ N := by
  obtain ⟨⟨a, j1⟩, h1, h⟩ := bnd_o h
  obtain ⟨⟨b, j2⟩, h2, h⟩ := bnd_o h
  obtain ⟨j3, h3, h⟩ := bnd_o h
  have q1 := numA_o h1 (by decide)
  have q2 := numA_o h2 (by decide)
  have q3 := semA_o h3
  cases h
  obtain ⟨-, -, q1, e1, -⟩ := q1
  obtain ⟨-, -, q2, e2, -⟩ := q2
  simp only at q1 q2 e1 e2 q3
  have g1 := tPos (tx := tx) hi
  rw [← e1] at g1
  have g2 := tPos (tx := tx) g1.2
  rw [← e2] at g2
  have g3 := tPos (tx := tx) g2.2
  rw [← q3.2.2] at g3
  have hl := hI.1.len
  refine ⟨InvM.setS hI (by omega) (by omega) (by omega) (by omega) (by omega) (by omega) (by omega), by omega, by omega⟩
theorem dirA_o {d : Int} (h : dirA tx N i = .inr (d, j)) : (d = 1 ∨ d = -1) ∧ j = tEnd tx N i := by
  unfold dirA at h
  split at h
  · cases h; exact ⟨Or.inl rfl, rfl⟩
  · split at h
    · cases h; exact ⟨Or.inr rfl, rfl⟩
    · cases h
theorem kGus (hI : Inv w) (hi : i ≤ N) (h : cGus tx N i w = .inr (j, u)) : Inv u ∧ i ≤ j ∧ j ≤ N := by
  obtain ⟨⟨a, j1⟩, h1, h⟩ := bnd_o h
  obtain ⟨⟨b, j2⟩, h2, h⟩ := bnd_o h
  obtain ⟨j3, h3, h⟩ := bnd_o h
  have q1 := dirA_o h1
  have q2 := numA_o h2 (by decide)
  have q3 := semA_o h3
  cases h
  obtain ⟨q1, e1⟩ := q1
  obtain ⟨-, q20, q2, e2, -⟩ := q2
  simp only at q1 q20 q2 e1 e2 q3
  have g1 := tPos (tx := tx) hi
  rw [← e1] at g1
  have g2 := tPos (tx := tx) g1.2
  rw [← e2] at g2
  have g3 := tPos (tx := tx) g2.2
  rw [← q3.2.2] at g3
  have hc : w 4 < 12 := by simpa using q3.2.1
  refine ⟨InvM.blow hI hc ?_ ?_, by omega, by omega⟩ <;> rcases q1 with e | e <;> rw [e] <;> omega
theorem kLea (hI : Inv w) (hi : i ≤ N) (h : cLea tx N i w = .inr (j, u)) : Inv u ∧ i ≤ j ∧ j ≤ N := by
  obtain ⟨⟨a, j1⟩, h1, h⟩ := bnd_o h
  obtain ⟨j3, h3, h⟩ := bnd_o h
  have q1 := numA_o h1 (by decide)
  have q3 := semA_o h3
  cases h
  obtain ⟨-, q0, q1, e1, -⟩ := q1
  simp only at q0 q1 e1 q3
  have g1 := tPos (tx := tx) hi
  rw [← e1] at g1
  have g3 := tPos (tx := tx) g1.2
  rw [← q3.2.2] at g3
  refine ⟨InvM.setS hI (by omega) (by omega) (by omega) (by omega) (by omega) (by omega) (by omega), by omega, by omega⟩
theorem kBal (hI : Inv w) (hi : i ≤ N) (h : cBal tx N i w = .inr (j, u)) : Inv u ∧ i ≤ j ∧ j ≤ N := by
  obtain ⟨⟨a, j1⟩, h1, h⟩ := bnd_o h
  obtain ⟨⟨b, j2⟩, h2, h⟩ := bnd_o h
  obtain ⟨⟨c, j4⟩, h4, h⟩ := bnd_o h
  obtain ⟨j3, h3, h⟩ := bnd_o h
  have q1 := numA_o h1 (by decide)
  have q2 := numA_o h2 (by decide)
  have q4 := numA_o h4 (by decide)
  have q3 := semA_o h3
  cases h
  obtain ⟨-, q10, q1, e1, -⟩ := q1
  obtain ⟨-, q20, q2, e2, -⟩ := q2
  obtain ⟨-, q40, q4, e4, -⟩ := q4
  simp only at q10 q1 q20 q2 q40 q4 e1 e2 e4 q3
  have g1 := tPos (tx := tx) hi
  rw [← e1] at g1
  have g2 := tPos (tx := tx) g1.2
  rw [← e2] at g2
  have g4 := tPos (tx := tx) g2.2
  rw [← e4] at g4
  have g3 := tPos (tx := tx) g4.2
  rw [← q3.2.2] at g3
  have hc : w 5 < 8 := by simpa using q3.2.1
  exact ⟨InvM.brin hI hc ⟨by omega, by omega⟩ ⟨by omega, by omega⟩ ⟨by omega, by omega⟩, by omega, by omega⟩
theorem othA_o {x a : Nat} (h : othA tx N i x w = .inr (a, j)) : numA tx N i 0 (w 0 - 1) = .inr (a, j) := by
  unfold othA at h
  split at h
  · cases h
  · exact h
theorem kPar (hI : Inv w) (hi : i ≤ N) (h : cPar tx N i w = .inr (j, u)) : Inv u ∧ i ≤ j ∧ j ≤ N := by
  obtain ⟨⟨a, j1⟩, h1, h⟩ := bnd_o h
  obtain ⟨⟨b, j2⟩, h2, h⟩ := bnd_o h
  obtain ⟨⟨c, j4⟩, h4, h⟩ := bnd_o h
  obtain ⟨⟨d, j5⟩, h5, h⟩ := bnd_o h
  obtain ⟨j3, h3, h⟩ := bnd_o h
  have q1 := numA_o h1 (by decide)
  have q2 := numA_o h2 (by decide)
  have q4 := numA_o (othA_o h4) (by decide)
  have q5 := numA_o h5 (by decide)
  have q3 := semA_o h3
  cases h
  obtain ⟨-, q10, q1, e1, -⟩ := q1
  obtain ⟨-, q20, q2, e2, -⟩ := q2
  obtain ⟨-, q40, q4, e4, -⟩ := q4
  obtain ⟨-, q50, q5, e5, -⟩ := q5
  simp only at q10 q1 q20 q2 q40 q4 q50 q5 e1 e2 e4 e5 q3
  have g1 := tPos (tx := tx) hi
  rw [← e1] at g1
  have g2 := tPos (tx := tx) g1.2
  rw [← e2] at g2
  have g4 := tPos (tx := tx) g2.2
  rw [← e4] at g4
  have g5 := tPos (tx := tx) g4.2
  rw [← e5] at g5
  have g3 := tPos (tx := tx) g5.2
  rw [← q3.2.2] at g3
  have hc : w 6 < 16 ∧ numbd w ((d : Nat) : Int) = -1 := by simpa using q3.2.1
  exact ⟨InvM.post hI hc.1 ⟨by omega, by omega⟩ ⟨by omega, by omega⟩ ⟨by omega, by omega⟩ ⟨by omega, by omega⟩ hc.2, by omega, by omega⟩
theorem kTie (hI : Inv w) (hi : i ≤ N) (h : cTie tx N i w = .inr (j, u)) : Inv u ∧ i ≤ j ∧ j ≤ N := by
  obtain ⟨⟨a, j1⟩, h1, h⟩ := bnd_o h
  obtain ⟨⟨b, j2⟩, h2, h⟩ := bnd_o h
  obtain ⟨j3, h3, h⟩ := bnd_o h
  have q1 := numA_o h1 (by decide)
  have q2 := numA_o h2 (by decide)
  have q3 := semA_o h3
  cases h
  obtain ⟨-, q10, q1, e1, -⟩ := q1
  obtain ⟨-, q20, q2, e2, -⟩ := q2
  simp only at q10 q1 q20 q2 e1 e2 q3
  have g1 := tPos (tx := tx) hi
  rw [← e1] at g1
  have g2 := tPos (tx := tx) g1.2
  rw [← e2] at g2
  have g3 := tPos (tx := tx) g2.2
  rw [← q3.2.2] at g3
  have hc : whyT w a b = 0 := by simpa using q3.2.1
  have hp := hI.1.pNe
  have hb := hI.1.bNe
  exact ⟨InvM.tie hI (by omega) (by omega) hc, by omega, by omega⟩
theorem kUnt (hI : Inv w) (hi : i ≤ N) (h : cUnt tx N i w = .inr (j, u)) : Inv u ∧ i ≤ j ∧ j ≤ N := by
  obtain ⟨⟨a, j1⟩, h1, h⟩ := bnd_o h
  obtain ⟨j3, h3, h⟩ := bnd_o h
  have q1 := numA_o h1 (by decide)
  have q3 := semA_o h3
  cases h
  obtain ⟨-, q10, q1, e1, -⟩ := q1
  simp only at q10 q1 e1 q3
  have g1 := tPos (tx := tx) hi
  rw [← e1] at g1
  have g3 := tPos (tx := tx) g1.2
  rw [← q3.2.2] at g3
  have hc := canU_iff.mp q3.2.1
  have hp := hI.1.pNe
  have hb := hI.1.bNe
  have h9 := (hI.1.ps a (by omega)).2.2.2.2
  exact ⟨InvM.unt hI (q := a) (b := (pa w a 5).toNat) (by omega) (by omega) (tied_iff.mpr ⟨hc.1, by omega⟩), by omega, by omega⟩
theorem kHow {k v : Int} (hv : 0 ≤ v ∧ v ≤ 2) {P : Nat → Bool} (hI : Inv w) (hi : i ≤ N) (h : (bnd (numA tx N i 0 (w 5 - 1)) fun a => bnd (semA tx N a.2 (P a.1)) fun j => .inr (j, sbo w a.1 3 v)) = (.inr (j, u) : Er ⊕ (Nat × (Nat → Int)))) : Inv u ∧ i ≤ j ∧ j ≤ N := by
  obtain ⟨⟨a, j1⟩, h1, h⟩ := bnd_o h
  obtain ⟨j3, h3, h⟩ := bnd_o h
  have q1 := numA_o h1 (by decide)
  have q3 := semA_o h3
  cases h
  obtain ⟨-, q10, q1, e1, -⟩ := q1
  simp only at q10 q1 e1 q3
  have g1 := tPos (tx := tx) hi
  rw [← e1] at g1
  have g3 := tPos (tx := tx) g1.2
  rw [← q3.2.2] at g3
  have hb := hI.1.bNe
  exact ⟨InvM.how hI (by omega) hv.1 hv.2, by omega, by omega⟩
theorem kFre (hI : Inv w) (hi : i ≤ N) (h : cFre tx N i w = .inr (j, u)) : Inv u ∧ i ≤ j ∧ j ≤ N := by
  obtain ⟨⟨a, j1⟩, h1, h⟩ := bnd_o h
  obtain ⟨j3, h3, h⟩ := bnd_o h
  have q1 := numA_o h1 (by decide)
  have q3 := semA_o h3
  cases h
  obtain ⟨-, q10, q1, e1, -⟩ := q1
  simp only at q10 q1 e1 q3
  have g1 := tPos (tx := tx) hi
  rw [← e1] at g1
  have g3 := tPos (tx := tx) g1.2
  rw [← q3.2.2] at g3
  have hb := hI.1.bNe
  exact ⟨InvM.free hI (by omega), by omega, by omega⟩
theorem kFil (hI : Inv w) (hi : i ≤ N) (h : cFil tx N i w = .inr (j, u)) : Inv u ∧ i ≤ j ∧ j ≤ N := by
  obtain ⟨⟨a, j1⟩, h1, h⟩ := bnd_o h
  obtain ⟨⟨b, j2⟩, h2, h⟩ := bnd_o h
  obtain ⟨j3, h3, h⟩ := bnd_o h
  have q1 := numA_o h1 (by decide)
  have q2 := numA_o h2 (by decide)
  have q3 := semA_o h3
  cases h
  obtain ⟨-, q10, q1, e1, -⟩ := q1
  obtain ⟨-, q20, q2, e2, -⟩ := q2
  simp only at q10 q1 q20 q2 e1 e2 q3
  have g1 := tPos (tx := tx) hi
  rw [← e1] at g1
  have g2 := tPos (tx := tx) g1.2
  rw [← e2] at g2
  have g3 := tPos (tx := tx) g2.2
  rw [← q3.2.2] at g3
  have hb := hI.1.bNe
  exact ⟨InvM.fil hI (by omega) (by omega) q3.2.1, by omega, by omega⟩
theorem kGas (hI : Inv w) (hi : i ≤ N) (h : cGas tx N i w = .inr (j, u)) : Inv u ∧ i ≤ j ∧ j ≤ N := by
  obtain ⟨⟨a, j1⟩, h1, h⟩ := bnd_o h
  obtain ⟨j3, h3, h⟩ := bnd_o h
  have q1 := numA_o h1 (by decide)
  have q3 := semA_o h3
  cases h
  obtain ⟨-, q10, q1, e1, -⟩ := q1
  simp only at q10 q1 e1 q3
  have g1 := tPos (tx := tx) hi
  rw [← e1] at g1
  have g3 := tPos (tx := tx) g1.2
  rw [← q3.2.2] at g3
  have hc : ¬ 999 < w 2 + ((a : Nat) : Int) := by simpa using q3.2.1
  have hg := hI.1.gas
  exact ⟨InvM.setS hI (by omega) (by omega) (by omega) (by omega) (by omega) (by omega) (by omega), by omega, by omega⟩
theorem found_o {x n : Int} {p : Nat} (h : foundP w x n = ((p : Nat) : Int)) : p < nP w ∧ pa w p 4 = 0 ∧ pa w p 5 = x := by
  have hb := foundP_b (w := w) x n
  unfold foundP at h
  split at h
  · omega
  · split at h
    · rename_i h1 h2
      rw [h, Int.toNat_natCast] at h2
      have h3 := numbd_b (w := w) n
      unfold lies at h2
      simp at h2
      exact ⟨by omega, h2⟩
    · omega
theorem clmA_o {x a : Nat} (h : clmA tx N i x w = .inr (a, j)) : numA tx N i 0 99 = .inr (a, j) ∧ ¬ foundP w ((x : Nat) : Int) ((a : Nat) : Int) = -1 := by
  unfold clmA at h
  split at h
  · cases h
  · rename_i h1
    have h2 := numA_o h (by decide)
    refine ⟨h, fun e => h1 ⟨h2.2.2.2.2, ?_⟩⟩
    rw [← h2.1]
    exact e
theorem kClm (hI : Inv w) (hi : i ≤ N) (h : cClm tx N i w = .inr (j, u)) : Inv u ∧ i ≤ j ∧ j ≤ N := by
  obtain ⟨⟨a, j1⟩, h1, h⟩ := bnd_o h
  obtain ⟨⟨b, j2⟩, h2, h⟩ := bnd_o h
  obtain ⟨j3, h3, h⟩ := bnd_o h
  have q1 := numA_o h1 (by decide)
  obtain ⟨h2, f2⟩ := clmA_o h2
  have q2 := numA_o h2 (by decide)
  have q3 := semA_o h3
  cases h
  obtain ⟨-, q10, q1, e1, -⟩ := q1
  obtain ⟨-, q20, q2, e2, -⟩ := q2
  simp only at q10 q1 q20 q2 e1 e2 q3 f2 ⊢
  have g1 := tPos (tx := tx) hi
  rw [← e1] at g1
  have g2 := tPos (tx := tx) g1.2
  rw [← e2] at g2
  have g3 := tPos (tx := tx) g2.2
  rw [← q3.2.2] at g3
  have hb := foundP_b (w := w) ((a : Nat) : Int) ((b : Nat) : Int)
  obtain ⟨p, hp⟩ : ∃ p : Nat, foundP w ((a : Nat) : Int) ((b : Nat) : Int) = ((p : Nat) : Int) := ⟨(foundP w ((a : Nat) : Int) ((b : Nat) : Int)).toNat, by omega⟩
  rw [hp, Int.toNat_natCast]
  have hf := found_o hp
  exact ⟨InvM.clm hI hf.1 hf.2.1, by omega, by omega⟩
theorem kHrs (hI : Inv w) (hi : i ≤ N) (h : cHrs tx N i w = .inr (j, u)) : Inv u ∧ i ≤ j ∧ j ≤ N := by
  obtain ⟨⟨a, j1⟩, h1, h⟩ := bnd_o h
  obtain ⟨j3, h3, h⟩ := bnd_o h
  have q1 := numA_o h1 (by decide)
  have q3 := semA_o h3
  cases h
  obtain ⟨-, q10, q1, e1, -⟩ := q1
  simp only at q10 q1 e1 q3
  have g1 := tPos (tx := tx) hi
  rw [← e1] at g1
  have g3 := tPos (tx := tx) g1.2
  rw [← q3.2.2] at g3
  have hc : ¬ 999 < w 1 + ((a : Nat) : Int) := by simpa using q3.2.1
  exact ⟨InvM.pass hI (by omega) (by omega), by omega, by omega⟩
def cmdA (c : Int) (tx : Nat → Int) (N i : Nat) (w : Nat → Int) : Er ⊕ (Nat × (Nat → Int)) :=
  if c = 0 then cRow 23 tx N i w else if c = 1 then cRow 53 tx N i w else if c = 2 then cGus tx N i w else if c = 3 then cLea tx N i w else if c = 4 then cBal tx N i w else if c = 5 then cPar tx N i w else if c = 6 then cTie tx N i w else if c = 7 then cUnt tx N i w else if c = 8 then cLau tx N i w else if c = 9 then cMoo tx N i w else if c = 10 then cFre tx N i w else if c = 11 then cFil tx N i w else if c = 12 then cGas tx N i w else if c = 13 then cClm tx N i w else cHrs tx N i w
theorem ite_o {c : Prop} [Decidable c] {α : Type} {a b r : α} (h : (if c then a else b) = r) : a = r ∨ b = r := by
  by_cases hc : c
  · rw [if_pos hc] at h; exact Or.inl h
  · rw [if_neg hc] at h; exact Or.inr h
theorem kCmd {c : Int} (hI : Inv w) (hi : i ≤ N) (h : cmdA c tx N i w = .inr (j, u)) : Inv u ∧ i ≤ j ∧ j ≤ N := by
  unfold cmdA at h
  rcases ite_o h with h | h
  · exact kRow (Or.inl rfl) hI hi h
  rcases ite_o h with h | h
  · exact kRow (Or.inr rfl) hI hi h
  rcases ite_o h with h | h
  · exact kGus hI hi h
  rcases ite_o h with h | h
  · exact kLea hI hi h
  rcases ite_o h with h | h
  · exact kBal hI hi h
  rcases ite_o h with h | h
  · exact kPar hI hi h
  rcases ite_o h with h | h
  · exact kTie hI hi h
  rcases ite_o h with h | h
  · exact kUnt hI hi h
  rcases ite_o h with h | h
  · exact kHow (k := 0) (v := 1) (by decide) (P := fun a => decide (whyL w a = 0)) hI hi h
  rcases ite_o h with h | h
  · exact kHow (k := 0) (v := 0) (by decide) (P := fun a => decide (bo w a 3 = 1)) hI hi h
  rcases ite_o h with h | h
  · exact kFre hI hi h
  rcases ite_o h with h | h
  · exact kFil hI hi h
  rcases ite_o h with h | h
  · exact kGas hI hi h
  rcases ite_o h with h | h
  · exact kClm hI hi h
  · exact kHrs hI hi h
end KEEP
/-- a script's part: an error, or the place behind it, the row, the commands carried out -/
abbrev Rs : Type := Er ⊕ (Nat × (Nat → Int) × Nat)
def cmdG (R : Nat → (Nat → Int) → Nat → Rs) (tx : Nat → Int) (N i : Nat) (w : Nat → Int) (ex : Nat) : Rs :=
  if wordI tx N i = -1 then .inl (1, ((tOff tx N i : Nat) : Int)) else if wordI tx N i = 15 then R i w ex else if ex = 200 then .inl (5, ((tOff tx N i : Nat) : Int)) else bnd (cmdA (wordI tx N i) tx N (tEnd tx N i) w) fun a => .inr (a.1, a.2, ex + 1)
def loopG (stop : Int) (R : Nat → (Nat → Int) → Nat → Rs) (tx : Nat → Int) (N : Nat) : Nat → Nat → (Nat → Int) → Nat → Rs
  | 0, _, _, _ => .inl (0, 0)
  | f + 1, i, w, ex => if tKnd tx N i = stop then .inr (i, w, ex) else bnd (cmdG R tx N i w ex) fun a => loopG stop R tx N f a.1 a.2.1 a.2.2
theorem loop_s {stop : Int} {R : Nat → (Nat → Int) → Nat → Rs} {tx : Nat → Int} {N f i : Nat} {w : Nat → Int} {ex : Nat} : loopG stop R tx N (f + 1) i w ex = if tKnd tx N i = stop then .inr (i, w, ex) else bnd (cmdG R tx N i w ex) fun a => loopG stop R tx N f a.1 a.2.1 a.2.2 := rfl
def rndG (B : Nat → (Nat → Int) → Nat → Rs) (i : Nat) : Nat → Nat → (Nat → Int) → Nat → Rs
  | 0, j, w, ex => .inr (j, w, ex)
  | t + 1, _, w, ex => bnd (B i w ex) fun a => rndG B i t a.1 a.2.1 a.2.2
theorem rnd_s {B : Nat → (Nat → Int) → Nat → Rs} {i t j : Nat} {w : Nat → Int} {ex : Nat} : rndG B i (t + 1) j w ex = bnd (B i w ex) fun a => rndG B i t a.1 a.2.1 a.2.2 := rfl
def repG (B : Nat → (Nat → Int) → Nat → Rs) (tx : Nat → Int) (N i : Nat) (w : Nat → Int) (ex : Nat) : Rs :=
  bnd (numA tx N (tEnd tx N i) 1 20) fun a => if tKnd tx N a.2 = 4 then (bnd (rndG B (tEnd tx N a.2) a.1 (tEnd tx N a.2) w ex) fun b => if tKnd tx N (tEnd tx N b.1) = 1 then .inr (tEnd tx N (tEnd tx N b.1), b.2) else .inl (1, ((tOff tx N (tEnd tx N b.1) : Nat) : Int))) else .inl (1, ((tOff tx N a.2 : Nat) : Int))
def deepR (tx : Nat → Int) (N : Nat) : Nat → Nat → (Nat → Int) → Nat → Rs
  | 0, i, _, _ => .inl (4, ((tOff tx N i : Nat) : Int))
  | m + 1, i, w, ex => repG (loopG 5 (deepR tx N m) tx N (N + 1)) tx N i w ex
def parA (tx : Nat → Int) (N : Nat) : Rs :=
  if saysB tx N 0 (sT 52) = true then (bnd (numA tx N (tEnd tx N 0) 8 30) fun a => if tKnd tx N a.2 = 1 then loopG 0 (deepR tx N 2) tx N (N + 1) (tEnd tx N a.2) (iniW ((a.1 : Nat) : Int)) 0 else .inl (1, ((tOff tx N a.2 : Nat) : Int))) else .inl (1, ((tOff tx N 0 : Nat) : Int))
/-- what a part of a script is like: from i on it goes forward and keeps what holds -/
def Good (N i : Nat) (r : Rs) : Prop := match r with
  | .inl e => 1 ≤ e.1 ∧ e.1 ≤ 5
  | .inr a => i ≤ a.1 ∧ a.1 ≤ N ∧ Inv a.2.1 ∧ a.2.2 ≤ 200
theorem numA_er {tx : Nat → Int} {N i : Nat} {lo hi : Int} {e : Er} (h : numA tx N i lo hi = .inl e) : 1 ≤ e.1 ∧ e.1 ≤ 3 := by
  obtain ⟨k, o⟩ := e
  have := (numA_e h).2
  simp only
  omega
theorem semA_er {tx : Nat → Int} {N i : Nat} {c : Bool} {e : Er} (h : semA tx N i c = .inl e) : 1 ≤ e.1 ∧ e.1 ≤ 3 := by
  obtain ⟨k, o⟩ := e
  have := (semA_e h).2
  simp only
  omega
theorem bnd_l {α β : Type} {r : Er ⊕ α} {f : α → Er ⊕ β} {P : Er → Prop} (h1 : ∀ e, r = .inl e → P e) (h2 : ∀ a, r = .inr a → ∀ e, f a = .inl e → P e) : ∀ e, bnd r f = .inl e → P e := by
  intro e h
  cases r with
  | inl e' =>
    cases h
    exact h1 _ rfl
  | inr a => exact h2 a rfl e h
def ErP (e : Er) : Prop := 1 ≤ e.1 ∧ e.1 ≤ 3
theorem erP {k o : Int} (h1 : 1 ≤ k) (h2 : k ≤ 3) : ErP (k, o) := ⟨h1, h2⟩
theorem kErr {c : Int} {tx w : Nat → Int} {N i : Nat} : ∀ e, cmdA c tx N i w = .inl e → ErP e := by
  have hn : ∀ {i lo hi}, ∀ e, numA tx N i lo hi = .inl e → ErP e := fun e h => numA_er h
  have hs : ∀ {i c}, ∀ e, semA tx N i c = .inl e → ErP e := fun e h => semA_er h
  have hz : ∀ {α : Type} {a : α} (e : Er), (.inr a : Er ⊕ α) = .inl e → ErP e := fun e h => by cases h
  have hd : ∀ e, dirA tx N i = .inl e → ErP e := fun e h => by
    unfold dirA at h
    split at h
    · cases h
    · split at h
      · cases h
      · cases h; exact erP (by decide) (by decide)
  have ho : ∀ {i x}, ∀ e, othA tx N i x w = .inl e → ErP e := fun e h => by
    unfold othA at h
    split at h
    · cases h; exact erP (by decide) (by decide)
    · exact hn e h
  have hc : ∀ {i x}, ∀ e, clmA tx N i x w = .inl e → ErP e := fun e h => by
    unfold clmA at h
    split at h
    · cases h; exact erP (by decide) (by decide)
    · exact hn e h
  intro e h
  unfold cmdA at h
  rcases ite_o h with h | h
  · exact bnd_l hn (fun _ _ => bnd_l hn fun _ _ => bnd_l hs fun _ _ => hz) e h
  rcases ite_o h with h | h
  · exact bnd_l hn (fun _ _ => bnd_l hn fun _ _ => bnd_l hs fun _ _ => hz) e h
  rcases ite_o h with h | h
  · exact bnd_l hd (fun _ _ => bnd_l hn fun _ _ => bnd_l hs fun _ _ => hz) e h
  rcases ite_o h with h | h
  · exact bnd_l hn (fun _ _ => bnd_l hs fun _ _ => hz) e h
  rcases ite_o h with h | h
  · exact bnd_l hn (fun _ _ => bnd_l hn fun _ _ => bnd_l hn fun _ _ => bnd_l hs fun _ _ => hz) e h
  rcases ite_o h with h | h
  · exact bnd_l hn (fun _ _ => bnd_l hn fun _ _ => bnd_l ho fun _ _ => bnd_l hn fun _ _ => bnd_l hs fun _ _ => hz) e h
  rcases ite_o h with h | h
  · exact bnd_l hn (fun _ _ => bnd_l hn fun _ _ => bnd_l hs fun _ _ => hz) e h
  rcases ite_o h with h | h
  · exact bnd_l hn (fun _ _ => bnd_l hs fun _ _ => hz) e h
  rcases ite_o h with h | h
  · exact bnd_l hn (fun _ _ => bnd_l hs fun _ _ => hz) e h
  rcases ite_o h with h | h
  · exact bnd_l hn (fun _ _ => bnd_l hs fun _ _ => hz) e h
  rcases ite_o h with h | h
  · exact bnd_l hn (fun _ _ => bnd_l hs fun _ _ => hz) e h
  rcases ite_o h with h | h
  · exact bnd_l hn (fun _ _ => bnd_l hn fun _ _ => bnd_l hs fun _ _ => hz) e h
  rcases ite_o h with h | h
  · exact bnd_l hn (fun _ _ => bnd_l hs fun _ _ => hz) e h
  rcases ite_o h with h | h
  · exact bnd_l hn (fun _ _ => bnd_l hc fun _ _ => bnd_l hs fun _ _ => hz) e h
  · exact bnd_l hn (fun _ _ => bnd_l hs fun _ _ => hz) e h
theorem wordF_b {tx : Nat → Int} {N i : Nat} : ∀ {l : List Nat} {k : Int}, 0 ≤ k → -1 ≤ wordF tx N i l k ∧ wordF tx N i l k < k + l.length ∧ (¬ wordF tx N i l k = -1 → tKnd tx N i = 2)
  | [], k, hk => ⟨Int.le_refl _, by show (-1 : Int) < _; simp; omega, fun h => absurd rfl h⟩
  | a :: l, k, hk => by
    unfold wordF
    split
    · rename_i h
      refine ⟨by omega, by simp; omega, fun _ => ?_⟩
      unfold saysB at h
      simp at h
      exact h.1
    · have h1 := wordF_b (tx := tx) (N := N) (i := i) (l := l) (k := k + 1) (by omega)
      refine ⟨h1.1, by simp; omega, h1.2.2⟩
theorem wordI_b {tx : Nat → Int} {N i : Nat} : -1 ≤ wordI tx N i ∧ wordI tx N i < 16 ∧ (¬ wordI tx N i = -1 → tKnd tx N i = 2) := by
  have h := wordF_b (tx := tx) (N := N) (i := i) (l := wl1 ++ wl2) (k := 0) (by omega)
  exact ⟨h.1, h.2.1, h.2.2⟩
theorem tPos1 {tx : Nat → Int} {N i : Nat} (h : i ≤ N) (hk : ¬ tKnd tx N i = 0) : i < tEnd tx N i ∧ tEnd tx N i ≤ N := by
  have h1 := tOff_b (tx := tx) h
  have h2 := tEnd_b (tx := tx) h
  have h3 : ¬ tOff tx N i = N := fun e => hk (by unfold tKnd; rw [if_pos e])
  omega
def Good1 (N i : Nat) (r : Rs) : Prop := match r with
  | .inl e => 1 ≤ e.1 ∧ e.1 ≤ 5
  | .inr a => i < a.1 ∧ a.1 ≤ N ∧ Inv a.2.1 ∧ a.2.2 ≤ 200
theorem goodE {N i : Nat} {k o : Int} (h1 : 1 ≤ k) (h2 : k ≤ 5) : Good N i (.inl (k, o)) := ⟨h1, h2⟩
theorem goodE1 {N i : Nat} {k o : Int} (h1 : 1 ≤ k) (h2 : k ≤ 5) : Good1 N i (.inl (k, o)) := ⟨h1, h2⟩
theorem good_cmd {R : Nat → (Nat → Int) → Nat → Rs} {tx w : Nat → Int} {N i ex : Nat} (hR : wordI tx N i = 15 → Good1 N i (R i w ex)) (hi : i ≤ N) (hI : Inv w) (hx : ex ≤ 200) : Good1 N i (cmdG R tx N i w ex) := by
  have hw := wordI_b (tx := tx) (N := N) (i := i)
  unfold cmdG
  split
  · exact goodE1 (by decide) (by decide)
  · rename_i h1
    split
    · rename_i h2; exact hR h2
    · split
      · exact goodE1 (by decide) (by decide)
      · have hp := tPos1 (tx := tx) hi (by rw [hw.2.2 h1]; decide)
        rcases hc : cmdA (wordI tx N i) tx N (tEnd tx N i) w with e | ⟨j, u⟩
        · have h9 := kErr e hc
          exact ⟨h9.1, by have := h9.2; show e.1 ≤ 5; omega⟩
        · have h9 := kCmd hI hp.2 hc
          exact ⟨by show i < j; omega, h9.2.2, h9.1, by show ex + 1 ≤ 200; omega⟩
theorem good_loop {stop : Int} {R : Nat → (Nat → Int) → Nat → Rs} {tx : Nat → Int} {N : Nat} (hR : ∀ {i w ex}, i ≤ N → Inv w → ex ≤ 200 → wordI tx N i = 15 → Good1 N i (R i w ex)) : ∀ {f i : Nat} {w : Nat → Int} {ex : Nat}, N + 1 - i ≤ f → i ≤ N → Inv w → ex ≤ 200 → Good N i (loopG stop R tx N f i w ex)
  | 0, i, w, ex, hf, hi, _, _ => by omega
  | f + 1, i, w, ex, hf, hi, hI, hx => by
    unfold loopG
    split
    · exact ⟨Nat.le_refl _, hi, hI, hx⟩
    · have h1 := good_cmd (R := R) (hR hi hI hx) hi hI hx
      rcases hc : cmdG R tx N i w ex with e | ⟨j, u, ey⟩
      · rw [hc] at h1; exact h1
      · rw [hc] at h1
        obtain ⟨a1, a2, a3, a4⟩ := h1
        simp only at a1 a2 a3 a4
        have h2 := good_loop (stop := stop) hR (f := f) (i := j) (w := u) (ex := ey) (by omega) a2 a3 a4
        show Good N i (loopG stop R tx N f j u ey)
        rcases hd : loopG stop R tx N f j u ey with e | ⟨j2, u2, ey2⟩
        · rw [hd] at h2; exact h2
        · rw [hd] at h2
          obtain ⟨b1, b2, b3, b4⟩ := h2
          exact ⟨by simp only at b1 ⊢; omega, b2, b3, b4⟩
theorem good_rnd {B : Nat → (Nat → Int) → Nat → Rs} {N i : Nat} (hB : ∀ {w ex}, Inv w → ex ≤ 200 → Good N i (B i w ex)) : ∀ {t j : Nat} {w : Nat → Int} {ex : Nat}, i ≤ j → j ≤ N → Inv w → ex ≤ 200 → Good N i (rndG B i t j w ex)
  | 0, j, w, ex, h1, h2, h3, h4 => ⟨h1, h2, h3, h4⟩
  | t + 1, j, w, ex, h1, h2, h3, h4 => by
    have h5 := hB h3 h4
    unfold rndG
    rcases hc : B i w ex with e | ⟨j', u, ey⟩
    · rw [hc] at h5; exact h5
    · rw [hc] at h5
      obtain ⟨a1, a2, a3, a4⟩ := h5
      exact good_rnd hB (t := t) a1 a2 a3 a4
theorem good_rep {B : Nat → (Nat → Int) → Nat → Rs} {tx : Nat → Int} {N i : Nat} {w : Nat → Int} {ex : Nat} (hB : ∀ {i w ex}, i ≤ N → Inv w → ex ≤ 200 → Good N i (B i w ex)) (hi : i ≤ N) (hk : ¬ tKnd tx N i = 0) (hI : Inv w) (hx : ex ≤ 200) : Good1 N i (repG B tx N i w ex) := by
  have p1 := tPos1 (tx := tx) hi hk
  unfold repG
  rcases hA : numA tx N (tEnd tx N i) 1 20 with e | ⟨a, j⟩
  · have := numA_er hA
    exact ⟨this.1, by show e.1 ≤ 5; omega⟩
  · have q := numA_o hA (by decide)
    have p2 := tPos (tx := tx) p1.2
    rw [← q.2.2.2.1] at p2
    have p3 := tPos (tx := tx) p2.2
    show Good1 N i (if tKnd tx N j = 4 then _ else _)
    split
    · have h2 := good_rnd (B := B) (i := tEnd tx N j) (fun h1 h2 => hB p3.2 h1 h2) (t := a) (j := tEnd tx N j) (Nat.le_refl _) p3.2 hI hx
      simp only
      rcases hd : rndG B (tEnd tx N j) a (tEnd tx N j) w ex with e | ⟨j2, u2, ey2⟩
      · rw [hd] at h2; exact h2
      · rw [hd] at h2
        obtain ⟨b1, b2, b3, b4⟩ := h2
        simp only at b1 b2 b3 b4
        have p4 := tPos (tx := tx) b2
        have p5 := tPos (tx := tx) p4.2
        show Good1 N i (if tKnd tx N (tEnd tx N j2) = 1 then _ else _)
        split
        · exact ⟨by show i < tEnd tx N (tEnd tx N j2); omega, p5.2, b3, b4⟩
        · exact goodE1 (by decide) (by decide)
    · exact goodE1 (by decide) (by decide)
theorem good_deep {tx : Nat → Int} {N : Nat} : ∀ {m i : Nat} {w : Nat → Int} {ex : Nat}, i ≤ N → Inv w → ex ≤ 200 → wordI tx N i = 15 → Good1 N i (deepR tx N m i w ex)
  | 0, i, w, ex, _, _, _, _ => goodE1 (by decide) (by decide)
  | m + 1, i, w, ex, hi, hI, hx, hw => good_rep (fun h1 h2 h3 => good_loop (fun g1 g2 g3 g4 => good_deep g1 g2 g3 g4) (by omega) h1 h2 h3) hi (by rw [(wordI_b (tx := tx) (N := N) (i := i)).2.2 (by omega)]; decide) hI hx
theorem good_par {tx : Nat → Int} {N : Nat} : Good N 0 (parA tx N) := by
  unfold parA
  split
  · rename_i h0
    have p1 := tPos (tx := tx) (N := N) (i := 0) (by omega)
    rcases hA : numA tx N (tEnd tx N 0) 8 30 with e | ⟨a, j⟩
    · have := numA_er hA
      exact ⟨this.1, by show e.1 ≤ 5; omega⟩
    · have q := numA_o hA (by decide)
      have p2 := tPos (tx := tx) p1.2
      rw [← q.2.2.2.1] at p2
      have p3 := tPos (tx := tx) p2.2
      show Good N 0 (if tKnd tx N j = 1 then _ else _)
      split
      · have h2 := good_loop (stop := 0) (R := deepR tx N 2) (tx := tx) (N := N) (fun g1 g2 g3 g4 => good_deep g1 g2 g3 g4) (f := N + 1) (i := tEnd tx N j) (w := iniW ((a : Nat) : Int)) (ex := 0) (by omega) p3.2 (ini_inv q.2.1 q.2.2.1) (by omega)
        simp only
        rcases hd : loopG 0 (deepR tx N 2) tx N (N + 1) (tEnd tx N j) (iniW ((a : Nat) : Int)) 0 with e | ⟨j2, u2, ey2⟩
        · rw [hd] at h2; exact h2
        · rw [hd] at h2
          exact ⟨by omega, h2.2.1, h2.2.2.1, h2.2.2.2⟩
      · exact goodE (by decide) (by decide)
  · exact goodE (by decide) (by decide)
