/-! THE MATHEMATICS: what the answers are -/
theorem isBa_iff {w : Nat → Int} {x : Int} : isBa w x = true ↔ 0 ≤ x ∧ x ≤ w 5 - 1 := by unfold isBa; simp
theorem isPa_iff {w : Nat → Int} {x : Int} : isPa w x = true ↔ 0 ≤ x ∧ x ≤ w 6 - 1 := by unfold isPa; simp
theorem inB_iff {x l m : Int} : inB x l m = true ↔ l ≤ x ∧ x ≤ m := by unfold inB; simp
def setG (f : Nat → Bool) (p : Nat) (a : Int) : Int := orI a (if f p = true then shlI 1 ((p : Nat) : Int) else 0)
def setF (f : Nat → Bool) (n : Nat) : Int := itF (setG f) 0 n 0
def flyF (w : Nat → Int) (b : Nat) : Bool := decide (bo w b 3 = 1)
def lftG (w : Nat → Int) (b : Nat) (a : Int) : Int := a + bo w b 1
def lftS (w : Nat → Int) : Int := itF (lftG w) 0 (nB w) 0
def clmG (w : Nat → Int) (p : Nat) (a : Int) : Int := a + (if pa w p 4 = 2 then 1 else 0)
def clmS (w : Nat → Int) : Int := itF (clmG w) 0 (nP w) 0
def bstG (w : Nat → Int) (p b : Nat) (a : Int) : Int := if whyT w p b = 0 ∧ (a = -1 ∨ spare w b < spare w a.toNat) then (b : Int) else a
def bstB (w : Nat → Int) (p : Nat) : Int := itF (bstG w p) 0 (nB w) (-1)
def dblG (w : Nat → Int) (p k : Nat) (a : Int) : Int := a + (if (¬ pa w p 4 = 2 ∧ ¬ pa w k 4 = 2) ∧ pa w p 3 = pa w k 3 then 1 else 0)
def dbl (w : Nat → Int) (p : Nat) : Int := itF (dblG w p) 0 p 0
def ovrG (w : Nat → Int) (b : Nat) (a : Int) : Int := a + (if ¬ 0 < spare w b ∨ 4 < knots w b then 1 else 0)
def dbsG (w : Nat → Int) (p : Nat) (a : Int) : Int := a + dbl w p
def absV (x : Int) : Int := if i32 x < 0 then -x else x
def viol (w : Nat → Int) : Int := itF (dbsG w) 0 (nP w) (itF (ovrG w) 0 (nB w) (absV (w 9 - lftS w - w 10)))
/-- n numbers of f from so on, written from tg on -/
def cpF (f : Nat → Int) (so tg k m : Nat) (d : Nat → Int) : Nat → Int := itF (fun k d => va_up d (tg + k) (f (so + k))) k m d
theorem cpF_at {f : Nat → Int} {so tg : Nat} : ∀ {m k : Nat} {d : Nat → Int} {j : Nat}, cpF f so tg k m d j = if tg + k ≤ j ∧ j < tg + k + m then f (so + (j - tg)) else d j
  | 0, k, d, j => by
    rw [if_neg (by omega)]
    rfl
  | m + 1, k, d, j => by
    have e : cpF f so tg k (m + 1) d = cpF f so tg (k + 1) m (va_up d (tg + k) (f (so + k))) := rfl
    rw [e, cpF_at]
    by_cases h1 : tg + (k + 1) ≤ j ∧ j < tg + (k + 1) + m
    · rw [if_pos h1, if_pos (by omega)]
    · rw [if_neg h1]
      by_cases h2 : j = tg + k
      · rw [if_pos (by omega), h2, vu_at, show so + (tg + k - tg) = so + k by omega]
      · rw [vu_ne h2, if_neg (by omega)]
