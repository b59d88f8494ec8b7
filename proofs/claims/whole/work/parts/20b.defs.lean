/-! THE MATHEMATICS: what the answers are -/
theorem isBa_iff {w : Nat → Int} {x : Int} : isBa w x = true ↔ 0 ≤ x ∧ x ≤ w 5 - 1 := by unfold isBa; simp
theorem isPa_iff {w : Nat → Int} {x : Int} : isPa w x = true ↔ 0 ≤ x ∧ x ≤ w 6 - 1 := by unfold isPa; simp
theorem inB_iff {x l m : Int} : inB x l m = true ↔ l ≤ x ∧ x ≤ m := by unfold inB; simp
def setG (f : Nat → Bool) (p : Nat) (a : Int) : Int := orI a (if f p = true then shlI 1 ((p : Nat) : Int) else 0)
def setF (f : Nat → Bool) (n : Nat) : Int := itF (setG f) 0 n 0
def flyF (w : Nat → Int) (b : Nat) : Bool := decide (bo w b 3 = 1)
def lftG (w : Nat → Int) (b : Nat) (a : Int) : Int := a + bo w b 1
def lftS (w : Nat → Int) : Int := itF (lftG w) 0 (nB w) 0
def clmG (w : Nat → Int) (p : Nat) (a : Int) : Int := a + (if pa w p 4 = 2 then 1 else 0)
def clmS (w : Nat → Int) : Int := itF (clmG w) 0 (nP w) 0
def bstG (w : Nat → Int) (p b : Nat) (a : Int) : Int := if whyT w p b = 0 ∧ (a = -1 ∨ spare w b < spare w a.toNat) then (b : Int) else a
def bstB (w : Nat → Int) (p : Nat) : Int := itF (bstG w p) 0 (nB w) (-1)
def heav (w : Nat → Int) (b : Nat) : Int := if knots w b = 4 then 0 else maxI 0 (minI 9 (spare w b - 1))
def dblG (w : Nat → Int) (p k : Nat) (a : Int) : Int := a + (if (¬ pa w p 4 = 2 ∧ ¬ pa w k 4 = 2) ∧ pa w p 3 = pa w k 3 then 1 else 0)
def dbl (w : Nat → Int) (p : Nat) : Int := itF (dblG w p) 0 p 0
def ovrG (w : Nat → Int) (b : Nat) (a : Int) : Int := a + (if ¬ 0 < spare w b ∨ 4 < knots w b then 1 else 0)
def dbsG (w : Nat → Int) (p : Nat) (a : Int) : Int := a + dbl w p
def absV (x : Int) : Int := if i32 x < 0 then -x else x
def viol (w : Nat → Int) : Int := itF (dbsG w) 0 (nP w) (itF (ovrG w) 0 (nB w) (absV (w 9 - lftS w - w 10)))
def batF (w : Nat → Int) (x : Int) (b : Nat) : Bool := decide (bo w b 0 = x)
def baAt (w : Nat → Int) (x : Int) : Int := fiF (batF w x) 0 (nB w)
def paAt (w : Nat → Int) (x : Int) : Int := fiF (fun p => lies w p x) 0 (nP w)
def markI (w : Nat → Int) (x : Nat) : Int := if ¬ baAt w x = -1 then 48 + baAt w x else if ¬ paAt w x = -1 then 112 else if 0 < w (53 + x) then 116 else if 0 < w (23 + x) then 114 else 46
def sinkF (b : Nat) : Nat → (Nat → Int) → Int → (Nat → Int) × Int
  | 0, w, n => (w, n)
  | m + 1, w, n => if bo w b 3 = 1 then sinkF b m (hrW w) (n + 1) else (w, n)
def sinkN (w : Nat → Int) (b : Nat) : Int := if ¬ bo w b 3 = 1 then -1 else if bo (sinkF b 200 w 0).1 b 3 = 0 then (sinkF b 200 w 0).2 else -1
def destF (p : Nat) : Nat → (Nat → Int) → Int → (Nat → Int) × Int
  | 0, w, n => (w, n)
  | m + 1, w, n => if plOf w p = pa w p 2 then (w, n) else destF p m (hrW w) (n + 1)
def destN (w : Nat → Int) (p : Nat) : Int := if pa w p 4 = 2 then -1 else if plOf (destF p 48 w 0).1 p = pa (destF p 48 w 0).1 p 2 then (destF p 48 w 0).2 else -1
/-- n numbers of f from so on, written from tg on -/
def cpF (f : Nat → Int) (so tg k m : Nat) (d : Nat → Int) : Nat → Int := itF (fun k d => va_up d (tg + k) (f (so + k))) k m d
theorem cpF_at {f : Nat → Int} {so tg : Nat} : ∀ {m k : Nat} {d : Nat → Int} {j : Nat}, cpF f so tg k m d j = if tg + k ≤ j ∧ j < tg + k + m then f (so + (j - tg)) else d j
  | 0, k, d, j => by
    rw [if_neg (by omega)]
    rfl
  | m + 1, k, d, j => by
    have e : cpF f so tg k (m + 1) d = cpF f so tg (k + 1) m (va_up d (tg + k) (f (so + k))) := rfl
    rw [e, cpF_at]
    by_cases h1 : tg + (k + 1) ≤ j ∧ j < tg + (k + 1) + m
    · rw [if_pos h1, if_pos (by omega)]
    · rw [if_neg h1]
      by_cases h2 : j = tg + k
      · rw [if_pos (by omega), h2, vu_at, show so + (tg + k - tg) = so + k by omega]
      · rw [vu_ne h2, if_neg (by omega)]
/-- the whole row back: w from the row d that holds it -/
theorem cp_back {w d u : Nat → Int} (hd : ∀ j, j < 211 → d j = w j) (hw : ∀ j, 211 ≤ j → w j = 0) (hu : ∀ j, 211 ≤ j → u j = 0) : cpF d 0 0 0 211 u = w := by
  funext j
  rw [cpF_at]
  by_cases h : j < 211
  · rw [if_pos (by omega), show 0 + (j - 0) = j by omega]
    exact hd j h
  · rw [if_neg (by omega), hu j (by omega), hw j (by omega)]
theorem cp_to {w d : Nat → Int} {j : Nat} (hj : j < 211) : cpF w 0 0 0 211 d j = w j := by
  rw [cpF_at, if_pos (by omega), show 0 + (j - 0) = j by omega]
