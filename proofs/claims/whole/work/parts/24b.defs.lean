/-! THE MATHEMATICS: what is thrown; the remembered rows -/
def shF (k m : Nat) (d : Nat → Int) : Nat → Int := itF (fun k d => va_up d (k - 211) (d k)) k m d
theorem shF_at : ∀ {m k : Nat} {d : Nat → Int} {j : Nat}, 211 ≤ k → shF k m d j = if k ≤ j + 211 ∧ j + 211 < k + m then d (j + 211) else d j
  | 0, k, d, j, _ => by
    rw [if_neg (by omega)]
    rfl
  | m + 1, k, d, j, hk => by
    have e : shF k (m + 1) d j = shF (k + 1) m (va_up d (k - 211) (d k)) j := rfl
    rw [e, shF_at (by omega)]
    by_cases h1 : k + 1 ≤ j + 211 ∧ j + 211 < k + 1 + m
    · rw [if_pos h1, if_pos (by omega), vu_ne (by omega)]
    · rw [if_neg h1]
      by_cases h2 : j = k - 211
      · rw [if_pos (by omega), h2, vu_at, show k - 211 + 211 = k by omega]
      · rw [vu_ne h2, if_neg (by omega)]
def RmP (s : Nat → Int) (pm : Nat) (P b s' P' : Nat → Int) : Prop := s' 5 = (if pm = 8 then 8 else (pm : Int) + 1) ∧ (∀ j, ¬ j = 5 → s' j = s j) ∧ P' = (if pm = 8 then cpF b 0 (211 * 7) 0 211 (shF 211 1477 P) else cpF b 0 (211 * pm) 0 211 P)
theorem cp_from {P v u : Nat → Int} {q : Nat} (hP : ∀ j, j < 211 → P (q + j) = v j) (hv : ∀ j, 211 ≤ j → v j = 0) (hu : ∀ j, 211 ≤ j → u j = 0) : cpF P q 0 0 211 u = v := by
  funext j
  rw [cpF_at]
  by_cases h : j < 211
  · rw [if_pos (by omega), show q + (j - 0) = q + j by omega]
    exact hP j h
  · rw [if_neg (by omega), hu j (by omega), hv j (by omega)]
def canU (w : Nat → Int) (p : Nat) : Bool := decide (pa w p 4 = 1) && decide (bo w (pa w p 5).toNat 3 = 0)
def tRoof (w : Nat → Int) (x z : Int) : Int := if isPl w x = true then (if inB z 0 9 = true then 0 else 2) else 1
def tGust (w : Nat → Int) (x : Int) : Int := if inB x (-3) 3 = true then (if w 4 = 12 then 2 else 0) else 1
def tLeak (x : Int) : Int := if inB x 1 9 = true then 0 else 1
def tBalo (w : Nat → Int) (x l t : Int) : Int := if isPl w x = true then (if inB l 1 30 = true then (if inB t 1 9 = true then (if w 5 = 8 then 3 else 0) else 2) else 2) else 1
def tParc (w : Nat → Int) (g x z n : Int) : Int := if isPl w x = true then (if isPl w z = true then (if x = z then 2 else if inB g 1 9 = true then (if inB n 0 99 = true then (if w 6 = 16 then 3 else if numbd w n = -1 then 0 else 3) else 2) else 2) else 1) else 1
def tTie (w : Nat → Int) (p b : Int) : Int := if isPa w p = true then (if isBa w b = true then (if whyT w p.toNat b.toNat = 0 then 0 else 2) else 1) else 1
def tUnt (w : Nat → Int) (p : Int) : Int := if isPa w p = true then (if canU w p.toNat = true then 0 else 2) else 1
def tLau (w : Nat → Int) (b : Int) : Int := if isBa w b = true then (if whyL w b.toNat = 0 then 0 else 2) else 1
def tHow (w : Nat → Int) (b k : Int) : Int := if isBa w b = true then (if bo w b.toNat 3 = k then 0 else 2) else 1
def tFil (w : Nat → Int) (b g : Int) : Int := if isBa w b = true then (if inB g 1 29 = true then (if canF w b.toNat g = true then 0 else 3) else 2) else 1
def tGas (w : Nat → Int) (g : Int) : Int := if inB g 1 200 = true then (if 999 < w 2 + g then 2 else 0) else 1
def tClm (w : Nat → Int) (x n : Int) : Int := if isPl w x = true then (if foundP w x n = -1 then 2 else 0) else 1
def tHrs (w : Nat → Int) (n : Int) : Int := if inB n 1 24 = true then (if 999 < w 1 + n then 2 else 0) else 1
