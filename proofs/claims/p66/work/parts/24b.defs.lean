/-! THE MATHEMATICS: what is thrown; the remembered rows -/
def shF (k m : Nat) (d : Nat → Int) : Nat → Int := itF (fun k d => va_up d (k - 211) (d k)) k m d
theorem shF_at : ∀ {m k : Nat} {d : Nat → Int} {j : Nat}, 211 ≤ k → shF k m d j = if k ≤ j + 211 ∧ j + 211 < k + m then d (j + 211) else d j
  | 0, k, d, j, _ => by
    rw [if_neg (by omega)]
    rfl
  | m + 1, k, d, j, hk => by
    have e : shF k (m + 1) d j = shF (k + 1) m (va_up d (k - 211) (d k)) j := rfl
    rw [e, shF_at (by omega)]
    by_cases h1 : k + 1 ≤ j + 211 ∧ j + 211 < k + 1 + m
    · rw [if_pos h1, if_pos (by omega), vu_ne (by omega)]
    · rw [if_neg h1]
      by_cases h2 : j = k - 211
      · rw [if_pos (by omega), h2, vu_at, show k - 211 + 211 = k by omega]
      · rw [vu_ne h2, if_neg (by omega)]
def RmP (s : Nat → Int) (pm : Nat) (P b s' P' : Nat → Int) : Prop := s' 5 = (if pm = 8 then 8 else (pm : Int) + 1) ∧ (∀ j, ¬ j = 5 → s' j = s j) ∧ P' = (if pm = 8 then cpF b 0 (211 * 7) 0 211 (shF 211 1477 P) else cpF b 0 (211 * pm) 0 211 P)
def canU (w : Nat → Int) (p : Nat) : Bool := decide (pa w p 4 = 1) && decide (bo w (pa w p 5).toNat 3 = 0)
