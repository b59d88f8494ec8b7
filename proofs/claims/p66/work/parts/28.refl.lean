/-! THE REFERENCE: tokens (written by wip/whole/gen28.py) -/
def TxB (tx : Nat → Int) : Prop := ∀ k, 0 ≤ tx k ∧ tx k ≤ 255
theorem vu_id (s : Nat → Int) (k : Nat) : va_up s k (s k) = s := by
  funext j
  unfold va_up
  split
  · rename_i e; rw [e]
  · rfl
