theorem whyT_b (w : Nat → Int) (p b : Nat) : 0 ≤ whyT w p b ∧ whyT w p b ≤ 6 := by
  unfold whyT
  repeat' split
  all_goals omega
theorem whyL_b (w : Nat → Int) (b : Nat) : 0 ≤ whyL w b ∧ whyL w b ≤ 6 := by
  unfold whyL
  repeat' split
  all_goals omega
