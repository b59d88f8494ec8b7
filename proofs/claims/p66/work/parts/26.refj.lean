theorem foundP_b {w : Nat → Int} (x n : Int) : -1 ≤ foundP w x n ∧ foundP w x n < (nP w : Int) := by
  have h := numbd_b (w := w) n
  unfold foundP
  split
  · omega
  · split <;> omega
theorem whyT_0 {w : Nat → Int} {p b : Nat} (h : whyT w p b = 0) : pa w p 4 = 0 ∧ bo w b 3 = 0 ∧ pa w p 5 = bo w b 0 ∧ ¬ knots w b = 4 ∧ pa w p 0 < spare w b := by
  unfold whyT at h
  repeat' split at h
  all_goals first | omega | (simp_all; done)
theorem canU_iff {w : Nat → Int} {p : Nat} : canU w p = true ↔ pa w p 4 = 1 ∧ bo w (pa w p 5).toNat 3 = 0 := by unfold canU; simp
