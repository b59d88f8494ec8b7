/-! THE REFERENCE: hours (written by wip/whole/gen20.py) -/
theorem gustI_b {w : Nat → Int} (hI : Inv0 w) {x : Int} (hx : 0 ≤ x) : -3 ≤ gustI w x ∧ gustI w x ≤ 3 := by
  unfold gustI
  have h1 := hI.gn
  split
  · omega
  · rename_i h2
    have h3 := Int.emod_nonneg x h2
    have h4 := Int.emod_lt_of_pos x (show 0 < w 4 by omega)
    exact hI.gusts _ (by omega)
