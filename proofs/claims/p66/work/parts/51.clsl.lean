/-! THE CLASS: hours (written by wip/whole/gen51.py) -/
theorem cl_inv {w : Nat → Int} (hI : Inv0 w) {b : Nat} (hb : b < nB w) : Inv0 (clW w b) ∧ Sl w (clW w b) := by
  unfold clW
  split
  · exact leak_inv hI hb
  · exact ⟨hI, Sl.rf⟩
/-- an hour of one balloon alone -/
def ohW (b : Nat) (w : Nat → Int) : Nat → Int := tkW (clW (drG b w) b)
theorem oh_1 {b : Nat} {w : Nat → Int} : ohW b w 1 = clW (drG b w) b 1 + 1 := by unfold ohW tkW; exact vu_at _ _ _
