/-! THE FIRST SCRIPT -/
def fiT : Nat → Int := fun k => (sT 23).getD k 0
def fiN : Nat := (sT 23).length
def isR (r : Rs) : Bool := match r with
  | .inl _ => false
  | .inr _ => true
theorem first_ok : isR (parA fiT fiN) = true := by decide +kernel
