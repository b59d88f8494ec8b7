/-! THE FIRST SCRIPT -/
def fiT : Nat → Int := fun k => (sT 32 ++ sT 33).getD k 0
def fiN : Nat := (sT 32).length + (sT 33).length
def isR (r : Rs) : Bool := match r with
  | .inl _ => false
  | .inr _ => true
theorem first_a : saysB fiT fiN 0 (sT 52) = true := by decide +kernel
theorem first_b : isR (cmdG (deepR fiT fiN 2) fiT fiN 10 (iniW 12) 0) = true := by decide +kernel
theorem first_ok : isR (parA fiT fiN) = true := by decide +kernel
