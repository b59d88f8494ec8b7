def wordF (tx : Nat → Int) (N i : Nat) : List Nat → Int → Int
  | [], _ => -1
  | j :: l, k => if saysB tx N i (sT j) = true then k else wordF tx N i l (k + 1)
def wl1 : List Nat := [36, 37, 38, 39, 40, 41, 42, 43]
def wl2 : List Nat := [44, 45, 46, 47, 48, 49, 50, 51]
def wordI (tx : Nat → Int) (N i : Nat) : Int := wordF tx N i (wl1 ++ wl2) 0
