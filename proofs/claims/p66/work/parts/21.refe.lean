/-! THE REFERENCE: what its face answers (written by wip/whole/gen21.py) -/
section RAW
variable {K y : Nat} {res : aRes} {pc pc' len a b c : Nat} {L S : List aV} {kc ks : Nat} {h : aH}
theorem r_if54w {x : Int} (hc : code_ y pc = some (54, len, a, b, c)) (hp : pc + len = pc') (k1 : i32 x < 0 → RU K y res (pc', L, S, kc, ks, h)) (k2 : ¬ i32 x < 0 → RU K y res (a, L, S, kc, ks, h)) : RU K y res (pc, L, aI x :: S, kc, ks, h) := by
  subst hp
  by_cases e : i32 x < 0
  · exact RU.st m_54 hc (by rw [lst_54]; dsimp only; rw [if_pos e]) (k1 e)
  · exact RU.st m_54 hc (by rw [lst_54]; dsimp only; rw [if_neg e]) (k2 e)
end RAW
