/-! THE REFERENCE: commands and repeats of scripts (written by wip/whole/gen34.py) -/
def Fy (s s' : Nat → Int) : Prop := (∀ j, j < 11 ∨ (12 < j ∧ j < 16) ∨ 21 ≤ j → s' j = s j) ∧ (s' 11 = 0 → s 11 = 0 ∧ s' 12 = s 12)
theorem Fy.rf {s : Nat → Int} : Fy s s := ⟨fun _ _ => rfl, fun h => ⟨h, rfl⟩⟩
theorem Fy.tr {s u v : Nat → Int} (a : Fy s u) (b : Fy u v) : Fy s v := ⟨fun j hj => (b.1 j hj).trans (a.1 j hj), fun h => ⟨(a.2 (b.2 h).1).1, (b.2 h).2.trans (a.2 (b.2 h).1).2⟩⟩
theorem Fy.ex {s : Nat → Int} {k : Int} : Fy s (va_up s 20 k) := ⟨fun j hj => vu_ne (by omega), fun h => ⟨h, rfl⟩⟩
theorem Fy.ps {s : Nat → Int} {k : Int} : Fy s (va_up s 18 k) := ⟨fun j hj => vu_ne (by omega), fun h => ⟨h, rfl⟩⟩
def TZ (w : Nat → Int) : Prop := ∀ j, 211 ≤ j → w j = 0
section
variable {a b0 k : Nat}
end
section
variable {a b0 k : Nat}
end
