/-- behind typing: the object and the buffer alone are others -/
def RY (h h' : aH) (s' bu' : Nat → Int) : Prop := h'.2.2 226 = .inr (8, Mo s') ∧ h'.2.2 232 = .inl (0, 600, .inl bu') ∧ (∀ a, ¬ a = 226 → ¬ a = 232 → h'.2.2 a = h.2.2 a) ∧ h'.1 = h.1 ∧ h'.2.1 = h.2.1
theorem RY.tr {h h1 h2 : aH} {s1 b1 s2 b2 : Nat → Int} (a : RY h h1 s1 b1) (b : RY h1 h2 s2 b2) : RY h h2 s2 b2 := ⟨b.1, b.2.1, fun q x y => (b.2.2.1 q x y).trans (a.2.2.1 q x y), b.2.2.2.1.trans a.2.2.2.1, b.2.2.2.2.trans a.2.2.2.2⟩
theorem RY.rf {h : aH} {s bu : Nat → Int} (h1 : h.2.2 226 = .inr (8, Mo s)) (h2 : h.2.2 232 = .inl (0, 600, .inl bu)) : RY h h s bu := ⟨h1, h2, fun _ _ _ => rfl, rfl, rfl⟩
theorem RY.s {h h' : aH} {s bu s' : Nat → Int} (r : RY h h' s bu) : RY h (sw h' 226 (.inr (8, Mo s'))) s' bu := ⟨sw_at _ _ _, (sw_ne (by decide)).trans r.2.1, fun a x y => (sw_ne x).trans (r.2.2.1 a x y), r.2.2.2.1, r.2.2.2.2⟩
theorem RY.b {h h' : aH} {s bu bu' : Nat → Int} (r : RY h h' s bu) : RY h (sw h' 232 (.inl (0, 600, .inl bu'))) s bu' := ⟨(sw_ne (by decide)).trans r.1, sw_at _ _ _, fun a x y => (sw_ne y).trans (r.2.2.1 a x y), r.2.2.2.1, r.2.2.2.2⟩
