/-! THE REFERENCE: telling a text, the constructor (written by wip/whole/gen38.py) -/
/-- an allocation, told like a write -/
def pz (h : aH) (q : Nat) (c : aCell) : aH := (h.1, q + 1, va_up h.2.2 q c)
theorem pw_eq {h : aH} {q : Nat} {c : aCell} (e : h.2.1 = q) : pw h c = pz h q c := by subst e; rfl
theorem pz_f2 {h : aH} {q : Nat} {c : aCell} : (pz h q c).2.1 = q + 1 := rfl
theorem sw_f2 {h : aH} {q : Nat} {c : aCell} : (sw h q c).2.1 = h.2.1 := rfl
theorem pz_at (h : aH) (q : Nat) (c : aCell) : (pz h q c).2.2 q = c := vu_at _ _ _
theorem pz_ne {h : aH} {q : Nat} {c : aCell} {b : Nat} (e : ¬ b = q) : (pz h q c).2.2 b = h.2.2 b := vu_ne e
/-- behind telling: the object and the text alone are others -/
def RT (h h' : aH) (s' tx' : Nat → Int) : Prop := h'.2.2 226 = .inr (8, Mo s') ∧ h'.2.2 233 = .inl (0, 600, .inl tx') ∧ (∀ a, ¬ a = 226 → ¬ a = 233 → h'.2.2 a = h.2.2 a) ∧ h'.1 = h.1 ∧ h'.2.1 = h.2.1
theorem RT.tr {h h1 h2 : aH} {s1 b1 s2 b2 : Nat → Int} (a : RT h h1 s1 b1) (b : RT h1 h2 s2 b2) : RT h h2 s2 b2 := ⟨b.1, b.2.1, fun q x y => (b.2.2.1 q x y).trans (a.2.2.1 q x y), b.2.2.2.1.trans a.2.2.2.1, b.2.2.2.2.trans a.2.2.2.2⟩
theorem RT.rf {h : aH} {s tx : Nat → Int} (h1 : h.2.2 226 = .inr (8, Mo s)) (h2 : h.2.2 233 = .inl (0, 600, .inl tx)) : RT h h s tx := ⟨h1, h2, fun _ _ _ => rfl, rfl, rfl⟩
theorem RT.s {h h' : aH} {s bu s' : Nat → Int} (r : RT h h' s bu) : RT h (sw h' 226 (.inr (8, Mo s'))) s' bu := ⟨sw_at _ _ _, (sw_ne (by decide)).trans r.2.1, fun a x y => (sw_ne x).trans (r.2.2.1 a x y), r.2.2.2.1, r.2.2.2.2⟩
theorem RT.b {h h' : aH} {s bu bu' : Nat → Int} (r : RT h h' s bu) : RT h (sw h' 233 (.inl (0, 600, .inl bu'))) s bu' := ⟨(sw_ne (by decide)).trans r.1, sw_at _ _ _, fun a x y => (sw_ne y).trans (r.2.2.1 a x y), r.2.2.2.1, r.2.2.2.2⟩
def wOf (r : Rs) : Nat → Int := match r with
  | .inl _ => fun _ => 0
  | .inr a => a.2.1
theorem isR_o {r : Rs} (h : isR r = true) : ∃ j ey, r = .inr (j, wOf r, ey) := by
  cases r with
  | inl e => cases h
  | inr a => exact ⟨a.1, a.2.2, rfl⟩
def fiW : Nat → Int := wOf (parA fiT fiN)
theorem fi_ok : ∃ j ey, parA fiT fiN = .inr (j, fiW, ey) := isR_o first_ok
theorem fi_b : TxB fiT := fun k => by
  have := sT_ch (j := 23) (k := k) (by decide) (by decide)
  unfold fiT
  omega
