/-! THE REFERENCE: words and numbers of a script (written by wip/whole/gen29.py) -/
/-! the mathematics of scripts -/
abbrev Er : Type := Int × Int
def bnd {α β : Type} (r : Er ⊕ α) (f : α → Er ⊕ β) : Er ⊕ β := match r with
  | .inl e => .inl e
  | .inr a => f a
def eqF (tx : Nat → Int) (o : Nat) (cs : List Int) : Nat → Nat → Bool
  | 0, _ => true
  | m + 1, k => decide (tx (o + k) = cs.getD k 0) && eqF tx o cs m (k + 1)
def saysB (tx : Nat → Int) (N i : Nat) (cs : List Int) : Bool := decide (tKnd tx N i = 2) && (decide ((tEnd tx N i : Int) - (tOff tx N i : Int) = (cs.length : Int)) && eqF tx (tOff tx N i) cs cs.length 0)
def numA (tx : Nat → Int) (N i : Nat) (lo hi : Int) : Er ⊕ (Nat × Nat) := if ¬ tKnd tx N i = 3 then .inl (1, ((tOff tx N i : Nat) : Int)) else if lo ≤ tVal tx N i ∧ tVal tx N i ≤ hi then .inr ((tVal tx N i).toNat, tEnd tx N i) else .inl (2, ((tOff tx N i : Nat) : Int))
def semA (tx : Nat → Int) (N i : Nat) (can : Bool) : Er ⊕ Nat := if ¬ tKnd tx N i = 1 then .inl (1, ((tOff tx N i : Nat) : Int)) else if can = true then .inr (tEnd tx N i) else .inl (3, ((tOff tx N i : Nat) : Int))
theorem numA_o {tx : Nat → Int} {N i : Nat} {lo hi : Int} {q j : Nat} (h : numA tx N i lo hi = .inr (q, j)) (h0 : 0 ≤ lo) : ((q : Nat) : Int) = tVal tx N i ∧ lo ≤ ((q : Nat) : Int) ∧ ((q : Nat) : Int) ≤ hi ∧ j = tEnd tx N i ∧ tKnd tx N i = 3 := by
  unfold numA at h
  split at h
  · cases h
  · split at h
    · rename_i h1 h2
      cases h
      refine ⟨by omega, by omega, by omega, rfl, Classical.not_not.mp h1⟩
    · cases h
theorem numA_e {tx : Nat → Int} {N i : Nat} {lo hi k o : Int} (h : numA tx N i lo hi = .inl (k, o)) : o = ((tOff tx N i : Nat) : Int) ∧ ((k = 1 ∧ ¬ tKnd tx N i = 3) ∨ (k = 2 ∧ tKnd tx N i = 3 ∧ ¬ (lo ≤ tVal tx N i ∧ tVal tx N i ≤ hi))) := by
  unfold numA at h
  split at h
  · rename_i h1
    cases h
    exact ⟨rfl, Or.inl ⟨rfl, h1⟩⟩
  · split at h
    · cases h
    · rename_i h1 h2
      cases h
      exact ⟨rfl, Or.inr ⟨rfl, Classical.not_not.mp h1, h2⟩⟩
theorem semA_o {tx : Nat → Int} {N i : Nat} {can : Bool} {j : Nat} (h : semA tx N i can = .inr j) : tKnd tx N i = 1 ∧ can = true ∧ j = tEnd tx N i := by
  unfold semA at h
  split at h
  · cases h
  · split at h
    · rename_i h1 h2
      cases h
      exact ⟨Classical.not_not.mp h1, h2, rfl⟩
    · cases h
theorem semA_e {tx : Nat → Int} {N i : Nat} {can : Bool} {k o : Int} (h : semA tx N i can = .inl (k, o)) : o = ((tOff tx N i : Nat) : Int) ∧ ((k = 1 ∧ ¬ tKnd tx N i = 1) ∨ (k = 3 ∧ tKnd tx N i = 1 ∧ can = false)) := by
  unfold semA at h
  split at h
  · rename_i h1
    cases h
    exact ⟨rfl, Or.inl ⟨rfl, h1⟩⟩
  · split at h
    · cases h
    · rename_i h1 h2
      cases h
      exact ⟨rfl, Or.inr ⟨rfl, Classical.not_not.mp h1, by simpa using h2⟩⟩
def RZ (h h' : aH) (s' w' nu' : Nat → Int) : Prop := h'.2.2 226 = .inr (8, Mo s') ∧ h'.2.2 227 = .inl (0, 211, .inl w') ∧ h'.2.2 235 = .inl (0, 4, .inl nu') ∧ (∀ a, ¬ a = 226 → ¬ a = 227 → ¬ a = 235 → h'.2.2 a = h.2.2 a) ∧ h'.1 = h.1 ∧ h'.2.1 = h.2.1
theorem RZ.tr {h h1 h2 : aH} {s1 w1 n1 s2 w2 n2 : Nat → Int} (a : RZ h h1 s1 w1 n1) (b : RZ h1 h2 s2 w2 n2) : RZ h h2 s2 w2 n2 := ⟨b.1, b.2.1, b.2.2.1, fun q x y z => (b.2.2.2.1 q x y z).trans (a.2.2.2.1 q x y z), b.2.2.2.2.1.trans a.2.2.2.2.1, b.2.2.2.2.2.trans a.2.2.2.2.2⟩
theorem RZ.rf {h : aH} {s w nu : Nat → Int} (h1 : h.2.2 226 = .inr (8, Mo s)) (h2 : h.2.2 227 = .inl (0, 211, .inl w)) (h3 : h.2.2 235 = .inl (0, 4, .inl nu)) : RZ h h s w nu := ⟨h1, h2, h3, fun _ _ _ _ => rfl, rfl, rfl⟩
theorem RZ.s {h h' : aH} {s w nu s' : Nat → Int} (r : RZ h h' s w nu) : RZ h (sw h' 226 (.inr (8, Mo s'))) s' w nu := ⟨sw_at _ _ _, (sw_ne (by decide)).trans r.2.1, (sw_ne (by decide)).trans r.2.2.1, fun a x y z => (sw_ne x).trans (r.2.2.2.1 a x y z), r.2.2.2.2.1, r.2.2.2.2.2⟩
def Fx (s s' : Nat → Int) : Prop := (∀ j, j < 11 ∨ (12 < j ∧ j < 16) ∨ 20 ≤ j → s' j = s j) ∧ (s' 11 = 0 → s 11 = 0 ∧ s' 12 = s 12)
theorem Fx.rf {s : Nat → Int} : Fx s s := ⟨fun _ _ => rfl, fun h => ⟨h, rfl⟩⟩
theorem Fx.tr {s u v : Nat → Int} (a : Fx s u) (b : Fx u v) : Fx s v := ⟨fun j hj => (b.1 j hj).trans (a.1 j hj), fun h => ⟨(a.2 (b.2 h).1).1, (b.2 h).2.trans (a.2 (b.2 h).1).2⟩⟩
theorem Fx.nx {s s' : Nat → Int} (h : ∀ j, j < 16 ∨ 20 ≤ j → s' j = s j) : Fx s s' := ⟨fun j hj => h j (by omega), fun e => ⟨(h 11 (by omega)).symm.trans e, h 12 (by omega)⟩⟩
def PE (h h' : aH) (s w : Nat → Int) (k o : Int) : Prop := ∃ s' nu', RZ h h' s' w nu' ∧ s' 11 = k ∧ s' 12 = o ∧ Fx s s'
theorem PE.tr {h h1 h2 : aH} {s s1 w nu : Nat → Int} {k o : Int} (r : RZ h h1 s1 w nu) (f : Fx s s1) (p : PE h1 h2 s1 w k o) : PE h h2 s w k o := by
  obtain ⟨s', nu', a, b, c, d⟩ := p
  exact ⟨s', nu', r.tr a, b, c, f.tr d⟩
theorem vaG_in {tx : Nat → Int} (hb : TxB tx) {o : Nat} : ∀ {m : Nat}, m ≤ 3 → -100000 ≤ itF (vaG tx) o m 0 ∧ itF (vaG tx) o m 0 ≤ 100000 := by
  intro m hm
  have h1 := hb o
  have h2 := hb (o + 1)
  have h3 := hb (o + 1 + 1)
  have : m = 0 ∨ m = 1 ∨ m = 2 ∨ m = 3 := by omega
  rcases this with rfl | rfl | rfl | rfl
  · show -100000 ≤ (0 : Int) ∧ (0 : Int) ≤ 100000
    omega
  · show -100000 ≤ 10 * 0 + tx o - 48 ∧ 10 * 0 + tx o - 48 ≤ 100000
    omega
  · show -100000 ≤ 10 * (10 * 0 + tx o - 48) + tx (o + 1) - 48 ∧ 10 * (10 * 0 + tx o - 48) + tx (o + 1) - 48 ≤ 100000
    omega
  · show -100000 ≤ 10 * (10 * (10 * 0 + tx o - 48) + tx (o + 1) - 48) + tx (o + 1 + 1) - 48 ∧ 10 * (10 * (10 * 0 + tx o - 48) + tx (o + 1) - 48) + tx (o + 1 + 1) - 48 ≤ 100000
    omega
theorem tVal_in {tx : Nat → Int} (hb : TxB tx) {N i : Nat} (hk : tKnd tx N i = 3) : inR (tVal tx N i) := by
  have h : tEnd tx N i - tOff tx N i ≤ 3 := by
    unfold tKnd at hk
    split at hk
    · omega
    · split at hk
      · omega
      · rename_i h1 h2
        rw [hk] at h2
        simp at h2
        omega
  have := vaG_in hb (o := tOff tx N i) h
  unfold tVal
  exact ⟨by omega, by omega⟩
