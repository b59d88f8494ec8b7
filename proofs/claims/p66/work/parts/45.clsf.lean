/-! THE CLASS: writes to the World's cells (written by wip/whole/gen45.py) -/
/-- the cells outside the World at B are as before -/
def Fr (B : Nat) (h h' : aH) : Prop := (∀ a, a < B ∨ B + 18 ≤ a → h'.2.2 a = h.2.2 a) ∧ h'.1 = h.1 ∧ h'.2.1 = h.2.1
theorem Fr.rf {B : Nat} {h : aH} : Fr B h h := ⟨fun _ _ => rfl, rfl, rfl⟩
theorem Fr.tr {B : Nat} {h h1 h2 : aH} (a : Fr B h h1) (b : Fr B h1 h2) : Fr B h h2 := ⟨fun q hq => (b.1 q hq).trans (a.1 q hq), b.2.1.trans a.2.1, b.2.2.trans a.2.2⟩
theorem Fr.sw {B : Nat} {h h' : aH} {q : Nat} {c : aCell} (a : Fr B h h') (h1 : B ≤ q) (h2 : q < B + 18) : Fr B h (sw h' q c) := ⟨fun r hr => (sw_ne (by omega)).trans (a.1 r hr), a.2.1, a.2.2⟩
section WO
variable {h : aH} {B : Nat} {w w' : Nat → Int} {c : Nat → Nat → Int} {f : Nat → Int}
theorem Wo.s0 (W : Wo h B w c) : Wo (sw h (B + 2) (.inl (0, 30, .inl f))) B w (va_up c 0 f) := by
  obtain ⟨o0, o1, o2, o3, o4, o5, o6, o7, o8, o9, o10, o11, o12, o13, o14, o15, o16, o17⟩ := W
  exact ⟨(sw_ne (by omega)).trans o0, (sw_ne (by omega)).trans o1, sw_at _ _ _, (sw_ne (by omega)).trans o3, (sw_ne (by omega)).trans o4, (sw_ne (by omega)).trans o5, (sw_ne (by omega)).trans o6, (sw_ne (by omega)).trans o7, (sw_ne (by omega)).trans o8, (sw_ne (by omega)).trans o9, (sw_ne (by omega)).trans o10, (sw_ne (by omega)).trans o11, (sw_ne (by omega)).trans o12, (sw_ne (by omega)).trans o13, (sw_ne (by omega)).trans o14, (sw_ne (by omega)).trans o15, (sw_ne (by omega)).trans o16, (sw_ne (by omega)).trans o17⟩
theorem Wo.s1 (W : Wo h B w c) : Wo (sw h (B + 3) (.inl (0, 30, .inl f))) B w (va_up c 1 f) := by
  obtain ⟨o0, o1, o2, o3, o4, o5, o6, o7, o8, o9, o10, o11, o12, o13, o14, o15, o16, o17⟩ := W
  exact ⟨(sw_ne (by omega)).trans o0, (sw_ne (by omega)).trans o1, (sw_ne (by omega)).trans o2, sw_at _ _ _, (sw_ne (by omega)).trans o4, (sw_ne (by omega)).trans o5, (sw_ne (by omega)).trans o6, (sw_ne (by omega)).trans o7, (sw_ne (by omega)).trans o8, (sw_ne (by omega)).trans o9, (sw_ne (by omega)).trans o10, (sw_ne (by omega)).trans o11, (sw_ne (by omega)).trans o12, (sw_ne (by omega)).trans o13, (sw_ne (by omega)).trans o14, (sw_ne (by omega)).trans o15, (sw_ne (by omega)).trans o16, (sw_ne (by omega)).trans o17⟩
theorem Wo.s2 (W : Wo h B w c) : Wo (sw h (B + 4) (.inl (0, 12, .inl f))) B w (va_up c 2 f) := by
  obtain ⟨o0, o1, o2, o3, o4, o5, o6, o7, o8, o9, o10, o11, o12, o13, o14, o15, o16, o17⟩ := W
  exact ⟨(sw_ne (by omega)).trans o0, (sw_ne (by omega)).trans o1, (sw_ne (by omega)).trans o2, (sw_ne (by omega)).trans o3, sw_at _ _ _, (sw_ne (by omega)).trans o5, (sw_ne (by omega)).trans o6, (sw_ne (by omega)).trans o7, (sw_ne (by omega)).trans o8, (sw_ne (by omega)).trans o9, (sw_ne (by omega)).trans o10, (sw_ne (by omega)).trans o11, (sw_ne (by omega)).trans o12, (sw_ne (by omega)).trans o13, (sw_ne (by omega)).trans o14, (sw_ne (by omega)).trans o15, (sw_ne (by omega)).trans o16, (sw_ne (by omega)).trans o17⟩
theorem Wo.s3 (W : Wo h B w c) : Wo (sw h (B + 6) (.inl (0, 8, .inl f))) B w (va_up c 3 f) := by
  obtain ⟨o0, o1, o2, o3, o4, o5, o6, o7, o8, o9, o10, o11, o12, o13, o14, o15, o16, o17⟩ := W
  exact ⟨(sw_ne (by omega)).trans o0, (sw_ne (by omega)).trans o1, (sw_ne (by omega)).trans o2, (sw_ne (by omega)).trans o3, (sw_ne (by omega)).trans o4, (sw_ne (by omega)).trans o5, sw_at _ _ _, (sw_ne (by omega)).trans o7, (sw_ne (by omega)).trans o8, (sw_ne (by omega)).trans o9, (sw_ne (by omega)).trans o10, (sw_ne (by omega)).trans o11, (sw_ne (by omega)).trans o12, (sw_ne (by omega)).trans o13, (sw_ne (by omega)).trans o14, (sw_ne (by omega)).trans o15, (sw_ne (by omega)).trans o16, (sw_ne (by omega)).trans o17⟩
theorem Wo.s4 (W : Wo h B w c) : Wo (sw h (B + 7) (.inl (0, 8, .inl f))) B w (va_up c 4 f) := by
  obtain ⟨o0, o1, o2, o3, o4, o5, o6, o7, o8, o9, o10, o11, o12, o13, o14, o15, o16, o17⟩ := W
  exact ⟨(sw_ne (by omega)).trans o0, (sw_ne (by omega)).trans o1, (sw_ne (by omega)).trans o2, (sw_ne (by omega)).trans o3, (sw_ne (by omega)).trans o4, (sw_ne (by omega)).trans o5, (sw_ne (by omega)).trans o6, sw_at _ _ _, (sw_ne (by omega)).trans o8, (sw_ne (by omega)).trans o9, (sw_ne (by omega)).trans o10, (sw_ne (by omega)).trans o11, (sw_ne (by omega)).trans o12, (sw_ne (by omega)).trans o13, (sw_ne (by omega)).trans o14, (sw_ne (by omega)).trans o15, (sw_ne (by omega)).trans o16, (sw_ne (by omega)).trans o17⟩
theorem Wo.s5 (W : Wo h B w c) : Wo (sw h (B + 8) (.inl (0, 8, .inl f))) B w (va_up c 5 f) := by
  obtain ⟨o0, o1, o2, o3, o4, o5, o6, o7, o8, o9, o10, o11, o12, o13, o14, o15, o16, o17⟩ := W
  exact ⟨(sw_ne (by omega)).trans o0, (sw_ne (by omega)).trans o1, (sw_ne (by omega)).trans o2, (sw_ne (by omega)).trans o3, (sw_ne (by omega)).trans o4, (sw_ne (by omega)).trans o5, (sw_ne (by omega)).trans o6, (sw_ne (by omega)).trans o7, sw_at _ _ _, (sw_ne (by omega)).trans o9, (sw_ne (by omega)).trans o10, (sw_ne (by omega)).trans o11, (sw_ne (by omega)).trans o12, (sw_ne (by omega)).trans o13, (sw_ne (by omega)).trans o14, (sw_ne (by omega)).trans o15, (sw_ne (by omega)).trans o16, (sw_ne (by omega)).trans o17⟩
theorem Wo.s6 (W : Wo h B w c) : Wo (sw h (B + 9) (.inl (0, 8, .inl f))) B w (va_up c 6 f) := by
  obtain ⟨o0, o1, o2, o3, o4, o5, o6, o7, o8, o9, o10, o11, o12, o13, o14, o15, o16, o17⟩ := W
  exact ⟨(sw_ne (by omega)).trans o0, (sw_ne (by omega)).trans o1, (sw_ne (by omega)).trans o2, (sw_ne (by omega)).trans o3, (sw_ne (by omega)).trans o4, (sw_ne (by omega)).trans o5, (sw_ne (by omega)).trans o6, (sw_ne (by omega)).trans o7, (sw_ne (by omega)).trans o8, sw_at _ _ _, (sw_ne (by omega)).trans o10, (sw_ne (by omega)).trans o11, (sw_ne (by omega)).trans o12, (sw_ne (by omega)).trans o13, (sw_ne (by omega)).trans o14, (sw_ne (by omega)).trans o15, (sw_ne (by omega)).trans o16, (sw_ne (by omega)).trans o17⟩
theorem Wo.s7 (W : Wo h B w c) : Wo (sw h (B + 11) (.inl (0, 16, .inl f))) B w (va_up c 7 f) := by
  obtain ⟨o0, o1, o2, o3, o4, o5, o6, o7, o8, o9, o10, o11, o12, o13, o14, o15, o16, o17⟩ := W
  exact ⟨(sw_ne (by omega)).trans o0, (sw_ne (by omega)).trans o1, (sw_ne (by omega)).trans o2, (sw_ne (by omega)).trans o3, (sw_ne (by omega)).trans o4, (sw_ne (by omega)).trans o5, (sw_ne (by omega)).trans o6, (sw_ne (by omega)).trans o7, (sw_ne (by omega)).trans o8, (sw_ne (by omega)).trans o9, (sw_ne (by omega)).trans o10, sw_at _ _ _, (sw_ne (by omega)).trans o12, (sw_ne (by omega)).trans o13, (sw_ne (by omega)).trans o14, (sw_ne (by omega)).trans o15, (sw_ne (by omega)).trans o16, (sw_ne (by omega)).trans o17⟩
theorem Wo.s8 (W : Wo h B w c) : Wo (sw h (B + 12) (.inl (0, 16, .inl f))) B w (va_up c 8 f) := by
  obtain ⟨o0, o1, o2, o3, o4, o5, o6, o7, o8, o9, o10, o11, o12, o13, o14, o15, o16, o17⟩ := W
  exact ⟨(sw_ne (by omega)).trans o0, (sw_ne (by omega)).trans o1, (sw_ne (by omega)).trans o2, (sw_ne (by omega)).trans o3, (sw_ne (by omega)).trans o4, (sw_ne (by omega)).trans o5, (sw_ne (by omega)).trans o6, (sw_ne (by omega)).trans o7, (sw_ne (by omega)).trans o8, (sw_ne (by omega)).trans o9, (sw_ne (by omega)).trans o10, (sw_ne (by omega)).trans o11, sw_at _ _ _, (sw_ne (by omega)).trans o13, (sw_ne (by omega)).trans o14, (sw_ne (by omega)).trans o15, (sw_ne (by omega)).trans o16, (sw_ne (by omega)).trans o17⟩
theorem Wo.s9 (W : Wo h B w c) : Wo (sw h (B + 13) (.inl (0, 16, .inl f))) B w (va_up c 9 f) := by
  obtain ⟨o0, o1, o2, o3, o4, o5, o6, o7, o8, o9, o10, o11, o12, o13, o14, o15, o16, o17⟩ := W
  exact ⟨(sw_ne (by omega)).trans o0, (sw_ne (by omega)).trans o1, (sw_ne (by omega)).trans o2, (sw_ne (by omega)).trans o3, (sw_ne (by omega)).trans o4, (sw_ne (by omega)).trans o5, (sw_ne (by omega)).trans o6, (sw_ne (by omega)).trans o7, (sw_ne (by omega)).trans o8, (sw_ne (by omega)).trans o9, (sw_ne (by omega)).trans o10, (sw_ne (by omega)).trans o11, (sw_ne (by omega)).trans o12, sw_at _ _ _, (sw_ne (by omega)).trans o14, (sw_ne (by omega)).trans o15, (sw_ne (by omega)).trans o16, (sw_ne (by omega)).trans o17⟩
theorem Wo.s10 (W : Wo h B w c) : Wo (sw h (B + 14) (.inl (0, 16, .inl f))) B w (va_up c 10 f) := by
  obtain ⟨o0, o1, o2, o3, o4, o5, o6, o7, o8, o9, o10, o11, o12, o13, o14, o15, o16, o17⟩ := W
  exact ⟨(sw_ne (by omega)).trans o0, (sw_ne (by omega)).trans o1, (sw_ne (by omega)).trans o2, (sw_ne (by omega)).trans o3, (sw_ne (by omega)).trans o4, (sw_ne (by omega)).trans o5, (sw_ne (by omega)).trans o6, (sw_ne (by omega)).trans o7, (sw_ne (by omega)).trans o8, (sw_ne (by omega)).trans o9, (sw_ne (by omega)).trans o10, (sw_ne (by omega)).trans o11, (sw_ne (by omega)).trans o12, (sw_ne (by omega)).trans o13, sw_at _ _ _, (sw_ne (by omega)).trans o15, (sw_ne (by omega)).trans o16, (sw_ne (by omega)).trans o17⟩
theorem Wo.s11 (W : Wo h B w c) : Wo (sw h (B + 15) (.inl (0, 16, .inl f))) B w (va_up c 11 f) := by
  obtain ⟨o0, o1, o2, o3, o4, o5, o6, o7, o8, o9, o10, o11, o12, o13, o14, o15, o16, o17⟩ := W
  exact ⟨(sw_ne (by omega)).trans o0, (sw_ne (by omega)).trans o1, (sw_ne (by omega)).trans o2, (sw_ne (by omega)).trans o3, (sw_ne (by omega)).trans o4, (sw_ne (by omega)).trans o5, (sw_ne (by omega)).trans o6, (sw_ne (by omega)).trans o7, (sw_ne (by omega)).trans o8, (sw_ne (by omega)).trans o9, (sw_ne (by omega)).trans o10, (sw_ne (by omega)).trans o11, (sw_ne (by omega)).trans o12, (sw_ne (by omega)).trans o13, (sw_ne (by omega)).trans o14, sw_at _ _ _, (sw_ne (by omega)).trans o16, (sw_ne (by omega)).trans o17⟩
theorem Wo.s12 (W : Wo h B w c) : Wo (sw h (B + 16) (.inl (0, 16, .inl f))) B w (va_up c 12 f) := by
  obtain ⟨o0, o1, o2, o3, o4, o5, o6, o7, o8, o9, o10, o11, o12, o13, o14, o15, o16, o17⟩ := W
  exact ⟨(sw_ne (by omega)).trans o0, (sw_ne (by omega)).trans o1, (sw_ne (by omega)).trans o2, (sw_ne (by omega)).trans o3, (sw_ne (by omega)).trans o4, (sw_ne (by omega)).trans o5, (sw_ne (by omega)).trans o6, (sw_ne (by omega)).trans o7, (sw_ne (by omega)).trans o8, (sw_ne (by omega)).trans o9, (sw_ne (by omega)).trans o10, (sw_ne (by omega)).trans o11, (sw_ne (by omega)).trans o12, (sw_ne (by omega)).trans o13, (sw_ne (by omega)).trans o14, (sw_ne (by omega)).trans o15, sw_at _ _ _, (sw_ne (by omega)).trans o17⟩
theorem Wo.s13 (W : Wo h B w c) : Wo (sw h (B + 17) (.inl (0, 16, .inl f))) B w (va_up c 13 f) := by
  obtain ⟨o0, o1, o2, o3, o4, o5, o6, o7, o8, o9, o10, o11, o12, o13, o14, o15, o16, o17⟩ := W
  exact ⟨(sw_ne (by omega)).trans o0, (sw_ne (by omega)).trans o1, (sw_ne (by omega)).trans o2, (sw_ne (by omega)).trans o3, (sw_ne (by omega)).trans o4, (sw_ne (by omega)).trans o5, (sw_ne (by omega)).trans o6, (sw_ne (by omega)).trans o7, (sw_ne (by omega)).trans o8, (sw_ne (by omega)).trans o9, (sw_ne (by omega)).trans o10, (sw_ne (by omega)).trans o11, (sw_ne (by omega)).trans o12, (sw_ne (by omega)).trans o13, (sw_ne (by omega)).trans o14, (sw_ne (by omega)).trans o15, (sw_ne (by omega)).trans o16, sw_at _ _ _⟩
theorem Wo.wk (W : Wo h B w c) (e : ∀ j, j < 11 → ¬ j = 9 → w' j = w j) : Wo h B w' c := by
  obtain ⟨o0, o1, o2, o3, o4, o5, o6, o7, o8, o9, o10, o11, o12, o13, o14, o15, o16, o17⟩ := W
  unfold Wo
  rw [e 0 (by decide) (by decide), e 1 (by decide) (by decide), e 2 (by decide) (by decide), e 3 (by decide) (by decide), e 4 (by decide) (by decide), e 5 (by decide) (by decide), e 6 (by decide) (by decide), e 7 (by decide) (by decide), e 8 (by decide) (by decide), e 10 (by decide) (by decide)]
  exact ⟨o0, o1, o2, o3, o4, o5, o6, o7, o8, o9, o10, o11, o12, o13, o14, o15, o16, o17⟩
theorem Wo.street {l g k : Int} (W : Wo h B w c) (e0 : w' 0 = l) (e4 : w' 4 = g) (e3 : w' 3 = k) (er : ∀ j, j < 11 → ¬ j = 9 → ¬ j = 0 → ¬ j = 4 → ¬ j = 3 → w' j = w j) : Wo (sw h (B + 1) (.inr (4, [aR (B + 2), aR (B + 3), aR (B + 4), aI l, aI g, aI k]))) B w' c := by
  obtain ⟨o0, o1, o2, o3, o4, o5, o6, o7, o8, o9, o10, o11, o12, o13, o14, o15, o16, o17⟩ := W
  unfold Wo
  rw [er 1 (by decide) (by decide) (by decide) (by decide) (by decide), er 2 (by decide) (by decide) (by decide) (by decide) (by decide), er 5 (by decide) (by decide) (by decide) (by decide) (by decide), er 6 (by decide) (by decide) (by decide) (by decide) (by decide), er 7 (by decide) (by decide) (by decide) (by decide) (by decide), er 8 (by decide) (by decide) (by decide) (by decide) (by decide), er 10 (by decide) (by decide) (by decide) (by decide) (by decide), e0, e4, e3]
  exact ⟨(sw_ne (by omega)).trans o0, sw_at _ _ _, (sw_ne (by omega)).trans o2, (sw_ne (by omega)).trans o3, (sw_ne (by omega)).trans o4, (sw_ne (by omega)).trans o5, (sw_ne (by omega)).trans o6, (sw_ne (by omega)).trans o7, (sw_ne (by omega)).trans o8, (sw_ne (by omega)).trans o9, (sw_ne (by omega)).trans o10, (sw_ne (by omega)).trans o11, (sw_ne (by omega)).trans o12, (sw_ne (by omega)).trans o13, (sw_ne (by omega)).trans o14, (sw_ne (by omega)).trans o15, (sw_ne (by omega)).trans o16, (sw_ne (by omega)).trans o17⟩
theorem Wo.ball {n : Int} (W : Wo h B w c) (e5 : w' 5 = n) (er : ∀ j, j < 11 → ¬ j = 9 → ¬ j = 5 → w' j = w j) : Wo (sw h (B + 5) (.inr (0, [aR (B + 6), aR (B + 7), aR (B + 8), aR (B + 9), aI n]))) B w' c := by
  obtain ⟨o0, o1, o2, o3, o4, o5, o6, o7, o8, o9, o10, o11, o12, o13, o14, o15, o16, o17⟩ := W
  unfold Wo
  rw [er 0 (by decide) (by decide) (by decide), er 1 (by decide) (by decide) (by decide), er 2 (by decide) (by decide) (by decide), er 3 (by decide) (by decide) (by decide), er 4 (by decide) (by decide) (by decide), er 6 (by decide) (by decide) (by decide), er 7 (by decide) (by decide) (by decide), er 8 (by decide) (by decide) (by decide), er 10 (by decide) (by decide) (by decide), e5]
  exact ⟨(sw_ne (by omega)).trans o0, (sw_ne (by omega)).trans o1, (sw_ne (by omega)).trans o2, (sw_ne (by omega)).trans o3, (sw_ne (by omega)).trans o4, sw_at _ _ _, (sw_ne (by omega)).trans o6, (sw_ne (by omega)).trans o7, (sw_ne (by omega)).trans o8, (sw_ne (by omega)).trans o9, (sw_ne (by omega)).trans o10, (sw_ne (by omega)).trans o11, (sw_ne (by omega)).trans o12, (sw_ne (by omega)).trans o13, (sw_ne (by omega)).trans o14, (sw_ne (by omega)).trans o15, (sw_ne (by omega)).trans o16, (sw_ne (by omega)).trans o17⟩
theorem Wo.parc {n : Int} (W : Wo h B w c) (e6 : w' 6 = n) (er : ∀ j, j < 11 → ¬ j = 9 → ¬ j = 6 → w' j = w j) : Wo (sw h (B + 10) (.inr (2, [aR (B + 11), aR (B + 12), aR (B + 13), aR (B + 14), aR (B + 15), aR (B + 16), aR (B + 17), aI n]))) B w' c := by
  obtain ⟨o0, o1, o2, o3, o4, o5, o6, o7, o8, o9, o10, o11, o12, o13, o14, o15, o16, o17⟩ := W
  unfold Wo
  rw [er 0 (by decide) (by decide) (by decide), er 1 (by decide) (by decide) (by decide), er 2 (by decide) (by decide) (by decide), er 3 (by decide) (by decide) (by decide), er 4 (by decide) (by decide) (by decide), er 5 (by decide) (by decide) (by decide), er 7 (by decide) (by decide) (by decide), er 8 (by decide) (by decide) (by decide), er 10 (by decide) (by decide) (by decide), e6]
  exact ⟨(sw_ne (by omega)).trans o0, (sw_ne (by omega)).trans o1, (sw_ne (by omega)).trans o2, (sw_ne (by omega)).trans o3, (sw_ne (by omega)).trans o4, (sw_ne (by omega)).trans o5, (sw_ne (by omega)).trans o6, (sw_ne (by omega)).trans o7, (sw_ne (by omega)).trans o8, (sw_ne (by omega)).trans o9, sw_at _ _ _, (sw_ne (by omega)).trans o11, (sw_ne (by omega)).trans o12, (sw_ne (by omega)).trans o13, (sw_ne (by omega)).trans o14, (sw_ne (by omega)).trans o15, (sw_ne (by omega)).trans o16, (sw_ne (by omega)).trans o17⟩
theorem Wo.wrl {n1 n2 n7 n8 n10 : Int} {u : Nat → Int} (W : Wo h B w c) (e1 : w' 1 = n1) (e2 : w' 2 = n2) (e7 : w' 7 = n7) (e8 : w' 8 = n8) (e10 : w' 10 = n10) (er : ∀ j, j < 11 → ¬ j = 9 → ¬ j = 1 → ¬ j = 2 → ¬ j = 7 → ¬ j = 8 → ¬ j = 10 → w' j = w j) : Wo (sw h B (.inr (6, [aR (B + 1), aR (B + 5), aR (B + 10), aI n1, aI n2, aI n7, aI n8, aI (u 0), aI (u 1), aI n10]))) B w' (va_up c 14 u) := by
  obtain ⟨o0, o1, o2, o3, o4, o5, o6, o7, o8, o9, o10, o11, o12, o13, o14, o15, o16, o17⟩ := W
  unfold Wo
  rw [er 0 (by decide) (by decide) (by decide) (by decide) (by decide) (by decide) (by decide), er 3 (by decide) (by decide) (by decide) (by decide) (by decide) (by decide) (by decide), er 4 (by decide) (by decide) (by decide) (by decide) (by decide) (by decide) (by decide), er 5 (by decide) (by decide) (by decide) (by decide) (by decide) (by decide) (by decide), er 6 (by decide) (by decide) (by decide) (by decide) (by decide) (by decide) (by decide), e1, e2, e7, e8, e10]
  exact ⟨sw_at _ _ _, (sw_ne (by omega)).trans o1, (sw_ne (by omega)).trans o2, (sw_ne (by omega)).trans o3, (sw_ne (by omega)).trans o4, (sw_ne (by omega)).trans o5, (sw_ne (by omega)).trans o6, (sw_ne (by omega)).trans o7, (sw_ne (by omega)).trans o8, (sw_ne (by omega)).trans o9, (sw_ne (by omega)).trans o10, (sw_ne (by omega)).trans o11, (sw_ne (by omega)).trans o12, (sw_ne (by omega)).trans o13, (sw_ne (by omega)).trans o14, (sw_ne (by omega)).trans o15, (sw_ne (by omega)).trans o16, (sw_ne (by omega)).trans o17⟩
theorem Wo.wrk {n1 n2 n7 n8 n10 : Int} (W : Wo h B w c) (e1 : w' 1 = n1) (e2 : w' 2 = n2) (e7 : w' 7 = n7) (e8 : w' 8 = n8) (e10 : w' 10 = n10) (er : ∀ j, j < 11 → ¬ j = 9 → ¬ j = 1 → ¬ j = 2 → ¬ j = 7 → ¬ j = 8 → ¬ j = 10 → w' j = w j) : Wo (sw h B (.inr (6, [aR (B + 1), aR (B + 5), aR (B + 10), aI n1, aI n2, aI n7, aI n8, aI (c 14 0), aI (c 14 1), aI n10]))) B w' c := by
  obtain ⟨o0, o1, o2, o3, o4, o5, o6, o7, o8, o9, o10, o11, o12, o13, o14, o15, o16, o17⟩ := W
  unfold Wo
  rw [er 0 (by decide) (by decide) (by decide) (by decide) (by decide) (by decide) (by decide), er 3 (by decide) (by decide) (by decide) (by decide) (by decide) (by decide) (by decide), er 4 (by decide) (by decide) (by decide) (by decide) (by decide) (by decide) (by decide), er 5 (by decide) (by decide) (by decide) (by decide) (by decide) (by decide) (by decide), er 6 (by decide) (by decide) (by decide) (by decide) (by decide) (by decide) (by decide), e1, e2, e7, e8, e10]
  exact ⟨sw_at _ _ _, (sw_ne (by omega)).trans o1, (sw_ne (by omega)).trans o2, (sw_ne (by omega)).trans o3, (sw_ne (by omega)).trans o4, (sw_ne (by omega)).trans o5, (sw_ne (by omega)).trans o6, (sw_ne (by omega)).trans o7, (sw_ne (by omega)).trans o8, (sw_ne (by omega)).trans o9, (sw_ne (by omega)).trans o10, (sw_ne (by omega)).trans o11, (sw_ne (by omega)).trans o12, (sw_ne (by omega)).trans o13, (sw_ne (by omega)).trans o14, (sw_ne (by omega)).trans o15, (sw_ne (by omega)).trans o16, (sw_ne (by omega)).trans o17⟩
end WO
/-- a number of a balloon set -/
theorem Ab.sb {c : Nat → Nat → Int} {w : Nat → Int} (A : Ab c w) (hI : Inv0 w) {b k : Nat} {v : Int} (hb : b < 8) (hk : k < 4) : Ab (va_up c (3 + k) (va_up (c (3 + k)) b v)) (sbo w b k v) := by
  obtain ⟨a0, a1, a2, a3, a4, a5, a6, a7, a8, a9, a10, a11, a12, a13, a14⟩ := A
  have hp : ∀ p q, pa (sbo w b k v) p q = pa w p q := fun p q => sbo_pa hb hk
  have hc : ∀ p, carr (sbo w b k v) p = carr w p := fun p => by unfold carr; rw [hp, hp]
  have hl : ∀ p, plc (sbo w b k v) p = plc w p := fun p => by unfold plc; rw [hp, hp]
  have hn : ∀ {j}, ¬ j = 3 + k → va_up c (3 + k) (va_up (c (3 + k)) b v) j = c j := fun e => vu_ne e
  have hbo : ∀ (j b' : Nat), j < 4 → c (3 + j) b' = bo w b' j → va_up c (3 + k) (va_up (c (3 + k)) b v) (3 + j) b' = bo (sbo w b k v) b' j := fun j b' hj e => by
    rw [sbo_bo hk hj]
    by_cases ej : j = k
    · subst ej
      rw [vu_at]
      by_cases eb : b' = b
      · rw [eb, vu_at, if_pos ⟨rfl, rfl⟩]
      · rw [vu_ne eb, if_neg (by omega)]; exact e
    · rw [hn (by omega), if_neg (by omega)]; exact e
  unfold Ab
  rw [sbo_bN, sbo_pN, sbo_lo (by omega : 4 < 83), sbo_lo (by omega : 9 < 83)]
  refine ⟨fun i hi => ?_, fun i hi => ?_, fun i hi => ?_, fun b' h => hbo 0 b' (by decide) (a3 b' h), fun b' h => hbo 1 b' (by decide) (a4 b' h), fun b' h => hbo 2 b' (by decide) (a5 b' h), fun b' h => hbo 3 b' (by decide) (a6 b' h), fun p h => ?_, fun p h => ?_, fun p h => ?_, fun p h => ?_, fun p h => ?_, fun p h => ?_, fun p h => ?_, ?_⟩
  · rw [hn (by omega), sbo_lo (by omega)]; exact a0 i hi
  · rw [hn (by omega), sbo_lo (by omega)]; exact a1 i hi
  · rw [hn (by omega)]
    have hg := hI.gn
    rw [sbo_lo (by omega)]
    exact a2 i hi
  · rw [hn (by omega), hp]; exact a7 p h
  · rw [hn (by omega), hp]; exact a8 p h
  · rw [hn (by omega), hp]; exact a9 p h
  · rw [hn (by omega), hp]; exact a10 p h
  · rw [hn (by omega), hp]; exact a11 p h
  · rw [hn (by omega), hc]; exact a12 p h
  · rw [hn (by omega), hl]; exact a13 p h
  · rw [hn (by omega)]; exact a14
/-- a parcel's state and what goes with it set -/
theorem Ab.put {c : Nat → Nat → Int} {w : Nat → Int} (A : Ab c w) (hI : Inv0 w) {p : Nat} {st wh ca pl : Int} (hp : p < nP w) (h1 : ca = if st = 1 then wh else -1) (h2 : pl = if st = 0 then wh else -1) : Ab (va_up (va_up (va_up c 11 (va_up (c 11) p st)) 12 (va_up (c 12) p ca)) 13 (va_up (c 13) p pl)) (putP w p st wh) := by
  obtain ⟨a0, a1, a2, a3, a4, a5, a6, a7, a8, a9, a10, a11, a12, a13, a14⟩ := A
  have hb8 := hI.bNe
  have hp8 := hI.pNe
  have e4 : ∀ q, pa (putP w p st wh) q 4 = if q = p then st else pa w q 4 := fun q => by rw [put_pa (by omega)]; simp
  have e5 : ∀ q, pa (putP w p st wh) q 5 = if q = p then wh else pa w q 5 := fun q => by rw [put_pa (by omega)]; simp
  unfold Ab
  rw [put_bN, put_pN, put_lo (by omega : 4 < 115), put_lo (by omega : 9 < 115)]
  refine ⟨fun i hi => ?_, fun i hi => ?_, fun i hi => ?_, fun b' h => ?_, fun b' h => ?_, fun b' h => ?_, fun b' h => ?_, fun q h => ?_, fun q h => ?_, fun q h => ?_, fun q h => ?_, fun q h => ?_, fun q h => ?_, fun q h => ?_, ?_⟩
  · rw [put_lo (by omega)]; exact a0 i hi
  · rw [put_lo (by omega)]; exact a1 i hi
  · have hg := hI.gn
    rw [put_lo (by omega)]; exact a2 i hi
  · rw [put_bo (by omega) (by omega)]; exact a3 b' h
  · rw [put_bo (by omega) (by omega)]; exact a4 b' h
  · rw [put_bo (by omega) (by omega)]; exact a5 b' h
  · rw [put_bo (by omega) (by omega)]; exact a6 b' h
  · rw [put_pa0 (by omega)]; exact a7 q h
  · rw [put_pa0 (by omega)]; exact a8 q h
  · rw [put_pa0 (by omega)]; exact a9 q h
  · rw [put_pa0 (by omega)]; exact a10 q h
  · rw [e4]
    show va_up (c 11) p st q = _
    by_cases e : q = p
    · rw [e, vu_at, if_pos rfl]
    · rw [vu_ne e, if_neg e]; exact a11 q h
  · unfold carr
    rw [e4, e5]
    show va_up (c 12) p ca q = _
    by_cases e : q = p
    · rw [e, vu_at, if_pos rfl, if_pos rfl]; exact h1
    · rw [vu_ne e, if_neg e, if_neg e]; exact a12 q h
  · unfold plc
    rw [e4, e5]
    show va_up (c 13) p pl q = _
    by_cases e : q = p
    · rw [e, vu_at, if_pos rfl, if_pos rfl]; exact h2
    · rw [vu_ne e, if_neg e, if_neg e]; exact a13 q h
  · exact a14
/-- a number outside balloons and parcels set: the class's arrays stay -/
theorem Ab.sc {c : Nat → Nat → Int} {w : Nat → Int} (A : Ab c w) (hI : Inv0 w) {k : Nat} {v : Int} (hk : k = 1 ∨ k = 2 ∨ k = 3 ∨ k = 7 ∨ k = 8 ∨ k = 10) : Ab c (va_up w k v) := by
  have e : ∀ j, ¬ j = k → va_up w k v j = w j := fun j hj => vu_ne hj
  obtain ⟨a0, a1, a2, a3, a4, a5, a6, a7, a8, a9, a10, a11, a12, a13, a14⟩ := A
  have hb : nB (va_up w k v) = nB w := by unfold nB; rw [e 5 (by omega)]
  have hp : nP (va_up w k v) = nP w := by unfold nP; rw [e 6 (by omega)]
  have hbo : ∀ b j, bo (va_up w k v) b j = bo w b j := fun b j => e _ (by omega)
  have hpa : ∀ p j, pa (va_up w k v) p j = pa w p j := fun p j => e _ (by omega)
  unfold Ab carr plc
  simp only [hb, hp, hbo, hpa]
  rw [e 4 (by omega), e 9 (by omega)]
  refine ⟨fun i hi => ?_, fun i hi => ?_, fun i hi => ?_, a3, a4, a5, a6, a7, a8, a9, a10, a11, a12, a13, a14⟩
  · rw [e _ (by omega)]; exact a0 i hi
  · rw [e _ (by omega)]; exact a1 i hi
  · rw [e _ (by omega)]; exact a2 i hi
theorem Ab.sc2 {c : Nat → Nat → Int} {w : Nat → Int} (A : Ab c w) {k : Nat} {v : Int} (hk : k = 1 ∨ k = 2 ∨ k = 3 ∨ k = 7 ∨ k = 8 ∨ k = 10) : Ab c (va_up w k v) := by
  have e : ∀ j, ¬ j = k → va_up w k v j = w j := fun j hj => vu_ne hj
  obtain ⟨a0, a1, a2, a3, a4, a5, a6, a7, a8, a9, a10, a11, a12, a13, a14⟩ := A
  have hb : nB (va_up w k v) = nB w := by unfold nB; rw [e 5 (by omega)]
  have hp : nP (va_up w k v) = nP w := by unfold nP; rw [e 6 (by omega)]
  have hbo : ∀ b j, bo (va_up w k v) b j = bo w b j := fun b j => e _ (by omega)
  have hpa : ∀ p j, pa (va_up w k v) p j = pa w p j := fun p j => e _ (by omega)
  unfold Ab carr plc
  simp only [hb, hp, hbo, hpa]
  rw [e 4 (by omega), e 9 (by omega)]
  refine ⟨fun i hi => ?_, fun i hi => ?_, fun i hi => ?_, a3, a4, a5, a6, a7, a8, a9, a10, a11, a12, a13, a14⟩
  · rw [e _ (by omega)]; exact a0 i hi
  · rw [e _ (by omega)]; exact a1 i hi
  · rw [e _ (by omega)]; exact a2 i hi
theorem Ab.roof {c : Nat → Nat → Int} {w : Nat → Int} (A : Ab c w) (hI : Inv0 w) {x : Nat} {v : Int} (hx : x < 30) : Ab (va_up c 0 (va_up (c 0) x v)) (va_up w (23 + x) v) := by
  have e : ∀ j, ¬ j = 23 + x → va_up w (23 + x) v j = w j := fun j hj => vu_ne hj
  obtain ⟨a0, a1, a2, a3, a4, a5, a6, a7, a8, a9, a10, a11, a12, a13, a14⟩ := A
  have hg := hI.gn
  have hb : nB (va_up w (23 + x) v) = nB w := by unfold nB; rw [e 5 (by omega)]
  have hp : nP (va_up w (23 + x) v) = nP w := by unfold nP; rw [e 6 (by omega)]
  have hbo : ∀ b j, bo (va_up w (23 + x) v) b j = bo w b j := fun b j => e _ (by omega)
  have hpa : ∀ p j, pa (va_up w (23 + x) v) p j = pa w p j := fun p j => e _ (by omega)
  unfold Ab carr plc
  simp only [hb, hp, hbo, hpa]
  rw [e 4 (by omega), e 9 (by omega)]
  refine ⟨fun i hi => ?_, fun i hi => ?_, fun i hi => ?_, a3, a4, a5, a6, a7, a8, a9, a10, a11, a12, a13, a14⟩
  · show va_up (c 0) x v i = _
    by_cases ei : i = x
    · rw [ei, vu_at, vu_at]
    · rw [vu_ne ei, e _ (by omega)]; exact a0 i hi
  · rw [e _ (by omega)]; exact a1 i hi
  · rw [e _ (by omega)]; exact a2 i hi
theorem Ab.tree {c : Nat → Nat → Int} {w : Nat → Int} (A : Ab c w) (hI : Inv0 w) {x : Nat} {v : Int} (hx : x < 30) : Ab (va_up c 1 (va_up (c 1) x v)) (va_up w (53 + x) v) := by
  have e : ∀ j, ¬ j = 53 + x → va_up w (53 + x) v j = w j := fun j hj => vu_ne hj
  obtain ⟨a0, a1, a2, a3, a4, a5, a6, a7, a8, a9, a10, a11, a12, a13, a14⟩ := A
  have hg := hI.gn
  have hb : nB (va_up w (53 + x) v) = nB w := by unfold nB; rw [e 5 (by omega)]
  have hp : nP (va_up w (53 + x) v) = nP w := by unfold nP; rw [e 6 (by omega)]
  have hbo : ∀ b j, bo (va_up w (53 + x) v) b j = bo w b j := fun b j => e _ (by omega)
  have hpa : ∀ p j, pa (va_up w (53 + x) v) p j = pa w p j := fun p j => e _ (by omega)
  unfold Ab carr plc
  simp only [hb, hp, hbo, hpa]
  rw [e 4 (by omega), e 9 (by omega)]
  refine ⟨fun i hi => ?_, fun i hi => ?_, fun i hi => ?_, a3, a4, a5, a6, a7, a8, a9, a10, a11, a12, a13, a14⟩
  · rw [e _ (by omega)]; exact a0 i hi
  · show va_up (c 1) x v i = _
    by_cases ei : i = x
    · rw [ei, vu_at, vu_at]
    · rw [vu_ne ei, e _ (by omega)]; exact a1 i hi
  · rw [e _ (by omega)]; exact a2 i hi
