/-! THE MATHEMATICS: loads, knots, relieving -/
theorem itF_eq0 {g : Nat → Int → Int} {f : Nat → Int} (hg : ∀ p a, g p a = a + f p) : ∀ {n : Nat}, (∀ p, p < n → f p = 0) → itF g 0 n 0 = 0
  | 0, _ => rfl
  | n + 1, h => by
    rw [itF_last, hg, itF_eq0 hg fun p hp => h p (by omega), h (0 + n) (by omega)]
    rfl
theorem itF_one {g g' : Nat → Int → Int} {f f' : Nat → Int} (hg : ∀ p a, g p a = a + f p) (hg' : ∀ p a, g' p a = a + f' p) {q : Nat} : ∀ {n : Nat}, (∀ p, p < n → ¬ p = q → f' p = f p) → itF g' 0 n 0 = itF g 0 n 0 + (if q < n then f' q - f q else 0)
  | 0, _ => by
    rw [if_neg (by omega)]
    rfl
  | n + 1, h => by
    rw [itF_last, itF_last, hg, hg', itF_one hg hg' (n := n) fun p hp => h p (by omega), Nat.zero_add]
    by_cases e : n = q
    · subst e
      rw [if_neg (by omega), if_pos (by omega)]
      omega
    · rw [h n (by omega) e]
      by_cases e2 : q < n
      · rw [if_pos e2, if_pos (by omega)]
        omega
      · rw [if_neg e2, if_neg (by omega)]
        omega
theorem itF_pos {g : Nat → Int → Int} {f : Nat → Int} (hg : ∀ p a, g p a = a + f p) {q : Nat} : ∀ {n : Nat}, (∀ p, p < n → 0 ≤ f p) → q < n → f q ≤ itF g 0 n 0 ∧ 0 ≤ itF g 0 n 0
  | 0, _, hq => by omega
  | n + 1, h, hq => by
    rw [itF_last, hg, Nat.zero_add]
    have h2 : 0 ≤ itF g 0 n 0 := by
      have := itF_ind (g := g) (P := fun _ a => 0 ≤ a) (m := n) (i := 0) (a := 0) (by omega) (fun p a _ h3 h4 => by
        rw [hg]
        have := h p (by omega)
        omega)
      exact this
    have h3 := h n (by omega)
    by_cases e : q = n
    · subst e
      omega
    · have h4 := (itF_pos hg (n := n) (fun p hp => h p (by omega)) (by omega : q < n)).1
      omega
theorem tied_iff {w : Nat → Int} {p b : Nat} : tied w p b = true ↔ pa w p 4 = 1 ∧ pa w p 5 = (b : Int) := by
  unfold tied
  simp
theorem untied_iff {w : Nat → Int} {p b : Nat} : tied w p b = false ↔ ¬ (pa w p 4 = 1 ∧ pa w p 5 = (b : Int)) := by
  rw [← tied_iff]
  simp
theorem hvG_spec {w : Nat → Int} {b : Nat} : ∀ {n : Nat}, (itF (hvG w b) 0 n (-1) = -1 ∧ ∀ p, p < n → tied w p b = false) ∨ ∃ q : Nat, q < n ∧ itF (hvG w b) 0 n (-1) = (q : Int) ∧ tied w q b = true ∧ (∀ p, p < n → tied w p b = true → pa w p 0 ≤ pa w q 0) ∧ ∀ p, p < q → tied w p b = true → pa w p 0 < pa w q 0
  | 0 => Or.inl ⟨rfl, fun p hp => by omega⟩
  | n + 1 => by
    rw [itF_last, Nat.zero_add]
    cases ht : tied w n b
    · have e : ∀ a, hvG w b n a = a := fun a => by unfold hvG; rw [ht]; simp
      rw [e]
      rcases hvG_spec (w := w) (b := b) (n := n) with ⟨h1, h2⟩ | ⟨q, h1, h2, h3, h4, h5⟩
      · refine Or.inl ⟨h1, fun p hp => ?_⟩
        by_cases e9 : p = n
        · rw [e9]; exact ht
        · exact h2 p (by omega)
      · refine Or.inr ⟨q, by omega, h2, h3, fun p hp hp2 => ?_, h5⟩
        by_cases e9 : p = n
        · rw [e9, ht] at hp2; cases hp2
        · exact h4 p (by omega) hp2
    · rcases hvG_spec (w := w) (b := b) (n := n) with ⟨h1, h2⟩ | ⟨q, h1, h2, h3, h4, h5⟩
      · refine Or.inr ⟨n, by omega, ?_, ht, fun p hp hp2 => ?_, fun p hp hp2 => ?_⟩
        · rw [h1]
          unfold hvG
          rw [if_pos ⟨ht, Or.inl rfl⟩]
        · by_cases e9 : p = n
          · rw [e9]; exact Int.le_refl _
          · rw [h2 p (by omega)] at hp2; cases hp2
        · rw [h2 p hp] at hp2; cases hp2
      · by_cases e9 : pa w q 0 < pa w n 0
        · refine Or.inr ⟨n, by omega, ?_, ht, fun p hp hp2 => ?_, fun p hp hp2 => ?_⟩
          · rw [h2]
            unfold hvG
            rw [if_pos ⟨ht, Or.inr (by rw [Int.toNat_natCast]; exact e9)⟩]
          · by_cases e8 : p = n
            · rw [e8]; exact Int.le_refl _
            · have := h4 p (by omega) hp2
              omega
          · have := h4 p hp hp2
            omega
        · refine Or.inr ⟨q, by omega, ?_, h3, fun p hp hp2 => ?_, h5⟩
          · rw [h2]
            unfold hvG
            rw [if_neg (by rw [Int.toNat_natCast]; rintro ⟨-, e1 | e1⟩ <;> omega)]
          · by_cases e8 : p = n
            · rw [e8]; omega
            · exact h4 p (by omega) hp2
theorem heavy_b {w : Nat → Int} (b : Nat) : -1 ≤ heavy w b ∧ heavy w b < (nP w : Int) := by
  have h9 : heavy w b = itF (hvG w b) 0 (nP w) (-1) := rfl
  rcases hvG_spec (w := w) (b := b) (n := nP w) with ⟨h1, h2⟩ | ⟨q, h1, h2, -⟩ <;> omega
theorem loadG_f {w : Nat → Int} {b : Nat} : ∀ p a, loadG w b p a = a + (fun p => if tied w p b = true then pa w p 0 else 0) p := fun _ _ => rfl
theorem knotG_f {w : Nat → Int} {b : Nat} : ∀ p a, knotG w b p a = a + (fun p => if tied w p b = true then (1 : Int) else 0) p := fun _ _ => rfl
/-- a load wants a parcel -/
theorem heavy_some {w : Nat → Int} {b : Nat} (h : ¬ loadOf w b = 0) : ∃ q : Nat, q < nP w ∧ heavy w b = (q : Int) ∧ tied w q b = true := by
  rcases hvG_spec (w := w) (b := b) (n := nP w) with ⟨h1, h2⟩ | ⟨q, h1, h2, h3, -⟩
  · exact absurd (itF_eq0 loadG_f fun p hp => by rw [h2 p hp]; rfl) h
  · exact ⟨q, h1, h2, h3⟩
theorem knots_pos {w : Nat → Int} {b q : Nat} (hq : q < nP w) (ht : tied w q b = true) : 1 ≤ knots w b := by
  have := (itF_pos (g := knotG w b) knotG_f (n := nP w) (q := q) (fun p hp => by split <;> omega) hq).1
  try dsimp only at this
  rw [if_pos ht] at this
  exact this
theorem Inv0.unt {w : Nat → Int} (hI : Inv0 w) {b q : Nat} (hb : b < nB w) (hq : q < nP w) (ht : tied w q b = true) : Inv0 (untW w q) := by
  obtain ⟨h1, h2⟩ := tied_iff.mp ht
  refine hI.setP hq (by omega) (Or.inl ⟨rfl, ?_⟩)
  rw [h2, Int.toNat_natCast]
  exact (hI.bs b hb).1
theorem unt_tied {w : Nat → Int} {q p b : Nat} : tied (untW w q) p b = if p = q then false else tied w p b := by
  have e4 : pa (untW w q) p 4 = if p = q then 0 else pa w p 4 := by
    unfold untW
    rw [put_pa (by omega)]
    simp
  have e5 : ¬ p = q → pa (untW w q) p 5 = pa w p 5 := fun hn => by
    unfold untW
    rw [put_pa (by omega), if_neg (by omega), if_neg (by omega)]
  by_cases e : p = q
  · rw [if_pos e]
    rw [untied_iff, e4, if_pos e]
    omega
  · rw [if_neg e]
    unfold tied
    rw [e4, if_neg e, e5 e]
theorem unt_pa0 {w : Nat → Int} {q p k : Nat} (hk : k < 4) : pa (untW w q) p k = pa w p k := by
  unfold untW
  rw [put_pa (by omega), if_neg (by omega), if_neg (by omega)]
theorem unt_bN {w : Nat → Int} {q : Nat} : nB (untW w q) = nB w := put_bN
theorem unt_pN {w : Nat → Int} {q : Nat} : nP (untW w q) = nP w := put_pN
theorem unt_lo {w : Nat → Int} {q j : Nat} (hj : j < 115) : untW w q j = w j := put_lo hj
theorem unt_bo {w : Nat → Int} {q b k : Nat} (hb : b < 8) (hk : k < 4) : bo (untW w q) b k = bo w b k := put_bo hb hk
theorem unt_knots {w : Nat → Int} {q b b' : Nat} (hq : q < nP w) (ht : tied w q b = true) : knots (untW w q) b' = knots w b' - (if b' = b then 1 else 0) := by
  have h := itF_one (g := knotG w b') (g' := knotG (untW w q) b') knotG_f knotG_f (q := q) (n := nP w) (fun p hp hn => by
    try dsimp only
    rw [unt_tied, if_neg hn])
  have e1 : knots (untW w q) b' = itF (knotG (untW w q) b') 0 (nP w) 0 := by unfold knots; rw [unt_pN]
  have e2 : knots w b' = itF (knotG w b') 0 (nP w) 0 := rfl
  rw [e1, e2, h, if_pos hq]
  try dsimp only
  rw [unt_tied, if_pos rfl]
  obtain ⟨h1, h2⟩ := tied_iff.mp ht
  by_cases e : b' = b
  · subst e
    rw [ht]
    simp
    omega
  · have : tied w q b' = false := untied_iff.mpr (by omega)
    rw [this, if_neg e]
    simp
theorem unt_load {w : Nat → Int} {q b b' : Nat} (hq : q < nP w) (ht : tied w q b = true) : loadOf (untW w q) b' = loadOf w b' - (if b' = b then pa w q 0 else 0) := by
  have h := itF_one (g := loadG w b') (g' := loadG (untW w q) b') loadG_f loadG_f (q := q) (n := nP w) (fun p hp hn => by
    try dsimp only
    rw [unt_tied, if_neg hn, unt_pa0 (by omega)])
  have e1 : loadOf (untW w q) b' = itF (loadG (untW w q) b') 0 (nP w) 0 := by unfold loadOf; rw [unt_pN]
  have e2 : loadOf w b' = itF (loadG w b') 0 (nP w) 0 := rfl
  rw [e1, e2, h, if_pos hq]
  try dsimp only
  rw [unt_tied, if_pos rfl]
  obtain ⟨h1, h2⟩ := tied_iff.mp ht
  by_cases e : b' = b
  · subst e
    rw [ht]
    simp
    omega
  · have : tied w q b' = false := untied_iff.mpr (by omega)
    rw [this, if_neg e]
    simp
theorem knot0_load {w : Nat → Int} {b : Nat} (h : knots w b ≤ 0) : loadOf w b = 0 := by
  refine Classical.byContradiction fun hn => ?_
  obtain ⟨q, h1, -, h3⟩ := heavy_some hn
  have := knots_pos h1 h3
  omega
