/-- the same but for a balloon's and parcels' numbers -/
def Sm (w u : Nat → Int) : Prop := ∀ j, j < 83 → u j = w j
theorem Sm.rf {w : Nat → Int} : Sm w w := fun _ _ => rfl
theorem Sm.tr {w u v : Nat → Int} (h1 : Sm w u) (h2 : Sm u v) : Sm w v := fun j hj => (h2 j hj).trans (h1 j hj)
theorem Sm.eB {w u : Nat → Int} (h : ∀ j, j < 7 → u j = w j) : nB u = nB w := by unfold nB; rw [h 5 (by omega)]
theorem Sm.eP {w u : Nat → Int} (h : ∀ j, j < 7 → u j = w j) : nP u = nP w := by unfold nP; rw [h 6 (by omega)]
theorem load_pos {w : Nat → Int} (hI : Inv0 w) {b : Nat} (hb : b < nB w) (hs : ¬ 0 < spare w b) : ¬ loadOf w b = 0 := by
  have h1 := (hI.bs b hb).2.1
  have h2 : spare w b = bo w b 1 - loadOf w b := rfl
  omega
theorem relF_inv {b : Nat} : ∀ {m : Nat} {w : Nat → Int} {n : Int}, Inv0 w → b < nB w → Inv0 (relF b m w n).1 ∧ ∀ j, j < 115 → (relF b m w n).1 j = w j
  | 0, w, n, hI, hb => ⟨hI, fun _ _ => rfl⟩
  | m + 1, w, n, hI, hb => by
    by_cases hs : 0 < spare w b
    · rw [relF, if_pos hs]
      exact ⟨hI, fun _ _ => rfl⟩
    · rw [relF, if_neg hs]
      obtain ⟨q, h1, h2, h3⟩ := heavy_some (load_pos hI hb hs)
      rw [h2, Int.toNat_natCast]
      obtain ⟨h4, h5⟩ := relF_inv (b := b) (m := m) (n := n + 1) (hI.unt hb h1 h3) (by rw [unt_bN]; exact hb)
      exact ⟨h4, fun j hj => by rw [h5 j hj, unt_lo hj]⟩
theorem rel_inv {w : Nat → Int} (hI : Inv0 w) {b : Nat} (hb : b < nB w) : Inv0 (relW w b) := (relF_inv hI hb).1
theorem rel_lo {w : Nat → Int} (hI : Inv0 w) {b : Nat} (hb : b < nB w) {j : Nat} (hj : j < 115) : relW w b j = w j := (relF_inv hI hb).2 j hj
theorem los_inv {w : Nat → Int} (hI : Inv0 w) {b : Nat} {l : Int} (hb : b < nB w) (h0 : 0 ≤ l) (h1 : l < bo w b 1) : Inv0 (losW w b l) := by
  have h2 := (hI.bs b hb).2.1
  exact (hI.setB (k := 1) hb (by omega) (by omega) (by omega) (by omega) (by omega)).setA (by omega)
theorem los_lo {w : Nat → Int} {b : Nat} {l : Int} {j : Nat} (hj : j < 83) (hn : ¬ j = 10) : losW w b l j = w j := by
  unfold losW
  rw [vu_ne hn, sbo_lo hj]
theorem los_bo {w : Nat → Int} {b b' k : Nat} {l : Int} (hk : k < 4) : bo (losW w b l) b' k = if b' = b ∧ k = 1 then bo w b 1 - l else bo w b' k := by
  rw [← sbo_bo (by omega) hk]
  exact vu_ne (by omega)
theorem los_pa {w : Nat → Int} {b p k : Nat} {l : Int} (hb : b < 8) : pa (losW w b l) p k = pa w p k := by
  have e : losW w b l (115 + 6 * p + k) = sbo w b 1 (bo w b 1 - l) (115 + 6 * p + k) := vu_ne (by omega)
  exact e.trans (sbo_hi hb (by omega) (by omega))
theorem los_bN {w : Nat → Int} {b : Nat} {l : Int} : nB (losW w b l) = nB w := Sm.eB fun j hj => los_lo (by omega) (by omega)
theorem los_pN {w : Nat → Int} {b : Nat} {l : Int} : nP (losW w b l) = nP w := Sm.eP fun j hj => los_lo (by omega) (by omega)
theorem isPl_iff {w : Nat → Int} {x : Int} : isPl w x = true ↔ 0 ≤ x ∧ x ≤ w 0 - 1 := by unfold isPl; simp
theorem ca1_inv {w : Nat → Int} (hI : Inv0 w) {b : Nat} {x : Int} (hb : b < nB w) (hx : isPl w x = true) : Inv0 (ca1 w b x) := by
  have h1 := isPl_iff.mp hx
  have h2 : Inv0 (sbo w b 0 x) := hI.setB (k := 0) hb (by omega) (by omega) (by omega) (by omega) (by omega)
  refine h2.setB (k := 3) (by rw [sbo_bN]; exact hb) (by omega) (by omega) (by omega) (by omega) (fun _ => ?_)
  split <;> omega
theorem carF_inv {b : Nat} {sense : Int} : ∀ {m : Nat} {w : Nat → Int}, Inv0 w → b < nB w → Inv0 (carF b sense m w) ∧ Sm w (carF b sense m w)
  | 0, w, hI, hb => ⟨hI, Sm.rf⟩
  | m + 1, w, hI, hb => by
    rw [carF]
    split
    · exact ⟨hI, Sm.rf⟩
    · split
      · exact ⟨hI, Sm.rf⟩
      · split
        · exact ⟨hI, Sm.rf⟩
        · rename_i h1 h2 h3
          have h4 : Sm w (ca1 w b (bo w b 0 + sense)) := fun j hj => by unfold ca1; rw [sbo_lo hj, sbo_lo hj]
          obtain ⟨h5, h6⟩ := carF_inv (b := b) (sense := sense) (m := m) (ca1_inv hI hb (by simpa using h2)) (by rw [Sm.eB fun j hj => h4 j (by omega)]; exact hb)
          exact ⟨h5, h4.tr h6⟩
theorem dr_inv {w : Nat → Int} (hI : Inv0 w) {b : Nat} (hb : b < nB w) : Inv0 (drG b w) ∧ Sm w (drG b w) := by
  unfold drG
  split
  · exact carF_inv hI hb
  · exact ⟨hI, Sm.rf⟩
theorem drI_inv {w : Nat → Int} (hI : Inv0 w) {b : Nat} : ∀ {m : Nat}, b + m ≤ nB w → Inv0 (itF drG b m w) ∧ Sm w (itF drG b m w)
  | 0, _ => ⟨hI, Sm.rf⟩
  | m + 1, h => by
    rw [itF_last]
    obtain ⟨h1, h2⟩ := drI_inv hI (b := b) (m := m) (by omega)
    obtain ⟨h3, h4⟩ := dr_inv h1 (b := b + m) (by rw [Sm.eB fun j hj => h2 j (by omega)]; omega)
    exact ⟨h3, h2.tr h4⟩
/-- the settings and counters but for the lost lift -/
def Sl (w u : Nat → Int) : Prop := ∀ j, j < 83 → ¬ j = 10 → u j = w j
theorem Sl.rf {w : Nat → Int} : Sl w w := fun _ _ _ => rfl
theorem Sl.tr {w u v : Nat → Int} (h1 : Sl w u) (h2 : Sl u v) : Sl w v := fun j hj hn => (h2 j hj hn).trans (h1 j hj hn)
theorem le1_inv {w : Nat → Int} (hI : Inv0 w) {b : Nat} (hb : b < nB w) : Inv0 (le1 w b) ∧ Sl w (le1 w b) := by
  have h2 := (hI.bs b hb).2.1
  refine ⟨los_inv hI hb (by split <;> omega) (by split <;> omega), fun j hj hn => los_lo hj hn⟩
theorem leak_inv {w : Nat → Int} (hI : Inv0 w) {b : Nat} (hb : b < nB w) : Inv0 (leakW w b) ∧ Sl w (leakW w b) := by
  obtain ⟨h1, h2⟩ := le1_inv hI hb
  have hb2 : b < nB (le1 w b) := by rw [Sm.eB fun j hj => h2 j (by omega) (by omega)]; exact hb
  unfold leakW
  split
  · exact ⟨hI, Sl.rf⟩
  · split
    · have h3 : Inv0 (sbo (le1 w b) b 3 0) := h1.setB (k := 3) hb2 (by omega) (by omega) (by omega) (by omega) (by omega)
      have hb3 : b < nB (sbo (le1 w b) b 3 0) := by rw [sbo_bN]; exact hb2
      exact ⟨rel_inv h3 hb3, fun j hj hn => by rw [rel_lo h3 hb3 (by omega), sbo_lo hj, h2 j hj hn]⟩
    · exact ⟨h1, h2⟩
theorem lkI_inv {w : Nat → Int} (hI : Inv0 w) {b : Nat} : ∀ {m : Nat}, b + m ≤ nB w → Inv0 (itF (fun b u => leakW u b) b m w) ∧ Sl w (itF (fun b u => leakW u b) b m w)
  | 0, _ => ⟨hI, Sl.rf⟩
  | m + 1, h => by
    rw [itF_last]
    obtain ⟨h1, h2⟩ := lkI_inv hI (b := b) (m := m) (by omega)
    obtain ⟨h3, h4⟩ := leak_inv h1 (b := b + m) (by rw [Sm.eB fun j hj => h2 j (by omega) (by omega)]; omega)
    exact ⟨h3, h2.tr h4⟩
theorem tk_inv {w : Nat → Int} (hI : Inv0 w) (h : w 1 < 100000) : Inv0 (tkW w) := by
  have hh := hI.hour
  have e : ∀ j, ¬ j = 1 → tkW w j = w j := fun j hj => vu_ne hj
  have hbo : ∀ b k', bo (tkW w) b k' = bo w b k' := fun b k' => e _ (by omega)
  have hpa : ∀ p k', pa (tkW w) p k' = pa w p k' := fun p k' => e _ (by omega)
  have hbN : nB (tkW w) = nB w := by unfold nB; rw [e 5 (by omega)]
  have hpN : nP (tkW w) = nP w := by unfold nP; rw [e 6 (by omega)]
  refine ⟨?_, ?_, ?_, ?_, ?_, ?_, ?_, fun i hi => ?_, fun i hi => ?_, fun i hi => ?_, fun b' hb' => ?_, fun p hp => ?_, fun p q hp hq hne h4 h5 => ?_, fun j hj => ?_⟩
  · rw [e 0 (by omega)]; exact hI.len
  · rw [show tkW w 1 = w 1 + 1 from vu_at _ _ _]; omega
  · rw [e 2 (by omega)]; exact hI.gas
  · rw [e 3 (by omega)]; exact hI.leak
  · rw [e 4 (by omega)]; exact hI.gn
  · rw [e 5 (by omega)]; exact hI.bn
  · rw [e 6 (by omega)]; exact hI.pn
  · rw [e _ (by omega)]; exact hI.gusts i hi
  · rw [e _ (by omega)]; exact hI.roofs i hi
  · rw [e _ (by omega)]; exact hI.trees i hi
  · rw [hbN] at hb'
    rw [hbo, hbo, hbo, hbo, e 0 (by omega)]
    exact hI.bs b' hb'
  · rw [hpN] at hp
    rw [hpa, hpa, hpa, hpa, hpa, hpa, e 0 (by omega), e 5 (by omega)]
    exact hI.ps p hp
  · rw [hpN] at hp hq
    rw [hpa] at h4 h5 ⊢
    rw [hpa]
    exact hI.uniq p q hp hq hne h4 h5
  · rw [e j (by omega)]; exact hI.tail j hj
theorem drW_inv {w : Nat → Int} (hI : Inv0 w) : Inv0 (drW w) ∧ Sm w (drW w) := drI_inv hI (by omega)
theorem lkW_inv {w : Nat → Int} (hI : Inv0 w) : Inv0 (lkW w) ∧ Sl w (lkW w) := by
  unfold lkW
  split
  · exact lkI_inv hI (by omega)
  · exact ⟨hI, Sl.rf⟩
theorem hr_inv {w : Nat → Int} (hI : Inv0 w) (h : w 1 < 100000) : Inv0 (hrW w) ∧ ∀ j, j < 83 → ¬ j = 10 → hrW w j = if j = 1 then w 1 + 1 else w j := by
  obtain ⟨h1, h2⟩ := drW_inv hI
  have h3 := tk_inv h1 (by rw [h2 1 (by omega)]; exact h)
  obtain ⟨h4, h5⟩ := lkW_inv h3
  refine ⟨h4, fun j hj hn => ?_⟩
  unfold hrW
  rw [h5 j hj hn]
  by_cases e : j = 1
  · rw [if_pos e, e, show tkW (drW w) 1 = drW w 1 + 1 from vu_at _ _ _, h2 1 (by omega)]
  · rw [if_neg e, show tkW (drW w) j = drW w j from vu_ne e, h2 j hj]
theorem pass_inv {w : Nat → Int} (hI : Inv0 w) : ∀ {n : Nat}, w 1 + n ≤ 100000 → Inv0 (passW w n) ∧ ∀ j, j < 83 → ¬ j = 10 → passW w n j = if j = 1 then w 1 + n else w j
  | 0, _ => ⟨hI, fun j _ _ => by
    show w j = _
    split
    · rename_i e; rw [e]; simp
    · rfl⟩
  | n + 1, h => by
    obtain ⟨h1, h2⟩ := pass_inv hI (n := n) (by omega)
    have e : passW w (n + 1) = hrW (passW w n) := itF_last
    rw [e]
    have e1 := h2 1 (by omega) (by omega)
    rw [if_pos rfl] at e1
    obtain ⟨h3, h4⟩ := hr_inv h1 (by rw [e1]; omega)
    refine ⟨h3, fun j hj hn => ?_⟩
    rw [h4 j hj hn]
    by_cases e2 : j = 1
    · rw [if_pos e2, if_pos e2, e1]; omega
    · rw [if_neg e2, if_neg e2, h2 j hj hn, if_neg e2]
theorem bz_t {t : Bool} (h : t = true) : bz t = 1 := by rw [h]; rfl
theorem bz_f {t : Bool} (h : ¬ t = true) : bz t = 0 := by
  cases t
  · rfl
  · exact absurd rfl h
