/-! THE MATHEMATICS: what holds is kept by the larger changes -/
section BRPO
variable {w : Nat → Int} {x l t g z n : Int}
theorem br1_lo {j : Nat} (hj : j < 83) (hn : ¬ j = 5) : br1 w x l t j = w j := by
  unfold br1
  rw [sbo_lo hj, sbo_lo hj, sbo_lo hj, sbo_lo hj, vu_ne hn]
theorem br1_5 : br1 w x l t 5 = w 5 + 1 := by
  unfold br1
  rw [sbo_lo (by omega), sbo_lo (by omega), sbo_lo (by omega), sbo_lo (by omega)]
  exact vu_at _ _ _
theorem br1_hi (hn : nB w < 8) {j : Nat} (hj : 115 ≤ j) : br1 w x l t j = w j := by
  unfold br1
  rw [sbo_hi hn (by omega) hj, sbo_hi hn (by omega) hj, sbo_hi hn (by omega) hj, sbo_hi hn (by omega) hj, vu_ne (by omega)]
theorem br1_bo {b k : Nat} (hk : k < 4) : bo (br1 w x l t) b k = if b = nB w then (if k = 0 then x else if k = 1 then l else if k = 2 then t else 0) else bo w b k := by
  have e : ∀ b' k', bo (va_up w 5 (w 5 + 1)) b' k' = bo w b' k' := fun b' k' => vu_ne (by omega)
  unfold br1
  rw [sbo_bo (by omega) hk, sbo_bo (by omega) hk, sbo_bo (by omega) hk, sbo_bo (by omega) hk, e]
  by_cases hb : b = nB w
  · have : k = 0 ∨ k = 1 ∨ k = 2 ∨ k = 3 := by omega
    rcases this with rfl | rfl | rfl | rfl <;> simp [hb]
  · simp [hb]
theorem po1_lo {j : Nat} (hj : j < 115) : po1 w g x z n j = w j := by
  unfold po1
  rw [vu_ne (by omega), vu_ne (by omega), vu_ne (by omega), vu_ne (by omega), vu_ne (by omega), vu_ne (by omega)]
theorem po1_hi (hn : nP w < 16) {j : Nat} (hj : 211 ≤ j) : po1 w g x z n j = w j := by
  unfold po1
  rw [vu_ne (by omega), vu_ne (by omega), vu_ne (by omega), vu_ne (by omega), vu_ne (by omega), vu_ne (by omega)]
theorem po1_pa {p k : Nat} (hk : k < 6) : pa (po1 w g x z n) p k = if p = nP w then (if k = 0 then g else if k = 1 then x else if k = 2 then z else if k = 3 then n else if k = 4 then 0 else x) else pa w p k := by
  unfold pa po1
  generalize nP w = q
  by_cases hp : p = q
  · have : k = 0 ∨ k = 1 ∨ k = 2 ∨ k = 3 ∨ k = 4 ∨ k = 5 := by omega
    rcases this with rfl | rfl | rfl | rfl | rfl | rfl <;> simp [hp, va_up] <;> omega
  · rw [if_neg hp, vu_ne (by omega), vu_ne (by omega), vu_ne (by omega), vu_ne (by omega), vu_ne (by omega), vu_ne (by omega)]
end BRPO
section INVN
variable {m9 : Int}
theorem Inv0.brw {w : Nat → Int} (hI : Inv0 w) {x l t : Int} (h5 : w 5 < 8) (hx : 0 ≤ x ∧ x < w 0) (hl : 1 ≤ l ∧ l ≤ 30) (ht : 1 ≤ t ∧ t ≤ 9) : Inv0 (br1 w x l t) := by
  have hb8 := hI.bNe
  have hbN : nB (br1 w x l t) = nB w + 1 := by have := hI.bn; unfold nB; rw [br1_5]; omega
  have hpN : nP (br1 w x l t) = nP w := by unfold nP; rw [br1_lo (by omega) (by omega)]
  have hpa : ∀ p k', pa (br1 w x l t) p k' = pa w p k' := fun p k' => br1_hi (by omega) (by omega)
  refine ⟨?_, ?_, ?_, ?_, ?_, ?_, ?_, fun i hi => ?_, fun i hi => ?_, fun i hi => ?_, fun b' hb' => ?_, fun p hp => ?_, fun p q hp hq hne h4 h5 => ?_, fun j hj => ?_⟩
  · rw [br1_lo (by omega) (by omega)]; exact hI.len
  · rw [br1_lo (by omega) (by omega)]; exact hI.hour
  · rw [br1_lo (by omega) (by omega)]; exact hI.gas
  · rw [br1_lo (by omega) (by omega)]; exact hI.leak
  · rw [br1_lo (by omega) (by omega)]; exact hI.gn
  · rw [br1_5]; have := hI.bn; omega
  · rw [br1_lo (by omega) (by omega)]; exact hI.pn
  · rw [br1_lo (by omega) (by omega)]; exact hI.gusts i hi
  · rw [br1_lo (by omega) (by omega)]; exact hI.roofs i hi
  · rw [br1_lo (by omega) (by omega)]; exact hI.trees i hi
  · rw [hbN] at hb'
    rw [br1_bo (by omega), br1_bo (by omega), br1_bo (by omega), br1_bo (by omega), br1_lo (by omega) (by omega)]
    by_cases e : b' = nB w
    · simp only [if_pos e]
      exact ⟨hx, hl, ht, by simp⟩
    · simp only [if_neg e]
      exact hI.bs b' (by omega)
  · rw [hpN] at hp
    have h9 := hI.ps p hp
    rw [hpa, hpa, hpa, hpa, hpa, hpa, br1_lo (by omega) (by omega), br1_5]
    refine ⟨h9.1, h9.2.1, h9.2.2.1, h9.2.2.2.1, ?_⟩
    rcases h9.2.2.2.2 with a | a | a
    · exact Or.inl a
    · exact Or.inr (Or.inl ⟨a.1, a.2.1, by omega⟩)
    · exact Or.inr (Or.inr a)
  · rw [hpN] at hp hq
    rw [hpa] at h4 h5 ⊢
    rw [hpa]
    exact hI.uniq p q hp hq hne h4 h5
  · rw [br1_hi (by omega) (by omega)]; exact hI.tail j hj
theorem InvM.brin {w : Nat → Int} (h : InvM m9 w) {x l t : Int} (h5 : w 5 < 8) (hx : 0 ≤ x ∧ x < w 0) (hl : 1 ≤ l ∧ l ≤ 30) (ht : 1 ≤ t ∧ t ≤ 9) : InvM m9 (brinW w x l t) := by
  have hb8 := h.1.bNe
  have a : InvM m9 (br1 w x l t) := by
    refine ⟨h.1.brw h5 hx hl ht, by rw [br1_lo (by omega) (by omega)]; exact h.2.1, fun b hb => ?_⟩
    have hbN : nB (br1 w x l t) = nB w + 1 := by have := h.1.bn; unfold nB; rw [br1_5]; omega
    have hpN : nP (br1 w x l t) = nP w := by unfold nP; rw [br1_lo (by omega) (by omega)]
    have hpa : ∀ p k', pa (br1 w x l t) p k' = pa w p k' := fun p k' => br1_hi (by omega) (by omega)
    obtain ⟨e1, e2⟩ := load_c hpN (fun p _ => ⟨hpa p 0, hpa p 4, hpa p 5⟩) b
    rw [e1, e2, br1_bo (by omega)]
    by_cases e : b = nB w
    · rw [if_pos e]
      have ht : ∀ p, p < nP w → tied w p b = false := fun p hp => untied_iff.mpr (by have := (h.1.ps p hp).2.2.2.2; omega)
      have l0 : loadOf w b = 0 := itF_eq0 loadG_f fun p hp => by simp [ht p hp]
      have k0 : knots w b = 0 := itF_eq0 knotG_f fun p hp => by simp [ht p hp]
      rw [l0, k0]
      refine ⟨?_, by decide⟩
      show (0 : Int) < l
      omega
    · rw [if_neg e]
      exact h.2.2 b (by omega)
  exact a.setA (by omega)
theorem Inv0.post {w : Nat → Int} (hI : Inv0 w) {g x z n : Int} (h6 : w 6 < 16) (hg : 1 ≤ g ∧ g ≤ 9) (hx : 0 ≤ x ∧ x < w 0) (hz : 0 ≤ z ∧ z < w 0) (hn : 0 ≤ n ∧ n ≤ 99) (hq : numbd w n = -1) : Inv0 (postW w g x z n) := by
  have hp8 := hI.pNe
  have hb8 := hI.bNe
  have hlo : ∀ j, j < 115 → ¬ j = 6 → postW w g x z n j = w j := fun j hj h => (vu_ne h).trans (po1_lo hj)
  have h66 : postW w g x z n 6 = w 6 + 1 := by rw [show postW w g x z n 6 = po1 w g x z n 6 + 1 from vu_at _ _ _, po1_lo (by omega)]
  have hbN : nB (postW w g x z n) = nB w := by unfold nB; rw [hlo 5 (by omega) (by omega)]
  have hpN : nP (postW w g x z n) = nP w + 1 := by unfold nP; rw [h66]; have := hI.pn; omega
  have hbo : ∀ b k, b < 8 → k < 4 → bo (postW w g x z n) b k = bo w b k := fun b k h1 h2 => hlo _ (by omega) (by omega)
  have hpa : ∀ p k, k < 6 → pa (postW w g x z n) p k = if p = nP w then (if k = 0 then g else if k = 1 then x else if k = 2 then z else if k = 3 then n else if k = 4 then 0 else x) else pa w p k := fun p k hk => by
    rw [← po1_pa hk]
    exact vu_ne (by omega)
  have hfr : ∀ q, q < nP w → ¬ pa w q 4 = 2 → ¬ pa w q 3 = n := fun q hq2 h4 h3 => by
    rcases fiF_spec (f := numF w n) (i := 0) (m := nP w) with ⟨-, h2⟩ | ⟨p, -, -, h2, -⟩
    · have := h2 q (by omega) (by omega)
      unfold numF at this
      simp [h4, h3] at this
    · unfold numbd at hq
      omega
  refine ⟨?_, ?_, ?_, ?_, ?_, ?_, ?_, fun i hi => ?_, fun i hi => ?_, fun i hi => ?_, fun b' hb' => ?_, fun p hp => ?_, fun p q hp hq2 hne h4 h5 => ?_, fun j hj => ?_⟩
  · rw [hlo 0 (by omega) (by omega)]; exact hI.len
  · rw [hlo 1 (by omega) (by omega)]; exact hI.hour
  · rw [hlo 2 (by omega) (by omega)]; exact hI.gas
  · rw [hlo 3 (by omega) (by omega)]; exact hI.leak
  · rw [hlo 4 (by omega) (by omega)]; exact hI.gn
  · rw [hlo 5 (by omega) (by omega)]; exact hI.bn
  · rw [h66]; have := hI.pn; omega
  · rw [hlo _ (by omega) (by omega)]; exact hI.gusts i hi
  · rw [hlo _ (by omega) (by omega)]; exact hI.roofs i hi
  · rw [hlo _ (by omega) (by omega)]; exact hI.trees i hi
  · rw [hbN] at hb'
    rw [hbo _ _ (by omega) (by omega), hbo _ _ (by omega) (by omega), hbo _ _ (by omega) (by omega), hbo _ _ (by omega) (by omega), hlo 0 (by omega) (by omega)]
    exact hI.bs b' hb'
  · rw [hpN] at hp
    rw [hpa _ _ (by omega), hpa _ _ (by omega), hpa _ _ (by omega), hpa _ _ (by omega), hpa _ _ (by omega), hpa _ _ (by omega), hlo 0 (by omega) (by omega), hlo 5 (by omega) (by omega)]
    by_cases e : p = nP w
    · simp [e]
      exact ⟨hg, hx, hz, hn, hx⟩
    · simp only [if_neg e]
      exact hI.ps p (by omega)
  · rw [hpN] at hp hq2
    rw [hpa _ _ (by omega)] at h4 h5 ⊢
    rw [hpa _ _ (by omega)]
    by_cases e : p = nP w
    · have e2 : ¬ q = nP w := by omega
      simp [e, e2] at h5 ⊢
      exact fun e3 => hfr q (by omega) h5 e3.symm
    · by_cases e2 : q = nP w
      · simp [e, e2] at h4 ⊢
        exact hfr p (by omega) h4
      · simp only [if_neg e, if_neg e2] at h4 h5 ⊢
        exact hI.uniq p q (by omega) (by omega) hne h4 h5
  · rw [show postW w g x z n j = po1 w g x z n j from vu_ne (by omega), po1_hi (by omega) hj]; exact hI.tail j hj
theorem InvM.post {w : Nat → Int} (h : InvM m9 w) {g x z n : Int} (h6 : w 6 < 16) (hg : 1 ≤ g ∧ g ≤ 9) (hx : 0 ≤ x ∧ x < w 0) (hz : 0 ≤ z ∧ z < w 0) (hn : 0 ≤ n ∧ n ≤ 99) (hq : numbd w n = -1) : InvM m9 (postW w g x z n) := by
  have hb8 := h.1.bNe
  have hp8 := h.1.pNe
  have hlo : ∀ j, j < 115 → ¬ j = 6 → postW w g x z n j = w j := fun j hj h => (vu_ne h).trans (po1_lo hj)
  have h66 : postW w g x z n 6 = w 6 + 1 := by rw [show postW w g x z n 6 = po1 w g x z n 6 + 1 from vu_at _ _ _, po1_lo (by omega)]
  have hpN : nP (postW w g x z n) = nP w + 1 := by unfold nP; rw [h66]; have := h.1.pn; omega
  have hbN : nB (postW w g x z n) = nB w := by unfold nB; rw [hlo 5 (by omega) (by omega)]
  have hpa : ∀ p k, k < 6 → pa (postW w g x z n) p k = if p = nP w then (if k = 0 then g else if k = 1 then x else if k = 2 then z else if k = 3 then n else if k = 4 then 0 else x) else pa w p k := fun p k hk => by
    rw [← po1_pa hk]
    exact vu_ne (by omega)
  refine ⟨h.1.post h6 hg hx hz hn hq, by rw [hlo 1 (by omega) (by omega)]; exact h.2.1, fun b hb => ?_⟩
  rw [hbN] at hb
  have ht : ∀ p, p < nP w → tied (postW w g x z n) p b = tied w p b := fun p hp => by
    unfold tied
    rw [hpa p 4 (by omega), hpa p 5 (by omega), if_neg (by omega), if_neg (by omega)]
  have ht2 : tied (postW w g x z n) (0 + nP w) b = false := untied_iff.mpr (by rw [hpa _ 4 (by omega), if_pos (by omega)]; simp)
  have hL : loadOf (postW w g x z n) b = loadOf w b := by
    unfold loadOf
    rw [hpN, itF_last]
    unfold loadG
    rw [ht2]
    simp only [Bool.false_eq_true, if_false, Int.add_zero]
    refine itF_congr fun p a _ hp => ?_
    have e0 : pa (postW w g x z n) p 0 = pa w p 0 := by rw [hpa p 0 (by omega), if_neg (by omega)]
    rw [ht p (by omega), e0]
  have hK : knots (postW w g x z n) b = knots w b := by
    unfold knots
    rw [hpN, itF_last]
    unfold knotG
    rw [ht2]
    simp only [Bool.false_eq_true, if_false, Int.add_zero]
    exact itF_congr fun p a _ hp => by rw [ht p (by omega)]
  rw [hL, hK, show bo (postW w g x z n) b 1 = bo w b 1 from hlo _ (by omega) (by omega)]
  exact h.2.2 b hb
theorem InvM.clm {w : Nat → Int} (h : InvM m9 w) {p : Nat} (hp : p < nP w) (h4 : pa w p 4 = 0) : InvM m9 (clmW w p) := by
  have hb8 := h.1.bNe
  have hp8 := h.1.pNe
  have a0 : Inv0 (putP w p 2 (-1)) := h.1.setP hp (by omega) (Or.inr (Or.inr ⟨rfl, rfl⟩))
  have ht : ∀ q b, tied (putP w p 2 (-1)) q b = tied w q b := fun q b => by
    have e4 : pa (putP w p 2 (-1)) q 4 = if q = p then 2 else pa w q 4 := by rw [put_pa (by omega)]; simp
    have e5 : pa (putP w p 2 (-1)) q 5 = if q = p then -1 else pa w q 5 := by rw [put_pa (by omega)]; simp
    unfold tied
    rw [e4, e5]
    by_cases e : q = p
    · simp [e, h4]
    · simp [e]
  have a1 : InvM m9 (putP w p 2 (-1)) := by
    refine ⟨a0, by rw [put_lo (by omega)]; exact h.2.1, fun b hb => ?_⟩
    rw [put_bN] at hb
    have hL : loadOf (putP w p 2 (-1)) b = loadOf w b := by
      unfold loadOf
      rw [put_pN]
      exact itF_congr fun q a _ hq => by unfold loadG; rw [ht, put_pa0 (by omega)]
    have hK : knots (putP w p 2 (-1)) b = knots w b := by
      unfold knots
      rw [put_pN]
      exact itF_congr fun q a _ hq => by unfold knotG; rw [ht]
    rw [hL, hK, put_bo (by omega) (by omega)]
    exact h.2.2 b hb
  have a2 : InvM m9 (cl1 w p) := a1.setA (by omega)
  exact a2.setA (by omega)
theorem InvM.car {b : Nat} {sense : Int} : ∀ {m : Nat} {w : Nat → Int}, InvM m9 w → b < nB w → InvM m9 (carF b sense m w)
  | 0, w, hI, hb => hI
  | m + 1, w, hI, hb => by
    rw [carF]
    split
    · exact hI
    · split
      · exact hI
      · split
        · exact hI
        · rename_i h1 h2 h3
          have h4 : Sm w (ca1 w b (bo w b 0 + sense)) := fun j hj => by unfold ca1; rw [sbo_lo hj, sbo_lo hj]
          exact InvM.car (m := m) (hI.cas hb (by simpa using h2)) (by rw [Sm.eB fun j hj => h4 j (by omega)]; exact hb)
theorem InvM.dr {w : Nat → Int} (hI : InvM m9 w) {b : Nat} (hb : b < nB w) : InvM m9 (drG b w) := by
  unfold drG
  split
  · exact hI.car hb
  · exact hI
theorem InvM.drI {w : Nat → Int} (hI : InvM m9 w) {b : Nat} : ∀ {m : Nat}, b + m ≤ nB w → InvM m9 (itF drG b m w) ∧ Sm w (itF drG b m w)
  | 0, _ => ⟨hI, Sm.rf⟩
  | m + 1, h => by
    rw [itF_last]
    obtain ⟨h1, h2⟩ := InvM.drI hI (b := b) (m := m) (by omega)
    have hb : b + m < nB (itF drG b m w) := by rw [Sm.eB fun j hj => h2 j (by omega)]; omega
    exact ⟨h1.dr hb, h2.tr (dr_inv h1.1 hb).2⟩
theorem InvM.lkI {w : Nat → Int} (hI : InvM m9 w) {b : Nat} : ∀ {m : Nat}, b + m ≤ nB w → InvM m9 (itF (fun b u => leakW u b) b m w) ∧ Sl w (itF (fun b u => leakW u b) b m w)
  | 0, _ => ⟨hI, Sl.rf⟩
  | m + 1, h => by
    rw [itF_last]
    obtain ⟨h1, h2⟩ := InvM.lkI hI (b := b) (m := m) (by omega)
    have hb : b + m < nB (itF (fun b u => leakW u b) b m w) := by rw [Sm.eB fun j hj => h2 j (by omega) (by omega)]; omega
    exact ⟨h1.leak hb, h2.tr (leak_inv h1.1 hb).2⟩
theorem InvM.tk {w : Nat → Int} (h : InvM m9 w) {m8 : Int} (h1 : w 1 + 1 ≤ m8) (h2 : m8 ≤ 100000) : InvM m8 (tkW w) := by
  have e : ∀ j, ¬ j = 1 → tkW w j = w j := fun j hj => vu_ne hj
  have hbN : nB (tkW w) = nB w := by unfold nB; rw [e 5 (by omega)]
  have hpN : nP (tkW w) = nP w := by unfold nP; rw [e 6 (by omega)]
  refine ⟨tk_inv h.1 (by omega), by rw [show tkW w 1 = w 1 + 1 from vu_at _ _ _]; exact h1, fun b hb => ?_⟩
  obtain ⟨e1, e2⟩ := load_c hpN (fun p _ => ⟨e _ (by omega), e _ (by omega), e _ (by omega)⟩) b
  rw [e1, e2, show bo (tkW w) b 1 = bo w b 1 from e _ (by omega)]
  exact h.2.2 b (by omega)
theorem InvM.hr {w : Nat → Int} (h : InvM m9 w) {m8 : Int} (h1 : w 1 + 1 ≤ m8) (h2 : m8 ≤ 100000) : InvM m8 (hrW w) := by
  obtain ⟨a1, a2⟩ := h.drI (b := 0) (m := nB w) (by omega)
  have a3 : InvM m8 (tkW (drW w)) := a1.tk (by rw [a2 1 (by omega)]; exact h1) h2
  show InvM m8 (lkW _)
  unfold lkW
  split
  · exact (a3.lkI (b := 0) (by omega)).1
  · exact a3
theorem InvM.pass {w : Nat → Int} (h : InvM m9 w) : ∀ {n : Nat} {m8 : Int}, w 1 + n ≤ m8 → m8 ≤ 100000 → InvM m8 (passW w n)
  | 0, m8, h1, _ => ⟨h.1, by show w 1 ≤ m8; omega, h.2.2⟩
  | n + 1, m8, h1, h2 => by
    have e : passW w (n + 1) = hrW (passW w n) := itF_last
    rw [e]
    have a := InvM.pass h (n := n) (m8 := w 1 + n) (by omega) (by omega)
    have e1 := (pass_inv h.1 (n := n) (by omega)).2 1 (by omega) (by omega)
    rw [if_pos rfl] at e1
    exact a.hr (by rw [e1]; omega) h2
end INVN
/-- the row at a script's begin -/
def ini0 : Nat → Int := va_up (va_up (fun _ => 0) 2 50) 3 3
def iniW (l : Int) : Nat → Int := va_up ini0 0 l
theorem ini_ne {l : Int} {j : Nat} (h : 4 ≤ j) : iniW l j = 0 := by
  unfold iniW ini0
  rw [vu_ne (by omega), vu_ne (by omega), vu_ne (by omega)]
theorem ini_inv {l : Int} (h1 : 8 ≤ l) (h2 : l ≤ 30) : Inv (iniW l) := by
  have e0 : iniW l 0 = l := vu_at _ _ _
  have e1 : iniW l 1 = 0 := rfl
  have e2 : iniW l 2 = 50 := rfl
  have e3 : iniW l 3 = 3 := rfl
  have eB : nB (iniW l) = 0 := rfl
  have eP : nP (iniW l) = 0 := rfl
  refine ⟨⟨?_, ?_, ?_, ?_, ?_, ?_, ?_, fun i hi => ?_, fun i hi => ?_, fun i hi => ?_, fun b' hb' => ?_, fun p hp => ?_, fun p q hp hq hne h4 h5 => ?_, fun j hj => ini_ne (by omega)⟩, ?_, fun b hb => ?_⟩
  · rw [e0]; exact ⟨h1, h2⟩
  · rw [e1]; decide
  · rw [e2]; decide
  · rw [e3]; decide
  · rw [ini_ne (by omega)]; decide
  · rw [ini_ne (by omega)]; decide
  · rw [ini_ne (by omega)]; decide
  · rw [ini_ne (by omega)]; decide
  · rw [ini_ne (by omega)]; decide
  · rw [ini_ne (by omega)]; decide
  · rw [eB] at hb'; omega
  · rw [eP] at hp; omega
  · rw [eP] at hp; omega
  · rw [e1]; decide
  · rw [eB] at hb; omega
