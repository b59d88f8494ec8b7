/-! THE MATHEMATICS: what holds between the calls, and is kept -/
def InvM (m9 : Int) (w : Nat → Int) : Prop := Inv0 w ∧ w 1 ≤ m9 ∧ ∀ b, b < nB w → loadOf w b < bo w b 1 ∧ knots w b ≤ 4
abbrev Inv : (Nat → Int) → Prop := InvM 999
section INVM
variable {m9 : Int}
theorem load_c {w u : Nat → Int} (hP : nP u = nP w) (h : ∀ p, p < nP w → pa u p 0 = pa w p 0 ∧ pa u p 4 = pa w p 4 ∧ pa u p 5 = pa w p 5) (b : Nat) : loadOf u b = loadOf w b ∧ knots u b = knots w b := by
  have ht : ∀ p, p < nP w → tied u p b = tied w p b := fun p hp => by
    obtain ⟨-, h2, h3⟩ := h p hp
    unfold tied
    rw [h2, h3]
  unfold loadOf knots
  rw [hP]
  exact ⟨itF_congr fun p a _ hp => by unfold loadG; rw [ht p (by omega), (h p (by omega)).1], itF_congr fun p a _ hp => by unfold knotG; rw [ht p (by omega)]⟩
/-- Inv behind a change that leaves the parcels and the lifts -/
theorem InvM.keep {w u : Nat → Int} (h : InvM m9 w) (h0 : Inv0 u) (h1 : u 1 ≤ m9) (hB : nB u = nB w) (hP : nP u = nP w) (hp : ∀ p, p < nP w → pa u p 0 = pa w p 0 ∧ pa u p 4 = pa w p 4 ∧ pa u p 5 = pa w p 5) (hl : ∀ b, b < nB w → bo w b 1 ≤ bo u b 1) : InvM m9 u := by
  refine ⟨h0, h1, fun b hb => ?_⟩
  rw [hB] at hb
  obtain ⟨e1, e2⟩ := load_c hP hp b
  rw [e1, e2]
  have h3 := h.2.2 b hb
  have h4 := hl b hb
  exact ⟨by omega, h3.2⟩
theorem Inv0.setS {w : Nat → Int} (hI : Inv0 w) {k : Nat} {v : Int} (hk : k < 83) (hn : k = 2 ∨ k = 3 ∨ k = 4 ∨ 11 ≤ k) (h2 : k = 2 → 0 ≤ v ∧ v ≤ 999) (h3 : k = 3 → 1 ≤ v ∧ v ≤ 9) (h4 : k = 4 → 0 ≤ v ∧ v ≤ 12) (hg : 11 ≤ k → k < 23 → -3 ≤ v ∧ v ≤ 3) (hr : 23 ≤ k → 0 ≤ v ∧ v ≤ 9) : Inv0 (va_up w k v) := by
  have hne : ∀ j, ¬ j = k → va_up w k v j = w j := fun j hj => vu_ne hj
  have hbo : ∀ b k', bo (va_up w k v) b k' = bo w b k' := fun b k' => hne _ (by omega)
  have hpa : ∀ p k', pa (va_up w k v) p k' = pa w p k' := fun p k' => hne _ (by omega)
  have hbN : nB (va_up w k v) = nB w := by unfold nB; rw [hne 5 (by omega)]
  have hpN : nP (va_up w k v) = nP w := by unfold nP; rw [hne 6 (by omega)]
  have hat : va_up w k v k = v := vu_at _ _ _
  refine ⟨?_, ?_, ?_, ?_, ?_, ?_, ?_, fun i hi => ?_, fun i hi => ?_, fun i hi => ?_, fun b' hb' => ?_, fun p hp => ?_, fun p q hp hq hne h4 h5 => ?_, fun j hj => ?_⟩
  · rw [hne 0 (by omega)]; exact hI.len
  · rw [hne 1 (by omega)]; exact hI.hour
  · by_cases e : 2 = k
    · rw [e, hat]; exact h2 e.symm
    · rw [hne 2 e]; exact hI.gas
  · by_cases e : 3 = k
    · rw [e, hat]; exact h3 e.symm
    · rw [hne 3 e]; exact hI.leak
  · by_cases e : 4 = k
    · rw [e, hat]; exact h4 e.symm
    · rw [hne 4 e]; exact hI.gn
  · rw [hne 5 (by omega)]; exact hI.bn
  · rw [hne 6 (by omega)]; exact hI.pn
  · by_cases e : 11 + i = k
    · rw [e, hat]; exact hg (by omega) (by omega)
    · rw [hne _ e]; exact hI.gusts i hi
  · by_cases e : 23 + i = k
    · rw [e, hat]; exact hr (by omega)
    · rw [hne _ e]; exact hI.roofs i hi
  · by_cases e : 53 + i = k
    · rw [e, hat]; exact hr (by omega)
    · rw [hne _ e]; exact hI.trees i hi
  · rw [hbN] at hb'
    rw [hbo, hbo, hbo, hbo, hne 0 (by omega)]
    exact hI.bs b' hb'
  · rw [hpN] at hp
    rw [hpa, hpa, hpa, hpa, hpa, hpa, hne 0 (by omega), hne 5 (by omega)]
    exact hI.ps p hp
  · rw [hpN] at hp hq
    rw [hpa] at h4 h5 ⊢
    rw [hpa]
    exact hI.uniq p q hp hq hne h4 h5
  · rw [hne j (by omega)]; exact hI.tail j hj
theorem InvM.setS {w : Nat → Int} (h : InvM m9 w) {k : Nat} {v : Int} (hk : k < 83) (hn : k = 2 ∨ k = 3 ∨ k = 4 ∨ 11 ≤ k) (h2 : k = 2 → 0 ≤ v ∧ v ≤ 999) (h3 : k = 3 → 1 ≤ v ∧ v ≤ 9) (h4 : k = 4 → 0 ≤ v ∧ v ≤ 12) (hg : 11 ≤ k → k < 23 → -3 ≤ v ∧ v ≤ 3) (hr : 23 ≤ k → 0 ≤ v ∧ v ≤ 9) : InvM m9 (va_up w k v) := by
  have hne : ∀ j, ¬ j = k → va_up w k v j = w j := fun j hj => vu_ne hj
  refine h.keep (h.1.setS hk hn h2 h3 h4 hg hr) (by rw [hne 1 (by omega)]; exact h.2.1) (by unfold nB; rw [hne 5 (by omega)]) (by unfold nP; rw [hne 6 (by omega)]) (fun p _ => ⟨hne _ (by omega), hne _ (by omega), hne _ (by omega)⟩) (fun b _ => ?_)
  have e : bo (va_up w k v) b 1 = bo w b 1 := hne _ (by omega)
  omega
theorem InvM.blow {w : Nat → Int} (h : InvM m9 w) {g : Int} (h4 : w 4 < 12) (h1 : -3 ≤ g) (h2 : g ≤ 3) : InvM m9 (blowW w g) := by
  have hg := h.1.gn
  have a := h.setS (k := 11 + (w 4).toNat) (v := g) (by omega) (by omega) (by omega) (by omega) (by omega) (by omega) (by omega)
  have e : va_up w (11 + (w 4).toNat) g 4 = w 4 := vu_ne (by omega)
  exact a.setS (k := 4) (by omega) (by omega) (by omega) (by omega) (by rw [e]; omega) (by omega) (by omega)
theorem InvM.setA {w : Nat → Int} (h : InvM m9 w) {k : Nat} {v : Int} (hk : 7 ≤ k ∧ k ≤ 10) : InvM m9 (va_up w k v) := by
  have hne : ∀ j, ¬ j = k → va_up w k v j = w j := fun j hj => vu_ne hj
  refine h.keep (h.1.setA hk) (by rw [hne 1 (by omega)]; exact h.2.1) (by unfold nB; rw [hne 5 (by omega)]) (by unfold nP; rw [hne 6 (by omega)]) (fun p _ => ⟨hne _ (by omega), hne _ (by omega), hne _ (by omega)⟩) (fun b _ => ?_)
  have e : bo (va_up w k v) b 1 = bo w b 1 := hne _ (by omega)
  omega
theorem InvM.how {w : Nat → Int} (h : InvM m9 w) {b : Nat} {v : Int} (hb : b < nB w) (h1 : 0 ≤ v) (h2 : v ≤ 2) : InvM m9 (sbo w b 3 v) := by
  have hb8 := h.1.bNe
  refine h.keep (h.1.setB (k := 3) hb (by omega) (by omega) (by omega) (by omega) (by omega)) (by rw [sbo_lo (by omega)]; exact h.2.1) sbo_bN sbo_pN (fun p _ => ⟨sbo_pa (by omega) (by omega), sbo_pa (by omega) (by omega), sbo_pa (by omega) (by omega)⟩) (fun b' _ => ?_)
  rw [sbo_bo (by omega) (by omega), if_neg (by omega)]
  exact Int.le_refl _
theorem InvM.fil {w : Nat → Int} (h : InvM m9 w) {b : Nat} {g : Int} (hb : b < nB w) (h1 : 1 ≤ g) (hc : canF w b g = true) : InvM m9 (fillW w b g) := by
  have hb8 := h.1.bNe
  have hg := h.1.gas
  simp only [canF, Bool.and_eq_true, decide_eq_true_eq] at hc
  have hl := (h.1.bs b hb).2.1
  have a : InvM m9 (fi1 w b g) := by
    refine h.keep (h.1.setB (k := 1) hb (by omega) (by omega) (by omega) (by omega) (by omega)) ?_ sbo_bN sbo_pN (fun p _ => ⟨sbo_pa (by omega) (by omega), sbo_pa (by omega) (by omega), sbo_pa (by omega) (by omega)⟩) (fun b' _ => ?_)
    · show sbo w b 1 _ 1 ≤ m9
      rw [sbo_lo (by omega)]; exact h.2.1
    · show bo w b' 1 ≤ bo (sbo w b 1 (bo w b 1 + g)) b' 1
      rw [sbo_bo (by omega) (by omega)]
      split
      · rename_i e; rw [e.1]; omega
      · exact Int.le_refl _
  have e : fi1 w b g 2 = w 2 := sbo_lo (by omega)
  have a2 : InvM m9 (fi2 w b g) := a.setS (k := 2) (by omega) (by omega) (by rw [e]; omega) (by omega) (by omega) (by omega) (by omega)
  exact a2.setA (by omega)
/-- behind a change of one balloon's own load or lift: the others are as before -/
theorem InvM.one {w u : Nat → Int} (h : InvM m9 w) (h0 : Inv0 u) (h1 : u 1 ≤ m9) (hB : nB u = nB w) {b : Nat} (ho : ∀ b', b' < nB w → ¬ b' = b → loadOf u b' = loadOf w b' ∧ knots u b' = knots w b' ∧ bo u b' 1 = bo w b' 1) (hb : loadOf u b < bo u b 1 ∧ knots u b ≤ 4) : InvM m9 u := by
  refine ⟨h0, h1, fun b' hb' => ?_⟩
  rw [hB] at hb'
  by_cases e : b' = b
  · rw [e]; exact hb
  · obtain ⟨e1, e2, e3⟩ := ho b' hb' e
    rw [e1, e2, e3]
    exact h.2.2 b' hb'
theorem put_tied {w : Nat → Int} {q p b : Nat} {wh : Int} : tied (putP w q 1 wh) p b = if p = q then decide (wh = (b : Int)) else tied w p b := by
  have e4 : pa (putP w q 1 wh) p 4 = if p = q then 1 else pa w p 4 := by rw [put_pa (by omega)]; simp
  have e5 : pa (putP w q 1 wh) p 5 = if p = q then wh else pa w p 5 := by rw [put_pa (by omega)]; simp
  unfold tied
  rw [e4, e5]
  by_cases e : p = q <;> simp [e]
theorem put_pa0 {w : Nat → Int} {q p k : Nat} {st wh : Int} (hk : k < 4) : pa (putP w q st wh) p k = pa w p k := by
  rw [put_pa (by omega), if_neg (by omega), if_neg (by omega)]
theorem InvM.tie {w : Nat → Int} (h : InvM m9 w) {p b : Nat} (hp : p < nP w) (hb : b < nB w) (hy : whyT w p b = 0) : InvM m9 (putP w p 1 ((b : Nat) : Int)) := by
  obtain ⟨y1, y2, y3, y4, y5⟩ := whyT_0 hy
  have hb8 := h.1.bNe
  have hp8 := h.1.pNe
  have htp : ∀ b', tied w p b' = false := fun b' => untied_iff.mpr (by omega)
  have hL : ∀ b', loadOf (putP w p 1 ((b : Nat) : Int)) b' = loadOf w b' + (if b = b' then pa w p 0 else 0) := fun b' => by
    have h9 := itF_one (g := loadG w b') (g' := loadG (putP w p 1 ((b : Nat) : Int)) b') loadG_f loadG_f (q := p) (n := nP w) (fun q hq hn => by
      rw [put_tied, if_neg hn, put_pa0 (by omega)])
    have e1 : loadOf (putP w p 1 ((b : Nat) : Int)) b' = itF (loadG (putP w p 1 ((b : Nat) : Int)) b') 0 (nP w) 0 := by unfold loadOf; rw [put_pN]
    rw [e1, h9, if_pos hp]
    show loadOf w b' + _ = _
    rw [put_tied, if_pos rfl, htp b', put_pa0 (by omega)]
    by_cases e : b = b'
    · subst e; simp
    · have e2 : ¬ ((b : Nat) : Int) = (b' : Int) := by omega
      simp [e, e2]
  have hK : ∀ b', knots (putP w p 1 ((b : Nat) : Int)) b' = knots w b' + (if b = b' then 1 else 0) := fun b' => by
    have h9 := itF_one (g := knotG w b') (g' := knotG (putP w p 1 ((b : Nat) : Int)) b') knotG_f knotG_f (q := p) (n := nP w) (fun q hq hn => by
      rw [put_tied, if_neg hn])
    have e1 : knots (putP w p 1 ((b : Nat) : Int)) b' = itF (knotG (putP w p 1 ((b : Nat) : Int)) b') 0 (nP w) 0 := by unfold knots; rw [put_pN]
    rw [e1, h9, if_pos hp]
    show knots w b' + _ = _
    rw [put_tied, if_pos rfl, htp b']
    by_cases e : b = b'
    · subst e; simp
    · have e2 : ¬ ((b : Nat) : Int) = (b' : Int) := by omega
      simp [e, e2]
  have hkb := (h.2.2 b hb).2
  refine h.one (b := b) (h.1.setP hp (by omega) (Or.inr (Or.inl ⟨rfl, by omega, by omega⟩))) (by rw [put_lo (by omega)]; exact h.2.1) put_bN (fun b' hb' hn => ?_) ?_
  · rw [hL, hK, if_neg (Ne.symm hn), if_neg (Ne.symm hn), put_bo (by omega) (by omega)]
    exact ⟨by omega, by omega, rfl⟩
  · rw [hL, hK, if_pos rfl, if_pos rfl, put_bo (by omega) (by omega)]
    unfold spare at y5
    exact ⟨by omega, by omega⟩
theorem InvM.unt {w : Nat → Int} (h : InvM m9 w) {q b : Nat} (hq : q < nP w) (hb : b < nB w) (ht : tied w q b = true) : InvM m9 (untW w q) := by
  have hb8 := h.1.bNe
  refine ⟨h.1.unt hb hq ht, by rw [unt_lo (by omega)]; exact h.2.1, fun b' hb' => ?_⟩
  rw [unt_bN] at hb'
  have h1 := h.2.2 b' hb'
  have h2 := (h.1.ps q hq).1
  rw [unt_load hq ht, unt_knots hq ht, unt_bo (by omega) (by omega)]
  split <;> omega
/-- relieving: the balloon is light behind it, the others as before -/
theorem relF_light {b : Nat} : ∀ {m : Nat} {w : Nat → Int} {n : Int}, Inv0 w → b < nB w → knots w b ≤ m → 0 < spare (relF b m w n).1 b ∧ knots (relF b m w n).1 b ≤ knots w b ∧ ∀ b', ¬ b' = b → loadOf (relF b m w n).1 b' = loadOf w b' ∧ knots (relF b m w n).1 b' = knots w b'
  | 0, w, n, hI, hb, hk => by
    refine ⟨?_, Int.le_refl _, fun _ _ => ⟨rfl, rfl⟩⟩
    show 0 < spare w b
    refine Classical.byContradiction fun hn => load_pos hI hb hn (knot0_load (by omega))
  | m + 1, w, n, hI, hb, hk => by
    by_cases hs : 0 < spare w b
    · rw [relF, if_pos hs]
      exact ⟨hs, Int.le_refl _, fun _ _ => ⟨rfl, rfl⟩⟩
    · rw [relF, if_neg hs]
      obtain ⟨q, h1, h2, h3⟩ := heavy_some (load_pos hI hb hs)
      rw [h2, Int.toNat_natCast]
      have hkn := unt_knots (b' := b) h1 h3
      rw [if_pos rfl] at hkn
      obtain ⟨a1, a2, a3⟩ := relF_light (b := b) (m := m) (n := n + 1) (hI.unt hb h1 h3) (by rw [unt_bN]; exact hb) (by omega)
      refine ⟨a1, by omega, fun b' hn => ?_⟩
      obtain ⟨e1, e2⟩ := a3 b' hn
      rw [e1, e2, unt_load h1 h3, unt_knots h1 h3, if_neg hn, if_neg hn]
      exact ⟨by omega, by omega⟩
/-- the others' loads are light, and b's is made so -/
theorem InvM.rel {w u : Nat → Int} (h : InvM m9 w) (h0 : Inv0 u) (h1 : u 1 ≤ m9) (hB : nB u = nB w) (hP : nP u = nP w) (hp : ∀ p, p < nP w → pa u p 0 = pa w p 0 ∧ pa u p 4 = pa w p 4 ∧ pa u p 5 = pa w p 5) {b : Nat} (hb : b < nB w) (hl : ∀ b', b' < nB w → ¬ b' = b → bo u b' 1 = bo w b' 1) : InvM m9 (relW u b) := by
  have hbu : b < nB u := by omega
  have hk := h0.knot b
  obtain ⟨a1, a2, a3⟩ := relF_light (b := b) (m := 17) (n := 0) h0 hbu (by omega)
  have hlo := fun j hj => (relF_inv (b := b) (m := 17) (n := 0) h0 hbu).2 j hj
  have hb8 := h.1.bNe
  have hbo : ∀ b', b' < nB w → bo (relW u b) b' 1 = bo u b' 1 := fun b' hb' => hlo _ (by omega)
  have hc := fun b' => load_c hP hp b'
  refine h.one (b := b) (rel_inv h0 hbu) (by rw [rel_lo h0 hbu (by omega)]; exact h1) (by unfold nB; rw [rel_lo h0 hbu (by omega)]; exact hB) (fun b' hb' hn => ?_) ?_
  · obtain ⟨e1, e2⟩ := a3 b' hn
    exact ⟨e1.trans (hc b').1, e2.trans (hc b').2, (hbo b' hb').trans (hl b' hb' hn)⟩
  · have e : spare (relW u b) b = bo (relW u b) b 1 - loadOf (relW u b) b := rfl
    have h9 := (h.2.2 b hb).2
    have h10 := (hc b).2
    have a1' : 0 < spare (relW u b) b := a1
    have a2' : knots (relW u b) b ≤ knots u b := a2
    exact ⟨by omega, by omega⟩
theorem InvM.free {w : Nat → Int} (h : InvM m9 w) {b : Nat} (hb : b < nB w) : InvM m9 (freeW w b) := by
  have hb8 := h.1.bNe
  have h3 := h.how (v := 0) hb (by omega) (by omega)
  have el : bo (sbo w b 3 0) b 1 = bo w b 1 := by rw [sbo_bo (by omega) (by omega), if_neg (by omega)]
  have hl := (h.1.bs b hb).2.1
  have hm : 0 ≤ minI 2 (bo (sbo w b 3 0) b 1 - 1) ∧ minI 2 (bo (sbo w b 3 0) b 1 - 1) < bo (sbo w b 3 0) b 1 := by rw [el]; unfold minI; split <;> omega
  have hb3 : b < nB (sbo w b 3 0) := by rw [sbo_bN]; exact hb
  have h0 : Inv0 (fr1 w b) := los_inv h3.1 hb3 hm.1 hm.2
  refine h.rel h0 ?_ (los_bN.trans sbo_bN) (los_pN.trans sbo_pN) (fun p _ => ?_) hb (fun b' hb' hn => ?_)
  · show losW _ _ _ 1 ≤ m9
    rw [los_lo (by omega) (by omega), sbo_lo (by omega)]; exact h.2.1
  · exact ⟨(los_pa (by omega)).trans (sbo_pa (by omega) (by omega)), (los_pa (by omega)).trans (sbo_pa (by omega) (by omega)), (los_pa (by omega)).trans (sbo_pa (by omega) (by omega))⟩
  · show bo (losW _ b _) b' 1 = _
    rw [los_bo (by omega), if_neg (by omega), sbo_bo (by omega) (by omega), if_neg (by omega)]
theorem InvM.leak {w : Nat → Int} (h : InvM m9 w) {b : Nat} (hb : b < nB w) : InvM m9 (leakW w b) := by
  have hb8 := h.1.bNe
  have hl := (h.1.bs b hb).2.1
  obtain ⟨h1, h2⟩ := le1_inv h.1 hb
  have hbN : nB (le1 w b) = nB w := Sm.eB fun j hj => h2 j (by omega) (by omega)
  have hpN : nP (le1 w b) = nP w := Sm.eP fun j hj => h2 j (by omega) (by omega)
  have hpa : ∀ p k, pa (le1 w b) p k = pa w p k := fun p k => los_pa (by omega)
  have hbo : ∀ b', ¬ b' = b → bo (le1 w b) b' 1 = bo w b' 1 := fun b' hn => by
    show bo (losW _ _ _) _ _ = _
    rw [los_bo (by omega), if_neg (by omega)]
  have e1 : le1 w b 1 = w 1 := h2 1 (by omega) (by omega)
  have hb1 : b < nB (le1 w b) := by omega
  unfold leakW
  split
  · exact h
  · split
    · refine h.rel (h1.setB (k := 3) hb1 (by omega) (by omega) (by omega) (by omega) (by omega)) ?_ (sbo_bN.trans hbN) (sbo_pN.trans hpN) (fun p _ => ?_) hb (fun b' hb' hn => ?_)
      · rw [sbo_lo (by omega), e1]; exact h.2.1
      · rw [sbo_pa (by omega) (by omega), sbo_pa (by omega) (by omega), sbo_pa (by omega) (by omega)]
        exact ⟨hpa _ _, hpa _ _, hpa _ _⟩
      · rw [sbo_bo (by omega) (by omega), if_neg (by omega)]
        exact hbo b' hn
    · rename_i hs
      have hc := fun b' => load_c hpN (fun p _ => ⟨hpa p 0, hpa p 4, hpa p 5⟩) b'
      refine h.one (b := b) h1 (by rw [e1]; exact h.2.1) hbN (fun b' hb' hn => ⟨(hc b').1, (hc b').2, hbo b' hn⟩) ?_
      have h9 := (h.2.2 b hb).2
      have h10 := (hc b).2
      have e : spare (le1 w b) b = bo (le1 w b) b 1 - loadOf (le1 w b) b := rfl
      exact ⟨by omega, by omega⟩
theorem InvM.cas {w : Nat → Int} (h : InvM m9 w) {b : Nat} {x : Int} (hb : b < nB w) (hx : isPl w x = true) : InvM m9 (ca1 w b x) := by
  have hb8 := h.1.bNe
  refine h.keep (ca1_inv h.1 hb hx) ?_ (sbo_bN.trans sbo_bN) (sbo_pN.trans sbo_pN) (fun p _ => ?_) (fun b' _ => ?_)
  · show sbo (sbo w b 0 x) b 3 _ 1 ≤ m9
    rw [sbo_lo (by omega), sbo_lo (by omega)]; exact h.2.1
  · exact ⟨(sbo_pa (by omega) (by omega)).trans (sbo_pa (by omega) (by omega)), (sbo_pa (by omega) (by omega)).trans (sbo_pa (by omega) (by omega)), (sbo_pa (by omega) (by omega)).trans (sbo_pa (by omega) (by omega))⟩
  · show bo w b' 1 ≤ bo (sbo (sbo w b 0 x) b 3 _) b' 1
    rw [sbo_bo (by omega) (by omega), if_neg (by omega), sbo_bo (by omega) (by omega), if_neg (by omega)]
    exact Int.le_refl _
end INVM
