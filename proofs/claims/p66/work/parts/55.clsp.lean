/-! THE CLASS: balloons do not hinder each other (written by wip/whole/gen55.py) -/
/-- what matters for the balloon b is the same; S: the parcels that hung on it at first -/
def Ag (S : Nat → Bool) (b : Nat) (w u : Nat → Int) : Prop := (∀ j, j < 83 → ¬ j = 1 → ¬ j = 10 → u j = w j) ∧ (∀ k, k < 4 → bo u b k = bo w b k) ∧ (∀ p k, k < 4 → pa u p k = pa w p k) ∧ (∀ p, p < 16 → S p = true → pa u p 4 = pa w p 4 ∧ pa u p 5 = pa w p 5 ∧ (pa w p 4 = 1 → pa w p 5 = ((b : Nat) : Int))) ∧ (∀ p, p < 16 → S p = false → tied u p b = false ∧ tied w p b = false)
section AG
variable {S : Nat → Bool} {b : Nat} {w u : Nat → Int}
theorem Ag.rf : Ag (fun p => tied w p b) b w w := ⟨fun _ _ _ _ => rfl, fun _ _ => rfl, fun _ _ _ => rfl, fun p _ h => ⟨rfl, rfl, fun _ => (tied_iff.mp h).2⟩, fun p _ h => ⟨h, h⟩⟩
theorem Ag.bN (A : Ag S b w u) : nB u = nB w := by unfold nB; rw [A.1 5 (by omega) (by omega) (by omega)]
theorem Ag.pN (A : Ag S b w u) : nP u = nP w := by unfold nP; rw [A.1 6 (by omega) (by omega) (by omega)]
theorem Ag.td (A : Ag S b w u) {p : Nat} (hp : p < 16) : tied u p b = tied w p b := by
  cases hs : S p
  · obtain ⟨h1, h2⟩ := A.2.2.2.2 p hp hs
    rw [h1, h2]
  · obtain ⟨h1, h2, -⟩ := A.2.2.2.1 p hp hs
    unfold tied
    rw [h1, h2]
theorem Ag.ld (A : Ag S b w u) (hP : nP w ≤ 16) : loadOf u b = loadOf w b := by
  unfold loadOf
  rw [A.pN]
  exact itF_congr fun p a _ hp => by unfold loadG; rw [A.td (by omega), A.2.2.1 p 0 (by omega)]
theorem Ag.sp (A : Ag S b w u) (hP : nP w ≤ 16) : spare u b = spare w b := by
  unfold spare
  rw [A.ld hP, A.2.1 1 (by omega)]
theorem Ag.ht (A : Ag S b w u) (hP : nP w ≤ 16) : hOf u b = hOf w b := by
  unfold hOf
  rw [A.sp hP, A.2.1 2 (by omega)]
theorem Ag.hv (A : Ag S b w u) (hP : nP w ≤ 16) : heavy u b = heavy w b := by
  unfold heavy
  rw [A.pN]
  exact itF_congr fun p a _ hp => by unfold hvG; rw [A.td (by omega), A.2.2.1 a.toNat 0 (by omega), A.2.2.1 p 0 (by omega)]
theorem tied_c {x y : Nat → Int} {p c : Nat} (h4 : pa x p 4 = pa y p 4) (h5 : pa x p 5 = pa y p 5) : tied x p c = tied y p c := by
  unfold tied
  rw [h4, h5]
theorem Ag.cg (A : Ag S b w u) {u' : Nat → Int} (h1 : ∀ j, j < 83 → ¬ j = 1 → ¬ j = 10 → u' j = u j) (h2 : ∀ k, k < 4 → bo u' b k = bo u b k) (h3 : ∀ p k, k < 6 → pa u' p k = pa u p k) : Ag S b w u' := by
  refine ⟨fun j g1 g2 g3 => (h1 j g1 g2 g3).trans (A.1 j g1 g2 g3), fun k g => (h2 k g).trans (A.2.1 k g), fun p k g => (h3 p k (by omega)).trans (A.2.2.1 p k g), fun p g1 g2 => ?_, fun p g1 g2 => ?_⟩
  · rw [h3 p 4 (by omega), h3 p 5 (by omega)]; exact A.2.2.2.1 p g1 g2
  · rw [tied_c (h3 p 4 (by omega)) (h3 p 5 (by omega))]; exact A.2.2.2.2 p g1 g2
theorem Ag.cw (A : Ag S b w u) {w' : Nat → Int} (h1 : ∀ j, j < 83 → ¬ j = 1 → ¬ j = 10 → w' j = w j) (h2 : ∀ k, k < 4 → bo w' b k = bo w b k) (h3 : ∀ p k, k < 6 → pa w' p k = pa w p k) : Ag S b w' u := by
  refine ⟨fun j g1 g2 g3 => (A.1 j g1 g2 g3).trans (h1 j g1 g2 g3).symm, fun k g => (A.2.1 k g).trans (h2 k g).symm, fun p k g => (A.2.2.1 p k g).trans (h3 p k (by omega)).symm, fun p g1 g2 => ?_, fun p g1 g2 => ?_⟩
  · rw [h3 p 4 (by omega), h3 p 5 (by omega)]; exact A.2.2.2.1 p g1 g2
  · rw [tied_c (h3 p 4 (by omega)) (h3 p 5 (by omega))]; exact A.2.2.2.2 p g1 g2
theorem Ag.tk1 (A : Ag S b w u) : Ag S b w (tkW u) := A.cg (fun j _ g _ => vu_ne g) (fun k _ => tk_bo) (fun p k _ => tk_pa)
theorem Ag.tkw (A : Ag S b w u) : Ag S b (tkW w) u := A.cw (fun j _ g _ => vu_ne g) (fun k _ => tk_bo) (fun p k _ => tk_pa)
theorem Ag.v10 (A : Ag S b w u) {x y : Int} : Ag S b (va_up w 10 x) (va_up u 10 y) := (A.cg (u' := va_up u 10 y) (fun j _ _ g => vu_ne g) (fun k _ => vu_ne (by omega)) (fun p k _ => vu_ne (by omega))).cw (fun j _ _ g => vu_ne g) (fun k _ => vu_ne (by omega)) (fun p k _ => vu_ne (by omega))
/-! the same is done to both -/
theorem Ag.sb2 (A : Ag S b w u) {k : Nat} {v : Int} (hb : b < 8) (hk : k < 4) : Ag S b (sbo w b k v) (sbo u b k v) := by
  have hp : ∀ (x : Nat → Int) p j, pa (sbo x b k v) p j = pa x p j := fun x p j => sbo_pa hb hk
  have ht : ∀ (x : Nat → Int) p, tied (sbo x b k v) p b = tied x p b := fun x p => tied_c (hp x p 4) (hp x p 5)
  refine ⟨fun j h1 h2 h3 => ?_, fun j hj => ?_, fun p j hj => ?_, fun p h1 h2 => ?_, fun p h1 h2 => ?_⟩
  · rw [sbo_lo h1, sbo_lo h1]; exact A.1 j h1 h2 h3
  · rw [sbo_bo hk hj, sbo_bo hk hj, A.2.1 j hj]
  · rw [hp, hp]; exact A.2.2.1 p j hj
  · rw [hp, hp, hp, hp]; exact A.2.2.2.1 p h1 h2
  · rw [ht, ht]; exact A.2.2.2.2 p h1 h2
theorem Ag.ls2 (A : Ag S b w u) {l : Int} (hb : b < 8) : Ag S b (losW w b l) (losW u b l) := by
  unfold losW
  rw [A.2.1 1 (by omega)]
  exact (A.sb2 hb (by omega)).v10
theorem Ag.ut2 (A : Ag S b w u) (hb : b < 8) {q : Nat} (hq : q < 16) (ht : tied w q b = true) : Ag S b (untW w q) (untW u q) := by
  have htu : tied u q b = true := by rw [A.td hq]; exact ht
  obtain ⟨e1, e2⟩ := tied_iff.mp ht
  obtain ⟨f1, f2⟩ := tied_iff.mp htu
  have hw : untW w q = putP w q 0 (bo w b 0) := by unfold untW; rw [e2, Int.toNat_natCast]
  have hu : untW u q = putP u q 0 (bo w b 0) := by unfold untW; rw [f2, Int.toNat_natCast, A.2.1 0 (by omega)]
  rw [hw, hu]
  refine ⟨fun j h1 h2 h3 => ?_, fun k hk => ?_, fun p k hk => ?_, fun p h1 h2 => ?_, fun p h1 h2 => ?_⟩
  · rw [put_lo (by omega), put_lo (by omega)]; exact A.1 j h1 h2 h3
  · rw [put_bo hb hk, put_bo hb hk]; exact A.2.1 k hk
  · rw [put_pa0 hk, put_pa0 hk]; exact A.2.2.1 p k hk
  · have e4 : ∀ (x : Nat → Int), pa (putP x q 0 (bo w b 0)) p 4 = if p = q then 0 else pa x p 4 := fun x => by rw [put_pa (by omega)]; simp
    have e5 : ∀ (x : Nat → Int), pa (putP x q 0 (bo w b 0)) p 5 = if p = q then bo w b 0 else pa x p 5 := fun x => by rw [put_pa (by omega)]; simp
    rw [e4, e4, e5, e5]
    by_cases e : p = q
    · rw [if_pos e, if_pos e, if_pos e, if_pos e]
      exact ⟨rfl, rfl, fun h => absurd h (by decide)⟩
    · rw [if_neg e, if_neg e, if_neg e, if_neg e]
      exact A.2.2.2.1 p h1 h2
  · have hn : ¬ p = q := fun e => by
      have h9 := (A.2.2.2.2 p h1 h2).2
      rw [e, ht] at h9
      cases h9
    have hx : ∀ (x : Nat → Int), tied (putP x q 0 (bo w b 0)) p b = tied x p b := fun x => tied_c (by rw [put_pa (by omega), if_neg (by omega), if_neg (by omega)]) (by rw [put_pa (by omega), if_neg (by omega), if_neg (by omega)])
    rw [hx, hx]
    exact A.2.2.2.2 p h1 h2
end AG
theorem Ag.rl2 {S : Nat → Bool} {b : Nat} : ∀ {m : Nat} {w u : Nat → Int} {n : Int}, Ag S b w u → Inv0 w → b < nB w → Ag S b (relF b m w n).1 (relF b m u n).1
  | 0, _, _, _, A, _, _ => A
  | m + 1, w, u, n, A, hI, hb => by
    have hP := hI.pNe.2
    have hb8 := hI.bNe
    by_cases hs : 0 < spare w b
    · rw [relF, if_pos hs, relF, if_pos (by rw [A.sp hP]; exact hs)]
      exact A
    · obtain ⟨q, h1, h2, h3⟩ := heavy_some (load_pos hI hb hs)
      rw [relF, if_neg hs, relF, if_neg (by rw [A.sp hP]; exact hs), A.hv hP, h2, Int.toNat_natCast]
      exact Ag.rl2 (A.ut2 (by omega) (by omega) h3) (hI.unt hb h1 h3) (by rw [unt_bN]; exact hb)
theorem Ag.lk2 {S : Nat → Bool} {b : Nat} {w u : Nat → Int} (A : Ag S b w u) (hI : Inv0 w) (hb : b < nB w) : Ag S b (leakW w b) (leakW u b) := by
  have hb8 := hI.bNe
  have hA1 : Ag S b (le1 w b) (le1 u b) := by
    unfold le1
    rw [A.2.1 1 (by omega)]
    exact A.ls2 (by omega)
  obtain ⟨h1, h2⟩ := le1_inv hI hb
  have hbl : b < nB (le1 w b) := by rw [Sm.eB fun j hj => h2 j (by omega) (by omega)]; exact hb
  have hPl : nP (le1 w b) ≤ 16 := h1.pNe.2
  unfold leakW
  rw [A.2.1 3 (by omega), A.2.1 1 (by omega), hA1.sp hPl]
  by_cases c1 : ¬ bo w b 3 = 1
  · rw [if_pos c1, if_pos c1]; exact A
  · rw [if_neg c1, if_neg c1]
    by_cases c2 : bo w b 1 = 1 ∨ ¬ 0 < spare (le1 w b) b
    · rw [if_pos c2, if_pos c2]
      exact Ag.rl2 (hA1.sb2 (by omega) (by omega)) (h1.setB (k := 3) hbl (by omega) (by omega) (by omega) (by omega) (by omega)) (by rw [sbo_bN]; exact hbl)
    · rw [if_neg c2, if_neg c2]; exact hA1
theorem Ag.pl {S : Nat → Bool} {b : Nat} {w u : Nat → Int} (A : Ag S b w u) (x : Int) : isPl u x = isPl w x := by
  unfold isPl
  rw [A.1 0 (by omega) (by omega) (by omega)]
theorem Ag.ca2 {S : Nat → Bool} {b : Nat} {w u : Nat → Int} (A : Ag S b w u) (hI : Inv0 w) (hb : b < nB w) {x : Int} (hx : isPl w x = true) : Ag S b (ca1 w b x) (ca1 u b x) := by
  have hb8 := hI.bNe
  have x0 := hI.len
  have h1 := isPl_iff.mp hx
  have A1 : Ag S b (sbo w b 0 x) (sbo u b 0 x) := A.sb2 (by omega) (by omega)
  unfold ca1
  rw [A1.1 (53 + x.toNat) (by omega) (by omega) (by omega), A1.ht (by rw [sbo_pN]; exact hI.pNe.2)]
  exact A1.sb2 (by omega) (by omega)
theorem Ag.cr2 {S : Nat → Bool} {b : Nat} {sense : Int} : ∀ {m : Nat} {w u : Nat → Int}, Ag S b w u → Inv0 w → b < nB w → Ag S b (carF b sense m w) (carF b sense m u)
  | 0, _, _, A, _, _ => A
  | m + 1, w, u, A, hI, hb => by
    have x0 := hI.len
    have hP := hI.pNe.2
    unfold carF
    rw [A.2.1 3 (by omega), A.2.1 0 (by omega), A.pl, A.ht hP]
    by_cases c1 : ¬ bo w b 3 = 1
    · rw [if_pos c1, if_pos c1]; exact A
    · rw [if_neg c1, if_neg c1]
      by_cases c2 : isPl w (bo w b 0 + sense) = false
      · rw [if_pos c2, if_pos c2]; exact A
      · rw [if_neg c2, if_neg c2]
        have c2' : isPl w (bo w b 0 + sense) = true := by simpa using c2
        have h1 := isPl_iff.mp c2'
        rw [A.1 (23 + (bo w b 0 + sense).toNat) (by omega) (by omega) (by omega)]
        by_cases c3 : hOf w b < w (23 + (bo w b 0 + sense).toNat)
        · rw [if_pos c3, if_pos c3]; exact A
        · rw [if_neg c3, if_neg c3]
          have h4 : Sm w (ca1 w b (bo w b 0 + sense)) := fun j hj => by unfold ca1; rw [sbo_lo hj, sbo_lo hj]
          exact Ag.cr2 (A.ca2 hI hb c2') (ca1_inv hI hb c2') (by rw [Sm.eB fun j hj => h4 j (by omega)]; exact hb)
theorem Ag.gu {S : Nat → Bool} {b : Nat} {w u : Nat → Int} (A : Ag S b w u) (hI : Inv0 w) (hh : u 1 = w 1) : gustI u (u 1) = gustI w (w 1) := by
  have x4 := hI.gn
  unfold gustI
  rw [A.1 4 (by omega) (by omega) (by omega), hh]
  by_cases e : w 4 = 0
  · rw [if_pos e, if_pos e]
  · rw [if_neg e, if_neg e]
    have h1 := Int.emod_nonneg (w 1) (b := w 4) (by omega)
    have h2 := Int.emod_lt_of_pos (w 1) (b := w 4) (by omega)
    exact A.1 _ (by omega) (by omega) (by omega)
theorem Ag.dr2 {S : Nat → Bool} {b : Nat} {w u : Nat → Int} (A : Ag S b w u) (hI : Inv0 w) (hb : b < nB w) (hh : u 1 = w 1) : Ag S b (drG b w) (drG b u) := by
  unfold drG carW
  rw [A.2.1 3 (by omega), A.gu hI hh]
  by_cases c1 : bo w b 3 = 1
  · rw [if_pos c1, if_pos c1]; exact Ag.cr2 A hI hb
  · rw [if_neg c1, if_neg c1]; exact A
/-! something is done to another balloon c -/
section ONE
variable {S : Nat → Bool} {b c : Nat} {w u : Nat → Int}
theorem Ag.sb1 (A : Ag S b w u) {k : Nat} {v : Int} (hc : ¬ c = b) (h8 : c < 8) (hk : k < 4) : Ag S b w (sbo u c k v) := A.cg (fun j h _ _ => sbo_lo h) (fun k' h => by rw [sbo_bo hk h, if_neg (by omega)]) (fun p k' _ => sbo_pa h8 hk)
theorem Ag.ls1 (A : Ag S b w u) {l : Int} (hc : ¬ c = b) (h8 : c < 8) : Ag S b w (losW u c l) := A.cg (fun j h _ h10 => los_lo h h10) (fun k' h => by rw [los_bo h, if_neg (by omega)]) (fun p k' _ => los_pa h8)
theorem Ag.ut1 (A : Ag S b w u) {q : Nat} (hc : ¬ c = b) (hb : b < 8) (hq : q < 16) (ht : tied u q c = true) : Ag S b w (untW u q) := by
  obtain ⟨e1, e2⟩ := tied_iff.mp ht
  have hS : S q = false := by
    cases hs : S q
    · rfl
    · obtain ⟨f1, f2, f3⟩ := A.2.2.2.1 q hq hs
      have f4 := f3 (by omega)
      omega
  refine ⟨fun j h1 h2 h3 => ?_, fun k hk => ?_, fun p k hk => ?_, fun p h1 h2 => ?_, fun p h1 h2 => ?_⟩
  · rw [unt_lo (by omega)]; exact A.1 j h1 h2 h3
  · rw [unt_bo hb hk]; exact A.2.1 k hk
  · rw [unt_pa0 hk]; exact A.2.2.1 p k hk
  · have hn : ¬ p = q := fun e => by rw [e, hS] at h2; cases h2
    have e4 : pa (untW u q) p 4 = pa u p 4 := by unfold untW; rw [put_pa (by omega), if_neg (by omega), if_neg (by omega)]
    have e5 : pa (untW u q) p 5 = pa u p 5 := by unfold untW; rw [put_pa (by omega), if_neg (by omega), if_neg (by omega)]
    rw [e4, e5]
    exact A.2.2.2.1 p h1 h2
  · rw [unt_tied]
    refine ⟨?_, (A.2.2.2.2 p h1 h2).2⟩
    split
    · rfl
    · exact (A.2.2.2.2 p h1 h2).1
end ONE
theorem Ag.rl1 {S : Nat → Bool} {b c : Nat} {w : Nat → Int} (hc : ¬ c = b) (hb : b < 8) : ∀ {m : Nat} {u : Nat → Int} {n : Int}, Ag S b w u → Inv0 u → c < nB u → Ag S b w (relF c m u n).1
  | 0, _, _, A, _, _ => A
  | m + 1, u, n, A, hI, hcn => by
    have hP := hI.pNe.2
    by_cases hs : 0 < spare u c
    · rw [relF, if_pos hs]; exact A
    · obtain ⟨q, h1, h2, h3⟩ := heavy_some (load_pos hI hcn hs)
      rw [relF, if_neg hs, h2, Int.toNat_natCast]
      exact Ag.rl1 hc hb (A.ut1 hc hb (by omega) h3) (hI.unt hcn h1 h3) (by rw [unt_bN]; exact hcn)
theorem Ag.lk1 {S : Nat → Bool} {b c : Nat} {w u : Nat → Int} (A : Ag S b w u) (hI : Inv0 u) (hc : ¬ c = b) (hb : b < 8) (hcn : c < nB u) : Ag S b w (leakW u c) := by
  have hb8 := hI.bNe
  have hA1 : Ag S b w (le1 u c) := A.ls1 hc (by omega)
  obtain ⟨h1, h2⟩ := le1_inv hI hcn
  have hcl : c < nB (le1 u c) := by rw [Sm.eB fun j hj => h2 j (by omega) (by omega)]; exact hcn
  unfold leakW
  split
  · exact A
  · split
    · exact Ag.rl1 hc hb (hA1.sb1 hc (by omega) (by omega)) (h1.setB (k := 3) hcl (by omega) (by omega) (by omega) (by omega) (by omega)) (by rw [sbo_bN]; exact hcl)
    · exact hA1
theorem Ag.cr1 {S : Nat → Bool} {b c : Nat} {w : Nat → Int} {sense : Int} (hc : ¬ c = b) : ∀ {m : Nat} {u : Nat → Int}, Ag S b w u → c < 8 → Ag S b w (carF c sense m u)
  | 0, _, A, _ => A
  | m + 1, u, A, h8 => by
    unfold carF
    split
    · exact A
    · split
      · exact A
      · split
        · exact A
        · exact Ag.cr1 hc ((A.sb1 hc h8 (by omega)).sb1 hc h8 (by omega)) h8
theorem Ag.dr1 {S : Nat → Bool} {b c : Nat} {w u : Nat → Int} (A : Ag S b w u) (hc : ¬ c = b) (h8 : c < 8) : Ag S b w (drG c u) := by
  unfold drG carW
  split
  · exact Ag.cr1 hc A h8
  · exact A
/-! an hour -/
section HR
variable {S : Nat → Bool} {b : Nat} {w u : Nat → Int}
theorem Ag.drI (A : Ag S b w u) (hIw : Inv0 w) (hIu : Inv0 u) (hb : b < nB w) (hh : u 1 = w 1) : ∀ {i : Nat}, i ≤ nB w → Ag S b (if b < i then drG b w else w) (itF drG 0 i u)
  | 0, _ => by rw [if_neg (by omega)]; exact A
  | i + 1, hi => by
    have hb8 := hIw.bNe
    have ih := Ag.drI A hIw hIu hb hh (i := i) (by omega)
    have h2 := (drI_inv hIu (b := 0) (m := i) (by rw [A.bN]; omega)).2
    rw [itF_last, Nat.zero_add]
    by_cases e : i = b
    · rw [if_pos (by omega)]
      rw [if_neg (by omega)] at ih
      have h3 := ih.dr2 hIw hb (by rw [h2 1 (by omega)]; exact hh)
      rw [e] at h3 ⊢
      exact h3
    · by_cases e2 : b < i
      · rw [if_pos (by omega)]
        rw [if_pos e2] at ih
        exact ih.dr1 e (by omega)
      · rw [if_neg (by omega)]
        rw [if_neg e2] at ih
        exact ih.dr1 e (by omega)
theorem Ag.lkI (A : Ag S b w u) (hIw : Inv0 w) (hIu : Inv0 u) (hb : b < nB w) : ∀ {i : Nat}, i ≤ nB w → Ag S b (if b < i then leakW w b else w) (itF (fun b u => leakW u b) 0 i u)
  | 0, _ => by rw [if_neg (by omega)]; exact A
  | i + 1, hi => by
    have hb8 := hIw.bNe
    have ih := Ag.lkI A hIw hIu hb (i := i) (by omega)
    obtain ⟨h1, h2⟩ := lkI_inv hIu (b := 0) (m := i) (by rw [A.bN]; omega)
    have hin : i < nB (itF (fun b u => leakW u b) 0 i u) := by rw [Sm.eB fun j hj => h2 j (by omega) (by omega), A.bN]; omega
    rw [itF_last, Nat.zero_add]
    show Ag S b _ (leakW (itF (fun b u => leakW u b) 0 i u) i)
    by_cases e : i = b
    · rw [if_pos (by omega)]
      rw [if_neg (by omega)] at ih
      have h3 := ih.lk2 hIw hb
      rw [e] at h3 ⊢
      exact h3
    · by_cases e2 : b < i
      · rw [if_pos (by omega)]
        rw [if_pos e2] at ih
        exact ih.lk1 h1 e (by omega) hin
      · rw [if_neg (by omega)]
        rw [if_neg e2] at ih
        exact ih.lk1 h1 e (by omega) hin
theorem Ag.hr (A : Ag S b w u) (hIw : Inv0 w) (hIu : Inv0 u) (hb : b < nB w) (hh : u 1 = w 1) (h9 : w 1 < 100000) : Ag S b (ohW b w) (hrW u) ∧ hrW u 1 = ohW b w 1 ∧ Inv0 (ohW b w) ∧ Inv0 (hrW u) ∧ b < nB (ohW b w) ∧ ohW b w 1 = w 1 + 1 := by
  have a1 := A.drI hIw hIu hb hh (i := nB w) (Nat.le_refl _)
  rw [if_pos hb] at a1
  have a1' : Ag S b (drG b w) (drW u) := by unfold drW; rw [A.bN]; exact a1
  obtain ⟨hI1, hS1⟩ := dr_inv hIw hb
  obtain ⟨hJ1, hT1⟩ := drW_inv hIu
  have hb1 : b < nB (drG b w) := by rw [Sm.eB fun j hj => hS1 j (by omega)]; exact hb
  have a2 : Ag S b (drG b w) (tkW (drW u)) := a1'.tk1
  have hJ2 : Inv0 (tkW (drW u)) := tk_inv hJ1 (by rw [hT1 1 (by omega), hh]; exact h9)
  have e1 : tkW (drW u) 1 = drG b w 1 + 1 := by rw [show tkW (drW u) 1 = drW u 1 + 1 from vu_at _ _ _, hT1 1 (by omega), hS1 1 (by omega), hh]
  have e3 : tkW (drW u) 3 = drG b w 3 := a2.1 3 (by omega) (by omega) (by omega)
  obtain ⟨hI2, hS2⟩ := cl_inv hI1 hb1
  have a3 : Ag S b (clW (drG b w) b) (lkW (tkW (drW u))) := by
    unfold clW lkW
    rw [e1, e3]
    by_cases hc : (drG b w 1 + 1) % drG b w 3 = 0
    · rw [if_pos hc, if_pos hc, a2.bN]
      have a4 := a2.lkI hI1 hJ2 hb1 (i := nB (drG b w)) (Nat.le_refl _)
      rw [if_pos hb1] at a4
      exact a4
    · rw [if_neg hc, if_neg hc]; exact a2
  obtain ⟨hJ3, hT3⟩ := hr_inv hIu (by rw [hh]; exact h9)
  have f1 := hT3 1 (by omega) (by omega)
  rw [if_pos rfl] at f1
  have f2 : clW (drG b w) b 1 = w 1 := (hS2 1 (by omega) (by omega)).trans (hS1 1 (by omega))
  have f3 : ohW b w 1 = w 1 + 1 := by rw [oh_1, f2]
  refine ⟨a3.tkw, by rw [f1, f3, hh], tk_inv hI2 (by rw [f2]; exact h9), hJ3, ?_, f3⟩
  show b < nB (tkW _)
  rw [tk_bN, Sm.eB fun j hj => hS2 j (by omega) (by omega)]
  exact hb1
end HR
