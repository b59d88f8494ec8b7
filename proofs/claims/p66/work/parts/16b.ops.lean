/-! THE MATHEMATICS: what is done to the row -/
def sbo (w : Nat → Int) (b k : Nat) (v : Int) : Nat → Int := va_up w (83 + 4 * b + k) v
def putP (w : Nat → Int) (p : Nat) (st wh : Int) : Nat → Int := va_up (va_up w (115 + 6 * p + 4) st) (115 + 6 * p + 5) wh
def untW (w : Nat → Int) (p : Nat) : Nat → Int := putP w p 0 (bo w (pa w p 5).toNat 0)
def hvG (w : Nat → Int) (b p : Nat) (a : Int) : Int := if tied w p b = true ∧ (a = -1 ∨ pa w a.toNat 0 < pa w p 0) then (p : Int) else a
def heavy (w : Nat → Int) (b : Nat) : Int := itF (hvG w b) 0 (nP w) (-1)
def relF (b : Nat) : Nat → (Nat → Int) → Int → (Nat → Int) × Int
  | 0, w, n => (w, n)
  | m + 1, w, n => if 0 < spare w b then (w, n) else relF b m (untW w (heavy w b).toNat) (n + 1)
def relW (w : Nat → Int) (b : Nat) : Nat → Int := (relF b 17 w 0).1
def relN (w : Nat → Int) (b : Nat) : Int := (relF b 17 w 0).2
def losW (w : Nat → Int) (b : Nat) (l : Int) : Nat → Int := va_up (sbo w b 1 (bo w b 1 - l)) 10 (sbo w b 1 (bo w b 1 - l) 10 + l)
def fr1 (w : Nat → Int) (b : Nat) : Nat → Int := losW (sbo w b 3 0) b (minI 2 (bo (sbo w b 3 0) b 1 - 1))
def freeW (w : Nat → Int) (b : Nat) : Nat → Int := relW (fr1 w b) b
def freeN (w : Nat → Int) (b : Nat) : Int := relN (fr1 w b) b
def canF (w : Nat → Int) (b : Nat) (g : Int) : Bool := decide (bo w b 3 = 0) && decide (g ≤ w 2) && decide (bo w b 1 + g ≤ 30)
def fi1 (w : Nat → Int) (b : Nat) (g : Int) : Nat → Int := sbo w b 1 (bo w b 1 + g)
def fi2 (w : Nat → Int) (b : Nat) (g : Int) : Nat → Int := va_up (fi1 w b g) 2 (fi1 w b g 2 - g)
def fillW (w : Nat → Int) (b : Nat) (g : Int) : Nat → Int := va_up (fi2 w b g) 9 (fi2 w b g 9 + g)
def blowW (w : Nat → Int) (g : Int) : Nat → Int := va_up (va_up w (11 + (w 4).toNat) g) 4 (va_up w (11 + (w 4).toNat) g 4 + 1)
def br1 (w : Nat → Int) (x l t : Int) : Nat → Int := sbo (sbo (sbo (sbo (va_up w 5 (w 5 + 1)) (nB w) 0 x) (nB w) 1 l) (nB w) 2 t) (nB w) 3 0
def brinW (w : Nat → Int) (x l t : Int) : Nat → Int := va_up (br1 w x l t) 9 (br1 w x l t 9 + l)
def po1 (w : Nat → Int) (g x z n : Int) : Nat → Int := va_up (va_up (va_up (va_up (va_up (va_up w (115 + 6 * nP w + 0) g) (115 + 6 * nP w + 1) x) (115 + 6 * nP w + 2) z) (115 + 6 * nP w + 3) n) (115 + 6 * nP w + 4) 0) (115 + 6 * nP w + 5) x
def postW (w : Nat → Int) (g x z n : Int) : Nat → Int := va_up (po1 w g x z n) 6 (po1 w g x z n 6 + 1)
def paid (w : Nat → Int) (p : Nat) : Int := if pa w p 5 = pa w p 2 then fareP w p else 0
def thr (w : Nat → Int) (p : Nat) : Int := if pa w p 5 = pa w p 2 then 1 else 0
def cl1 (w : Nat → Int) (p : Nat) : Nat → Int := va_up (putP w p 2 (-1)) 7 (putP w p 2 (-1) 7 + paid w p)
def clmW (w : Nat → Int) (p : Nat) : Nat → Int := va_up (cl1 w p) 8 (cl1 w p 8 + thr w p)
/-- one step of a gust -/
def ca1 (w : Nat → Int) (b : Nat) (x : Int) : Nat → Int := sbo (sbo w b 0 x) b 3 (if sbo w b 0 x (53 + x.toNat) < hOf (sbo w b 0 x) b then 1 else 2)
def carF (b : Nat) (sense : Int) : Nat → (Nat → Int) → (Nat → Int)
  | 0, w => w
  | m + 1, w => if ¬ bo w b 3 = 1 then w else if isPl w (bo w b 0 + sense) = false then w else if hOf w b < w (23 + (bo w b 0 + sense).toNat) then w else carF b sense m (ca1 w b (bo w b 0 + sense))
def sens (g : Int) : Int := if g < 0 then -1 else 1
def carW (w : Nat → Int) (b : Nat) (g : Int) : Nat → Int := carF b (sens g) (absI g).toNat w
def le1 (w : Nat → Int) (b : Nat) : Nat → Int := losW w b (if bo w b 1 = 1 then 0 else 1)
def leakW (w : Nat → Int) (b : Nat) : Nat → Int := if ¬ bo w b 3 = 1 then w else if bo w b 1 = 1 ∨ ¬ 0 < spare (le1 w b) b then relW (sbo (le1 w b) b 3 0) b else le1 w b
def drG (b : Nat) (w : Nat → Int) : Nat → Int := if bo w b 3 = 1 then carW w b (gustI w (w 1)) else w
def drW (w : Nat → Int) : Nat → Int := itF drG 0 (nB w) w
def tkW (w : Nat → Int) : Nat → Int := va_up w 1 (w 1 + 1)
def lkW (w : Nat → Int) : Nat → Int := if w 1 % w 3 = 0 then itF (fun b u => leakW u b) 0 (nB w) w else w
def hrW (w : Nat → Int) : Nat → Int := lkW (tkW (drW w))
def passW (w : Nat → Int) (n : Nat) : Nat → Int := itF (fun _ u => hrW u) 0 n w
/-! what the writes leave alone -/
section UPD
variable {w : Nat → Int} {b k : Nat} {v : Int}
theorem sbo_lo {j : Nat} (hj : j < 83) : sbo w b k v j = w j := vu_ne (by omega)
theorem sbo_hi {j : Nat} (hb : b < 8) (hk : k < 4) (hj : 115 ≤ j) : sbo w b k v j = w j := vu_ne (by omega)
theorem sbo_bo {b' k' : Nat} (hk : k < 4) (hk' : k' < 4) : bo (sbo w b k v) b' k' = if b' = b ∧ k' = k then v else bo w b' k' := by
  unfold bo sbo va_up
  by_cases e : b' = b ∧ k' = k
  · rw [if_pos e, if_pos (by omega)]
  · rw [if_neg e, if_neg (by omega)]
theorem sbo_pa {p k' : Nat} (hb : b < 8) (hk : k < 4) : pa (sbo w b k v) p k' = pa w p k' := sbo_hi hb hk (by omega)
theorem sbo_bN : nB (sbo w b k v) = nB w := by unfold nB; rw [sbo_lo (by omega)]
theorem sbo_pN : nP (sbo w b k v) = nP w := by unfold nP; rw [sbo_lo (by omega)]
theorem put_lo {p : Nat} {st wh : Int} {j : Nat} (hj : j < 115) : putP w p st wh j = w j := by
  unfold putP
  rw [vu_ne (by omega), vu_ne (by omega)]
theorem put_hi {p : Nat} {st wh : Int} {j : Nat} (hp : p < 16) (hj : 211 ≤ j) : putP w p st wh j = w j := by
  unfold putP
  rw [vu_ne (by omega), vu_ne (by omega)]
theorem put_pa {p : Nat} {st wh : Int} {p' k' : Nat} (hk' : k' < 6) : pa (putP w p st wh) p' k' = if p' = p ∧ k' = 4 then st else if p' = p ∧ k' = 5 then wh else pa w p' k' := by
  unfold pa putP va_up
  by_cases e : p' = p ∧ k' = 4
  · rw [if_pos e, if_neg (by omega), if_pos (by omega)]
  · rw [if_neg e]
    by_cases e2 : p' = p ∧ k' = 5
    · rw [if_pos e2, if_pos (by omega)]
    · rw [if_neg e2, if_neg (by omega), if_neg (by omega)]
theorem put_bo {p : Nat} {st wh : Int} {b' k' : Nat} (hb : b' < 8) (hk : k' < 4) : bo (putP w p st wh) b' k' = bo w b' k' := put_lo (by omega)
theorem put_bN {p : Nat} {st wh : Int} : nB (putP w p st wh) = nB w := by unfold nB; rw [put_lo (by omega)]
theorem put_pN {p : Nat} {st wh : Int} : nP (putP w p st wh) = nP w := by unfold nP; rw [put_lo (by omega)]
end UPD
/-- a number of the balloons' part set -/
theorem Inv0.setB {w : Nat → Int} (hI : Inv0 w) {b k : Nat} {v : Int} (hb : b < nB w) (hk : k < 4) (h0 : k = 0 → 0 ≤ v ∧ v < w 0) (h1 : k = 1 → 1 ≤ v ∧ v ≤ 30) (h2 : k = 2 → 1 ≤ v ∧ v ≤ 9) (h3 : k = 3 → 0 ≤ v ∧ v ≤ 2) : Inv0 (sbo w b k v) := by
  have hb8 := hI.bNe
  have hlo : ∀ j, j < 83 → sbo w b k v j = w j := fun j hj => sbo_lo hj
  have hpa : ∀ p k', pa (sbo w b k v) p k' = pa w p k' := fun p k' => sbo_pa (by omega) hk
  refine ⟨?_, ?_, ?_, ?_, ?_, ?_, ?_, fun i hi => ?_, fun i hi => ?_, fun i hi => ?_, fun b' hb' => ?_, fun p hp => ?_, fun p q hp hq hne h4 h5 => ?_, fun j hj => ?_⟩
  · rw [hlo 0 (by omega)]; exact hI.len
  · rw [hlo 1 (by omega)]; exact hI.hour
  · rw [hlo 2 (by omega)]; exact hI.gas
  · rw [hlo 3 (by omega)]; exact hI.leak
  · rw [hlo 4 (by omega)]; exact hI.gn
  · rw [hlo 5 (by omega)]; exact hI.bn
  · rw [hlo 6 (by omega)]; exact hI.pn
  · rw [hlo _ (by omega)]; exact hI.gusts i hi
  · rw [hlo _ (by omega)]; exact hI.roofs i hi
  · rw [hlo _ (by omega)]; exact hI.trees i hi
  · rw [sbo_bN] at hb'
    have h9 := hI.bs b' hb'
    rw [sbo_bo hk (by omega), sbo_bo hk (by omega), sbo_bo hk (by omega), sbo_bo hk (by omega), hlo 0 (by omega)]
    refine ⟨?_, ?_, ?_, ?_⟩
    · split
      · exact h0 (by omega)
      · exact h9.1
    · split
      · exact h1 (by omega)
      · exact h9.2.1
    · split
      · exact h2 (by omega)
      · exact h9.2.2.1
    · split
      · exact h3 (by omega)
      · exact h9.2.2.2
  · rw [sbo_pN] at hp
    rw [hpa, hpa, hpa, hpa, hpa, hpa, hlo 0 (by omega), hlo 5 (by omega)]
    exact hI.ps p hp
  · rw [sbo_pN] at hp hq
    rw [hpa] at h4 h5 ⊢
    rw [hpa]
    exact hI.uniq p q hp hq hne h4 h5
  · rw [sbo_hi (by omega) hk (by omega)]; exact hI.tail j hj
/-- the accounts 7 to 10 -/
theorem Inv0.setA {w : Nat → Int} (hI : Inv0 w) {k : Nat} {v : Int} (hk : 7 ≤ k ∧ k ≤ 10) : Inv0 (va_up w k v) := by
  have h : ∀ j, j < 7 ∨ 11 ≤ j → va_up w k v j = w j := fun j hj => vu_ne (by omega)
  have hbo : ∀ b k', bo (va_up w k v) b k' = bo w b k' := fun b k' => h _ (by omega)
  have hpa : ∀ p k', pa (va_up w k v) p k' = pa w p k' := fun p k' => h _ (by omega)
  have hbN : nB (va_up w k v) = nB w := by unfold nB; rw [h 5 (by omega)]
  have hpN : nP (va_up w k v) = nP w := by unfold nP; rw [h 6 (by omega)]
  refine ⟨?_, ?_, ?_, ?_, ?_, ?_, ?_, fun i hi => ?_, fun i hi => ?_, fun i hi => ?_, fun b' hb' => ?_, fun p hp => ?_, fun p q hp hq hne h4 h5 => ?_, fun j hj => ?_⟩
  · rw [h 0 (by omega)]; exact hI.len
  · rw [h 1 (by omega)]; exact hI.hour
  · rw [h 2 (by omega)]; exact hI.gas
  · rw [h 3 (by omega)]; exact hI.leak
  · rw [h 4 (by omega)]; exact hI.gn
  · rw [h 5 (by omega)]; exact hI.bn
  · rw [h 6 (by omega)]; exact hI.pn
  · rw [h _ (by omega)]; exact hI.gusts i hi
  · rw [h _ (by omega)]; exact hI.roofs i hi
  · rw [h _ (by omega)]; exact hI.trees i hi
  · rw [hbN] at hb'
    rw [hbo, hbo, hbo, hbo, h 0 (by omega)]
    exact hI.bs b' hb'
  · rw [hpN] at hp
    rw [hpa, hpa, hpa, hpa, hpa, hpa, h 0 (by omega), h 5 (by omega)]
    exact hI.ps p hp
  · rw [hpN] at hp hq
    rw [hpa] at h4 h5 ⊢
    rw [hpa]
    exact hI.uniq p q hp hq hne h4 h5
  · rw [h j (by omega)]; exact hI.tail j hj
theorem Inv0.setP {w : Nat → Int} (hI : Inv0 w) {p : Nat} {st wh : Int} (hp : p < nP w) (hc : ¬ pa w p 4 = 2) (hv : (st = 0 ∧ 0 ≤ wh ∧ wh < w 0) ∨ (st = 1 ∧ 0 ≤ wh ∧ wh < w 5) ∨ (st = 2 ∧ wh = -1)) : Inv0 (putP w p st wh) := by
  have hp8 := hI.pNe
  have hb8 := hI.bNe
  have h : ∀ j, j < 115 → putP w p st wh j = w j := fun j hj => put_lo hj
  refine ⟨?_, ?_, ?_, ?_, ?_, ?_, ?_, fun i hi => ?_, fun i hi => ?_, fun i hi => ?_, fun b' hb' => ?_, fun q hq => ?_, fun q r hq hr hne h4 h5 => ?_, fun j hj => ?_⟩
  · rw [h 0 (by omega)]; exact hI.len
  · rw [h 1 (by omega)]; exact hI.hour
  · rw [h 2 (by omega)]; exact hI.gas
  · rw [h 3 (by omega)]; exact hI.leak
  · rw [h 4 (by omega)]; exact hI.gn
  · rw [h 5 (by omega)]; exact hI.bn
  · rw [h 6 (by omega)]; exact hI.pn
  · rw [h _ (by omega)]; exact hI.gusts i hi
  · rw [h _ (by omega)]; exact hI.roofs i hi
  · rw [h _ (by omega)]; exact hI.trees i hi
  · rw [put_bN] at hb'
    rw [put_bo (by omega) (by omega), put_bo (by omega) (by omega), put_bo (by omega) (by omega), put_bo (by omega) (by omega), h 0 (by omega)]
    exact hI.bs b' hb'
  · rw [put_pN] at hq
    have h9 := hI.ps q hq
    rw [put_pa (by omega), put_pa (by omega), put_pa (by omega), put_pa (by omega), put_pa (by omega), put_pa (by omega), h 0 (by omega), h 5 (by omega)]
    simp only [Nat.reduceEqDiff, and_false, if_false, and_true]
    refine ⟨h9.1, h9.2.1, h9.2.2.1, h9.2.2.2.1, ?_⟩
    by_cases e : q = p
    · rw [if_pos e, if_pos e]; exact hv
    · rw [if_neg e, if_neg e]; exact h9.2.2.2.2
  · rw [put_pN] at hq hr
    rw [put_pa (by omega)] at h4 h5 ⊢
    rw [put_pa (by omega)]
    simp only [Nat.reduceEqDiff, and_false, if_false, and_true] at h4 h5 ⊢
    refine hI.uniq q r hq hr hne ?_ ?_
    · by_cases e : q = p
      · rw [e]; exact hc
      · rw [if_neg e] at h4; exact h4
    · by_cases e : r = p
      · rw [e]; exact hc
      · rw [if_neg e] at h5; exact h5
  · rw [put_hi (by omega) (by omega)]; exact hI.tail j hj
