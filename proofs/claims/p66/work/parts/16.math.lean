/-! THE MATHEMATICS: the street as a row of 211 numbers w (the reference's own lay-out) -/
def bo (w : Nat → Int) (b k : Nat) : Int := w (83 + 4 * b + k)
def pa (w : Nat → Int) (p k : Nat) : Int := w (115 + 6 * p + k)
def itF {α : Type} (g : Nat → α → α) : Nat → Nat → α → α
  | _, 0, a => a
  | i, m + 1, a => itF g (i + 1) m (g i a)
def fiF (f : Nat → Bool) : Nat → Nat → Int
  | _, 0 => -1
  | i, m + 1 => if f i = true then (i : Int) else fiF f (i + 1) m
theorem itF_step {α : Type} {g : Nat → α → α} {i m : Nat} {a a' : α} (h : g i a = a') : itF g i (m + 1) a = itF g (i + 1) m a' := by
  subst h
  rfl
theorem itF_last {α : Type} {g : Nat → α → α} : ∀ {m i : Nat} {a : α}, itF g i (m + 1) a = g (i + m) (itF g i m a)
  | 0, _, _ => rfl
  | m + 1, i, a => by
    show itF g (i + 1) (m + 1) (g i a) = g (i + (m + 1)) (itF g (i + 1) m (g i a))
    rw [itF_last, show i + 1 + m = i + (m + 1) by omega]
theorem itF_congr {α : Type} {g g' : Nat → α → α} : ∀ {m i : Nat} {a : α}, (∀ p a, i ≤ p → p < i + m → g p a = g' p a) → itF g i m a = itF g' i m a
  | 0, _, _, _ => rfl
  | m + 1, i, a, h => by
    show itF g (i + 1) m (g i a) = itF g' (i + 1) m (g' i a)
    rw [h i a (Nat.le_refl _) (by omega)]
    exact itF_congr fun p a h1 h2 => h p a (by omega) (by omega)
theorem itF_ind {α : Type} {g : Nat → α → α} {P : Nat → α → Prop} : ∀ {m i : Nat} {a : α}, P i a → (∀ p a, i ≤ p → p < i + m → P p a → P (p + 1) (g p a)) → P (i + m) (itF g i m a)
  | 0, _, _, h0, _ => h0
  | m + 1, i, a, h0, h => by
    have := itF_ind (g := g) (P := P) (m := m) (i := i + 1) (a := g i a) (h i a (Nat.le_refl _) (by omega) h0) (fun p a h1 h2 => h p a (by omega) (by omega))
    rw [show i + (m + 1) = i + 1 + m by omega]
    exact this
theorem fiF_y {f : Nat → Bool} {i m : Nat} (h : f i = true) : fiF f i (m + 1) = (i : Int) := if_pos h
theorem fiF_n {f : Nat → Bool} {i m : Nat} (h : f i = false) : fiF f i (m + 1) = fiF f (i + 1) m := if_neg (by rw [h]; simp)
theorem fiF_spec {f : Nat → Bool} : ∀ {m i : Nat}, (fiF f i m = -1 ∧ ∀ p, i ≤ p → p < i + m → f p = false) ∨ ∃ p, i ≤ p ∧ p < i + m ∧ fiF f i m = (p : Int) ∧ f p = true ∧ ∀ q, i ≤ q → q < p → f q = false
  | 0, i => Or.inl ⟨rfl, fun p h1 h2 => by omega⟩
  | m + 1, i => by
    cases hf : f i
    · rw [fiF_n hf]
      rcases fiF_spec (f := f) (m := m) (i := i + 1) with ⟨h1, h2⟩ | ⟨p, h1, h2, h3, h4, h5⟩
      · refine Or.inl ⟨h1, fun p g1 g2 => ?_⟩
        by_cases e : p = i
        · rw [e]; exact hf
        · exact h2 p (by omega) (by omega)
      · refine Or.inr ⟨p, by omega, by omega, h3, h4, fun q g1 g2 => ?_⟩
        by_cases e : q = i
        · rw [e]; exact hf
        · exact h5 q (by omega) g2
    · rw [fiF_y hf]
      exact Or.inr ⟨i, Nat.le_refl _, by omega, rfl, hf, fun q h1 h2 => by omega⟩
theorem fiF_ge {f : Nat → Bool} {i m : Nat} : -1 ≤ fiF f i m := by
  rcases fiF_spec (f := f) (m := m) (i := i) with ⟨h1, -⟩ | ⟨p, -, -, h, -⟩ <;> omega
theorem fiF_lt {f : Nat → Bool} {i m : Nat} : fiF f i m < i + m := by
  rcases fiF_spec (f := f) (m := m) (i := i) with ⟨h1, -⟩ | ⟨p, -, h0, h, -⟩ <;> omega
def nP (w : Nat → Int) : Nat := (w 6).toNat
def nB (w : Nat → Int) : Nat := (w 5).toNat
def tied (w : Nat → Int) (p b : Nat) : Bool := decide (pa w p 4 = 1) && decide (pa w p 5 = (b : Int))
def lies (w : Nat → Int) (p : Nat) (x : Int) : Bool := decide (pa w p 4 = 0) && decide (pa w p 5 = x)
def loadG (w : Nat → Int) (b p : Nat) (a : Int) : Int := a + (if tied w p b = true then pa w p 0 else 0)
def loadOf (w : Nat → Int) (b : Nat) : Int := itF (loadG w b) 0 (nP w) 0
def knotG (w : Nat → Int) (b p : Nat) (a : Int) : Int := a + (if tied w p b = true then 1 else 0)
def knots (w : Nat → Int) (b : Nat) : Int := itF (knotG w b) 0 (nP w) 0
def spare (w : Nat → Int) (b : Nat) : Int := bo w b 1 - loadOf w b
def minI (x y : Int) : Int := if x ≤ y then x else y
def hOf (w : Nat → Int) (b : Nat) : Int := minI (bo w b 2) (spare w b)
def plOf (w : Nat → Int) (p : Nat) : Int := if pa w p 4 = 0 then pa w p 5 else if pa w p 4 = 1 then bo w (pa w p 5).toNat 0 else -1
def numF (w : Nat → Int) (n : Int) (p : Nat) : Bool := !(decide (pa w p 4 = 2)) && decide (pa w p 3 = n)
def numbd (w : Nat → Int) (n : Int) : Int := fiF (numF w n) 0 (nP w)
def foundP (w : Nat → Int) (x n : Int) : Int := if numbd w n = -1 then -1 else if lies w (numbd w n).toNat x = true then numbd w n else -1
def gustI (w : Nat → Int) (hr : Int) : Int := if w 4 = 0 then 0 else w (11 + (hr % w 4).toNat)
def absI (x : Int) : Int := if x < 0 then -x else x
def fareP (w : Nat → Int) (p : Nat) : Int := pa w p 0 * absI (pa w p 1 - pa w p 2)
def whyT (w : Nat → Int) (p b : Nat) : Int := if ¬ pa w p 4 = 0 then 1 else if ¬ bo w b 3 = 0 then 2 else if ¬ pa w p 5 = bo w b 0 then 3 else if knots w b = 4 then 4 else if pa w p 0 < spare w b then 0 else 5
def whyL (w : Nat → Int) (b : Nat) : Int := if ¬ bo w b 3 = 0 then 2 else if w (53 + (bo w b 0).toNat) < hOf w b then 0 else 6
def isPl (w : Nat → Int) (x : Int) : Bool := decide (0 ≤ x) && decide (x ≤ w 0 - 1)
def isBa (w : Nat → Int) (x : Int) : Bool := decide (0 ≤ x) && decide (x ≤ w 5 - 1)
def isPa (w : Nat → Int) (x : Int) : Bool := decide (0 ≤ x) && decide (x ≤ w 6 - 1)
def inB (x l m : Int) : Bool := decide (l ≤ x) && decide (x ≤ m)
/-- what always holds of the numbers, but for the loads -/
def Inv0 (w : Nat → Int) : Prop :=
  (8 ≤ w 0 ∧ w 0 ≤ 30) ∧ (0 ≤ w 1 ∧ w 1 ≤ 100000) ∧ (0 ≤ w 2 ∧ w 2 ≤ 999) ∧ (1 ≤ w 3 ∧ w 3 ≤ 9) ∧ (0 ≤ w 4 ∧ w 4 ≤ 12) ∧ (0 ≤ w 5 ∧ w 5 ≤ 8) ∧ (0 ≤ w 6 ∧ w 6 ≤ 16) ∧
  (∀ i, i < 12 → -3 ≤ w (11 + i) ∧ w (11 + i) ≤ 3) ∧ (∀ i, i < 30 → 0 ≤ w (23 + i) ∧ w (23 + i) ≤ 9) ∧ (∀ i, i < 30 → 0 ≤ w (53 + i) ∧ w (53 + i) ≤ 9) ∧
  (∀ b, b < nB w → (0 ≤ bo w b 0 ∧ bo w b 0 < w 0) ∧ (1 ≤ bo w b 1 ∧ bo w b 1 ≤ 30) ∧ (1 ≤ bo w b 2 ∧ bo w b 2 ≤ 9) ∧ (0 ≤ bo w b 3 ∧ bo w b 3 ≤ 2)) ∧
  (∀ p, p < nP w → (1 ≤ pa w p 0 ∧ pa w p 0 ≤ 9) ∧ (0 ≤ pa w p 1 ∧ pa w p 1 < w 0) ∧ (0 ≤ pa w p 2 ∧ pa w p 2 < w 0) ∧ (0 ≤ pa w p 3 ∧ pa w p 3 ≤ 99) ∧
    ((pa w p 4 = 0 ∧ 0 ≤ pa w p 5 ∧ pa w p 5 < w 0) ∨ (pa w p 4 = 1 ∧ 0 ≤ pa w p 5 ∧ pa w p 5 < w 5) ∨ (pa w p 4 = 2 ∧ pa w p 5 = -1))) ∧
  (∀ p q, p < nP w → q < nP w → ¬ p = q → ¬ pa w p 4 = 2 → ¬ pa w q 4 = 2 → ¬ pa w p 3 = pa w q 3) ∧
  (∀ k, 211 ≤ k → w k = 0)
theorem Inv0.len {w : Nat → Int} (hI : Inv0 w) : 8 ≤ w 0 ∧ w 0 ≤ 30 := hI.1
theorem Inv0.hour {w : Nat → Int} (hI : Inv0 w) : 0 ≤ w 1 ∧ w 1 ≤ 100000 := hI.2.1
theorem Inv0.gas {w : Nat → Int} (hI : Inv0 w) : 0 ≤ w 2 ∧ w 2 ≤ 999 := hI.2.2.1
theorem Inv0.leak {w : Nat → Int} (hI : Inv0 w) : 1 ≤ w 3 ∧ w 3 ≤ 9 := hI.2.2.2.1
theorem Inv0.gn {w : Nat → Int} (hI : Inv0 w) : 0 ≤ w 4 ∧ w 4 ≤ 12 := hI.2.2.2.2.1
theorem Inv0.bn {w : Nat → Int} (hI : Inv0 w) : 0 ≤ w 5 ∧ w 5 ≤ 8 := hI.2.2.2.2.2.1
theorem Inv0.pn {w : Nat → Int} (hI : Inv0 w) : 0 ≤ w 6 ∧ w 6 ≤ 16 := hI.2.2.2.2.2.2.1
theorem Inv0.gusts {w : Nat → Int} (hI : Inv0 w) : ∀ i, i < 12 → -3 ≤ w (11 + i) ∧ w (11 + i) ≤ 3 := hI.2.2.2.2.2.2.2.1
theorem Inv0.roofs {w : Nat → Int} (hI : Inv0 w) : ∀ i, i < 30 → 0 ≤ w (23 + i) ∧ w (23 + i) ≤ 9 := hI.2.2.2.2.2.2.2.2.1
theorem Inv0.trees {w : Nat → Int} (hI : Inv0 w) : ∀ i, i < 30 → 0 ≤ w (53 + i) ∧ w (53 + i) ≤ 9 := hI.2.2.2.2.2.2.2.2.2.1
theorem Inv0.bs {w : Nat → Int} (hI : Inv0 w) : ∀ b, b < nB w → (0 ≤ bo w b 0 ∧ bo w b 0 < w 0) ∧ (1 ≤ bo w b 1 ∧ bo w b 1 ≤ 30) ∧ (1 ≤ bo w b 2 ∧ bo w b 2 ≤ 9) ∧ (0 ≤ bo w b 3 ∧ bo w b 3 ≤ 2) := hI.2.2.2.2.2.2.2.2.2.2.1
theorem Inv0.ps {w : Nat → Int} (hI : Inv0 w) : ∀ p, p < nP w → (1 ≤ pa w p 0 ∧ pa w p 0 ≤ 9) ∧ (0 ≤ pa w p 1 ∧ pa w p 1 < w 0) ∧ (0 ≤ pa w p 2 ∧ pa w p 2 < w 0) ∧ (0 ≤ pa w p 3 ∧ pa w p 3 ≤ 99) ∧
    ((pa w p 4 = 0 ∧ 0 ≤ pa w p 5 ∧ pa w p 5 < w 0) ∨ (pa w p 4 = 1 ∧ 0 ≤ pa w p 5 ∧ pa w p 5 < w 5) ∨ (pa w p 4 = 2 ∧ pa w p 5 = -1)) := hI.2.2.2.2.2.2.2.2.2.2.2.1
theorem Inv0.uniq {w : Nat → Int} (hI : Inv0 w) : ∀ p q, p < nP w → q < nP w → ¬ p = q → ¬ pa w p 4 = 2 → ¬ pa w q 4 = 2 → ¬ pa w p 3 = pa w q 3 := hI.2.2.2.2.2.2.2.2.2.2.2.2.1
theorem Inv0.tail {w : Nat → Int} (hI : Inv0 w) : ∀ k, 211 ≤ k → w k = 0 := hI.2.2.2.2.2.2.2.2.2.2.2.2.2
theorem Inv0.pNe {w : Nat → Int} (hI : Inv0 w) : (nP w : Int) = w 6 ∧ nP w ≤ 16 := by
  have := hI.pn
  unfold nP
  omega
theorem Inv0.bNe {w : Nat → Int} (hI : Inv0 w) : (nB w : Int) = w 5 ∧ nB w ≤ 8 := by
  have := hI.bn
  unfold nB
  omega
theorem Inv0.load {w : Nat → Int} (hI : Inv0 w) (b : Nat) : 0 ≤ loadOf w b ∧ loadOf w b ≤ 144 := by
  have h := itF_ind (g := loadG w b) (P := fun p a => 0 ≤ a ∧ a ≤ 9 * (p : Int)) (m := nP w) (i := 0) (a := 0) ⟨by omega, by omega⟩ (fun p a _ h2 h3 => by
    have h4 := (hI.ps p (by omega)).1
    unfold loadG
    split <;> omega)
  have h5 := hI.pNe
  have h6 : loadOf w b = itF (loadG w b) 0 (nP w) 0 := rfl
  rw [← h6] at h
  omega
theorem Inv0.knot {w : Nat → Int} (hI : Inv0 w) (b : Nat) : 0 ≤ knots w b ∧ knots w b ≤ 16 := by
  have h := itF_ind (g := knotG w b) (P := fun p a => 0 ≤ a ∧ a ≤ (p : Int)) (m := nP w) (i := 0) (a := 0) ⟨by omega, by omega⟩ (fun p a _ h2 h3 => by
    unfold knotG
    split <;> omega)
  have h5 := hI.pNe
  have h6 : knots w b = itF (knotG w b) 0 (nP w) 0 := rfl
  rw [← h6] at h
  omega
theorem Inv0.spr {w : Nat → Int} (hI : Inv0 w) {b : Nat} (hb : b < nB w) : -143 ≤ spare w b ∧ spare w b ≤ 30 := by
  have h1 := hI.load b
  have h2 := (hI.bs b hb).2.1
  unfold spare
  omega
theorem Inv0.hgt {w : Nat → Int} (hI : Inv0 w) {b : Nat} (hb : b < nB w) : -143 ≤ hOf w b ∧ hOf w b ≤ 9 := by
  have h1 := hI.spr hb
  have h2 := (hI.bs b hb).2.2.1
  unfold hOf minI
  split <;> omega
theorem inR_of {x l m : Int} (h : l ≤ x ∧ x ≤ m) (h1 : -2147483648 ≤ l) (h2 : m < 2147483648) : inR x := ⟨by omega, by omega⟩
theorem numbd_b {w : Nat → Int} (n : Int) : -1 ≤ numbd w n ∧ numbd w n < (nP w : Int) := by
  have h1 := fiF_ge (f := numF w n) (i := 0) (m := nP w)
  have h2 := fiF_lt (f := numF w n) (i := 0) (m := nP w)
  unfold numbd
  omega
theorem Inv0.boR {w : Nat → Int} (hI : Inv0 w) {b k : Nat} (hb : b < nB w) (hk : k < 4) : inR (bo w b k) := by
  have h1 := hI.bs b hb
  have h2 := hI.len
  have : k = 0 ∨ k = 1 ∨ k = 2 ∨ k = 3 := by omega
  rcases this with rfl | rfl | rfl | rfl <;> exact ⟨by omega, by omega⟩
theorem Inv0.paR {w : Nat → Int} (hI : Inv0 w) {p k : Nat} (hp : p < nP w) (hk : k < 6) : inR (pa w p k) := by
  have h1 := hI.ps p hp
  have h2 := hI.len
  have h3 := hI.bn
  have : k = 0 ∨ k = 1 ∨ k = 2 ∨ k = 3 ∨ k = 4 ∨ k = 5 := by omega
  rcases this with rfl | rfl | rfl | rfl | rfl | rfl <;> exact ⟨by omega, by omega⟩
theorem rI {x X : Int} {h : aH} (e : X = x) : (((.inl (some (aI X)), h) : aRes)) = (.inl (some (aI x)), h) := by rw [e]
theorem rB {X : Bool} {x : Int} {h : aH} (e : bz X = x) : (((.inl (some (aI (bz X))), h) : aRes)) = (.inl (some (aI x)), h) := by rw [e]
def Mo (s : Nat → Int) : List aV := [aR 227, aR 228, aR 229, aR 230, aR 231, aI (s 5), aI (s 6), aR 232, aR 233, aI (s 9), aI (s 10), aI (s 11), aI (s 12), aR 234, aI (s 14), aI (s 15), aI (s 16), aI (s 17), aI (s 18), aI (s 19), aI (s 20), aR 235]
