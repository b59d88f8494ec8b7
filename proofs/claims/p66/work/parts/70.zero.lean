/-! THE MATHEMATICS: behind a row's 211 numbers there are zeros (written by wip/whole/gen70.py) -/
def Zp (w : Nat → Int) : Prop := TZ w ∧ nP w ≤ 16
theorem Zp.up {w : Nat → Int} (h : Zp w) {k : Nat} {v : Int} (hk : k < 211) (h6 : ¬ k = 6) : Zp (va_up w k v) :=
  ⟨fun j hj => (vu_ne (by omega)).trans (h.1 j hj), by unfold nP; rw [vu_ne (by omega)]; exact h.2⟩
theorem Zp.sb {w : Nat → Int} (h : Zp w) {b k : Nat} {v : Int} (hb : b < 8) (hk : k < 4) : Zp (sbo w b k v) := h.up (by omega) (by omega)
theorem Zp.put {w : Nat → Int} (h : Zp w) {p : Nat} {s v : Int} (hp : p < 16) : Zp (putP w p s v) := (h.up (by omega) (by omega)).up (by omega) (by omega)
theorem Zp.rlF {b : Nat} : ∀ {m : Nat} {w : Nat → Int} {n : Int}, Zp w → Zp (relF b m w n).1
  | 0, w, n, h => h
  | m + 1, w, n, h => by
    by_cases hs : 0 < spare w b
    · rw [relF, if_pos hs]
      exact h
    · rw [relF, if_neg hs]
      have h1 := heavy_b (w := w) b
      have h2 := h.2
      by_cases h3 : heavy w b = -1
      · rw [h3]
        exact Zp.rlF (m := m) (Zp.put h (by decide))
      · exact Zp.rlF (m := m) (Zp.put h (by omega))
theorem Zp.los {w : Nat → Int} (h : Zp w) {b : Nat} {l : Int} (hb : b < 8) : Zp (losW w b l) := (h.sb hb (by decide)).up (by decide) (by decide)
theorem Zp.fre {w : Nat → Int} (h : Zp w) {b : Nat} (hb : b < 8) : Zp (freeW w b) := Zp.rlF ((h.sb hb (by decide)).los hb)
theorem Zp.car {b : Nat} {sense : Int} (hb : b < 8) : ∀ {m : Nat} {w : Nat → Int}, Zp w → Zp (carF b sense m w)
  | 0, w, h => h
  | m + 1, w, h => by
    rw [carF]
    split
    · exact h
    · split
      · exact h
      · split
        · exact h
        · exact Zp.car hb (m := m) ((h.sb hb (by decide)).sb hb (by decide))
theorem Zp.dr {w : Nat → Int} (h : Zp w) {b : Nat} (hb : b < 8) : Zp (drG b w) := by
  unfold drG
  split
  · exact Zp.car hb h
  · exact h
theorem Zp.drI {b : Nat} : ∀ {m : Nat} {w : Nat → Int}, Zp w → b + m ≤ 8 → Zp (itF drG b m w)
  | 0, w, h, _ => h
  | m + 1, w, h, hb => by
    rw [itF_last]
    exact (Zp.drI (m := m) h (by omega)).dr (by omega)
theorem Zp.leak {w : Nat → Int} (h : Zp w) {b : Nat} (hb : b < 8) : Zp (leakW w b) := by
  unfold leakW
  split
  · exact h
  · split
    · exact Zp.rlF ((h.los hb).sb hb (by decide))
    · exact h.los hb
theorem Zp.lkI {b : Nat} : ∀ {m : Nat} {w : Nat → Int}, Zp w → b + m ≤ 8 → Zp (itF (fun b u => leakW u b) b m w)
  | 0, w, h, _ => h
  | m + 1, w, h, hb => by
    rw [itF_last]
    exact (Zp.lkI (m := m) h (by omega)).leak (by omega)
theorem nB_8 {w : Nat → Int} (hI : Inv0 w) : nB w ≤ 8 := by
  have h1 := hI.bNe
  have h2 := hI.bn
  omega
theorem nP_16 {w : Nat → Int} (hI : Inv0 w) : nP w ≤ 16 := by
  have h1 := hI.pNe
  have h2 := hI.pn
  omega
theorem Zp.hr {w : Nat → Int} (h : Zp w) (hI : Inv0 w) : Zp (hrW w) := by
  have h1 : Zp (tkW (drW w)) := (Zp.drI h (by have := nB_8 hI; omega)).up (by decide) (by decide)
  have h2 : nB (tkW (drW w)) = nB w := by
    have e := (drI_inv hI (b := 0) (m := nB w) (by omega)).2
    unfold tkW nB
    rw [vu_ne (by decide)]
    exact congrArg Int.toNat (e 5 (by decide))
  unfold hrW lkW
  split
  · exact Zp.lkI h1 (by rw [h2]; have := nB_8 hI; omega)
  · exact h1
theorem Zp.pass {w : Nat → Int} (h : Zp w) (hI : Inv0 w) : ∀ {n : Nat}, w 1 + n ≤ 100000 → Zp (passW w n)
  | 0, _ => h
  | n + 1, h1 => by
    have e : passW w (n + 1) = hrW (passW w n) := itF_last
    rw [e]
    exact (Zp.pass h hI (n := n) (by omega)).hr (pass_inv hI (n := n) (by omega)).1
/-- what holds of a row, with the zeros behind it -/
def IZ (w : Nat → Int) : Prop := Inv w ∧ TZ w
theorem IZ.z {w : Nat → Int} (h : IZ w) : Zp w := ⟨h.2, nP_16 h.1.1⟩
theorem IZ.setS {w : Nat → Int} (h : IZ w) {k : Nat} {v : Int} (hk : k < 83) (hn : k = 2 ∨ k = 3 ∨ k = 4 ∨ 11 ≤ k) (h2 : k = 2 → 0 ≤ v ∧ v ≤ 999) (h3 : k = 3 → 1 ≤ v ∧ v ≤ 9) (h4 : k = 4 → 0 ≤ v ∧ v ≤ 12) (hg : 11 ≤ k → k < 23 → -3 ≤ v ∧ v ≤ 3) (hr : 23 ≤ k → 0 ≤ v ∧ v ≤ 9) : IZ (va_up w k v) := ⟨InvM.setS h.1 hk hn h2 h3 h4 hg hr, (h.z.up (by omega) (by omega)).1⟩
theorem IZ.blow {w : Nat → Int} (h : IZ w) {g : Int} (h4 : w 4 < 12) (h1 : -3 ≤ g) (h2 : g ≤ 3) : IZ (blowW w g) := ⟨InvM.blow h.1 h4 h1 h2, ((h.z.up (k := 11 + (w 4).toNat) (v := g) (by omega) (by omega)).up (by decide) (by decide)).1⟩
theorem IZ.brin {w : Nat → Int} (h : IZ w) {x l t : Int} (h5 : w 5 < 8) (hx : 0 ≤ x ∧ x < w 0) (hl : 1 ≤ l ∧ l ≤ 30) (ht : 1 ≤ t ∧ t ≤ 9) : IZ (brinW w x l t) := by
  have hb : nB w < 8 := by have := h.1.1.bNe; omega
  exact ⟨InvM.brin h.1 h5 hx hl ht, ((((((h.z.up (k := 5) (v := w 5 + 1) (by decide) (by decide)).sb hb (by decide)).sb hb (by decide)).sb hb (by decide)).sb hb (by decide)).up (by decide) (by decide)).1⟩
theorem TZ.u6 {w : Nat → Int} (h : TZ w) {k : Nat} {v : Int} (hk : k < 211) : TZ (va_up w k v) := fun j hj => (vu_ne (by omega)).trans (h j hj)
theorem IZ.post {w : Nat → Int} (h : IZ w) {g x z n : Int} (h6 : w 6 < 16) (hg : 1 ≤ g ∧ g ≤ 9) (hx : 0 ≤ x ∧ x < w 0) (hz : 0 ≤ z ∧ z < w 0) (hn : 0 ≤ n ∧ n ≤ 99) (hq : numbd w n = -1) : IZ (postW w g x z n) := by
  have hp : nP w < 16 := by have := h.1.1.pNe; omega
  exact ⟨InvM.post h.1 h6 hg hx hz hn hq, ((((((h.2.u6 (k := 115 + 6 * nP w + 0) (by omega)).u6 (k := 115 + 6 * nP w + 1) (by omega)).u6 (k := 115 + 6 * nP w + 2) (by omega)).u6 (k := 115 + 6 * nP w + 3) (by omega)).u6 (k := 115 + 6 * nP w + 4) (by omega)).u6 (k := 115 + 6 * nP w + 5) (by omega)).u6 (k := 6) (by omega)⟩
theorem IZ.tie {w : Nat → Int} (h : IZ w) {p b : Nat} (hp : p < nP w) (hb : b < nB w) (hy : whyT w p b = 0) : IZ (putP w p 1 ((b : Nat) : Int)) := ⟨InvM.tie h.1 hp hb hy, (h.z.put (by have := h.z.2; omega)).1⟩
theorem IZ.unt {w : Nat → Int} (h : IZ w) {q b : Nat} (hq : q < nP w) (hb : b < nB w) (ht : tied w q b = true) : IZ (untW w q) := ⟨InvM.unt h.1 hq hb ht, (h.z.put (by have := h.z.2; omega)).1⟩
theorem IZ.how {w : Nat → Int} (h : IZ w) {b : Nat} {v : Int} (hb : b < nB w) (h1 : 0 ≤ v) (h2 : v ≤ 2) : IZ (sbo w b 3 v) := ⟨InvM.how h.1 hb h1 h2, (h.z.sb (by have := nB_8 h.1.1; omega) (by decide)).1⟩
theorem IZ.free {w : Nat → Int} (h : IZ w) {b : Nat} (hb : b < nB w) : IZ (freeW w b) := ⟨InvM.free h.1 hb, (h.z.fre (by have := nB_8 h.1.1; omega)).1⟩
theorem IZ.fil {w : Nat → Int} (h : IZ w) {b : Nat} {g : Int} (hb : b < nB w) (h1 : 1 ≤ g) (hc : canF w b g = true) : IZ (fillW w b g) := ⟨InvM.fil h.1 hb h1 hc, (((h.z.sb (b := b) (k := 1) (v := bo w b 1 + g) (by have := nB_8 h.1.1; omega) (by decide)).up (by decide) (by decide)).up (by decide) (by decide)).1⟩
theorem IZ.clm {w : Nat → Int} (h : IZ w) {p : Nat} (hp : p < nP w) (h4 : pa w p 4 = 0) : IZ (clmW w p) := ⟨InvM.clm h.1 hp h4, (((h.z.put (p := p) (s := 2) (v := -1) (by have := h.z.2; omega)).up (by decide) (by decide)).up (by decide) (by decide)).1⟩
theorem IZ.pass {w : Nat → Int} (h : IZ w) {n : Nat} (h1 : w 1 + n ≤ 999) : IZ (passW w n) := ⟨InvM.pass h.1 h1 (by decide), (h.z.pass h.1.1 (by omega)).1⟩
theorem ini_iz {l : Int} (h1 : 8 ≤ l) (h2 : l ≤ 30) : IZ (iniW l) := ⟨ini_inv h1 h2, fun j hj => ini_ne (by omega)⟩
section KEEPZ
variable {tx w u : Nat → Int} {N i j : Nat}
theorem kRowZ {row : Nat} (hr : row = 23 ∨ row = 53) (hI : IZ w) (hi : i ≤ N) (h : cRow row tx N i w = .inr (j, u)) : IZ u ∧ i ≤ j ∧ j ≤ N := by
  obtain ⟨⟨a, j1⟩, h1, h⟩ := bnd_o h
  obtain ⟨⟨b, j2⟩, h2, h⟩ := bnd_o h
  obtain ⟨j3, h3, h⟩ := bnd_o h
  have q1 := numA_o h1 (by decide)
  have q2 := numA_o h2 (by decide)
  have q3 := semA_o h3
  cases h
  obtain ⟨-, -, q1, e1, -⟩ := q1
  obtain ⟨-, -, q2, e2, -⟩ := q2
  simp only at q1 q2 e1 e2 q3
  have g1 := tPos (tx := tx) hi
  rw [← e1] at g1
  have g2 := tPos (tx := tx) g1.2
  rw [← e2] at g2
  have g3 := tPos (tx := tx) g2.2
  rw [← q3.2.2] at g3
  have hl := hI.1.1.len
  refine ⟨IZ.setS hI (by omega) (by omega) (by omega) (by omega) (by omega) (by omega) (by omega), by omega, by omega⟩
theorem kGusZ (hI : IZ w) (hi : i ≤ N) (h : cGus tx N i w = .inr (j, u)) : IZ u ∧ i ≤ j ∧ j ≤ N := by
  obtain ⟨⟨a, j1⟩, h1, h⟩ := bnd_o h
  obtain ⟨⟨b, j2⟩, h2, h⟩ := bnd_o h
  obtain ⟨j3, h3, h⟩ := bnd_o h
  have q1 := dirA_o h1
  have q2 := numA_o h2 (by decide)
  have q3 := semA_o h3
  cases h
  obtain ⟨q1, e1⟩ := q1
  obtain ⟨-, q20, q2, e2, -⟩ := q2
  simp only at q1 q20 q2 e1 e2 q3
  have g1 := tPos (tx := tx) hi
  rw [← e1] at g1
  have g2 := tPos (tx := tx) g1.2
  rw [← e2] at g2
  have g3 := tPos (tx := tx) g2.2
  rw [← q3.2.2] at g3
  have hc : w 4 < 12 := by simpa using q3.2.1
  refine ⟨IZ.blow hI hc ?_ ?_, by omega, by omega⟩ <;> rcases q1 with e | e <;> rw [e] <;> omega
theorem kLeaZ (hI : IZ w) (hi : i ≤ N) (h : cLea tx N i w = .inr (j, u)) : IZ u ∧ i ≤ j ∧ j ≤ N := by
  obtain ⟨⟨a, j1⟩, h1, h⟩ := bnd_o h
  obtain ⟨j3, h3, h⟩ := bnd_o h
  have q1 := numA_o h1 (by decide)
  have q3 := semA_o h3
  cases h
  obtain ⟨-, q0, q1, e1, -⟩ := q1
  simp only at q0 q1 e1 q3
  have g1 := tPos (tx := tx) hi
  rw [← e1] at g1
  have g3 := tPos (tx := tx) g1.2
  rw [← q3.2.2] at g3
  refine ⟨IZ.setS hI (by omega) (by omega) (by omega) (by omega) (by omega) (by omega) (by omega), by omega, by omega⟩
theorem kBalZ (hI : IZ w) (hi : i ≤ N) (h : cBal tx N i w = .inr (j, u)) : IZ u ∧ i ≤ j ∧ j ≤ N := by
  obtain ⟨⟨a, j1⟩, h1, h⟩ := bnd_o h
  obtain ⟨⟨b, j2⟩, h2, h⟩ := bnd_o h
  obtain ⟨⟨c, j4⟩, h4, h⟩ := bnd_o h
  obtain ⟨j3, h3, h⟩ := bnd_o h
  have q1 := numA_o h1 (by decide)
  have q2 := numA_o h2 (by decide)
  have q4 := numA_o h4 (by decide)
  have q3 := semA_o h3
  cases h
  obtain ⟨-, q10, q1, e1, -⟩ := q1
  obtain ⟨-, q20, q2, e2, -⟩ := q2
  obtain ⟨-, q40, q4, e4, -⟩ := q4
  simp only at q10 q1 q20 q2 q40 q4 e1 e2 e4 q3
  have g1 := tPos (tx := tx) hi
  rw [← e1] at g1
  have g2 := tPos (tx := tx) g1.2
  rw [← e2] at g2
  have g4 := tPos (tx := tx) g2.2
  rw [← e4] at g4
  have g3 := tPos (tx := tx) g4.2
  rw [← q3.2.2] at g3
  have hc : w 5 < 8 := by simpa using q3.2.1
  exact ⟨IZ.brin hI hc ⟨by omega, by omega⟩ ⟨by omega, by omega⟩ ⟨by omega, by omega⟩, by omega, by omega⟩
theorem kParZ (hI : IZ w) (hi : i ≤ N) (h : cPar tx N i w = .inr (j, u)) : IZ u ∧ i ≤ j ∧ j ≤ N := by
  obtain ⟨⟨a, j1⟩, h1, h⟩ := bnd_o h
  obtain ⟨⟨b, j2⟩, h2, h⟩ := bnd_o h
  obtain ⟨⟨c, j4⟩, h4, h⟩ := bnd_o h
  obtain ⟨⟨d, j5⟩, h5, h⟩ := bnd_o h
  obtain ⟨j3, h3, h⟩ := bnd_o h
  have q1 := numA_o h1 (by decide)
  have q2 := numA_o h2 (by decide)
  have q4 := numA_o (othA_o h4) (by decide)
  have q5 := numA_o h5 (by decide)
  have q3 := semA_o h3
  cases h
  obtain ⟨-, q10, q1, e1, -⟩ := q1
  obtain ⟨-, q20, q2, e2, -⟩ := q2
  obtain ⟨-, q40, q4, e4, -⟩ := q4
  obtain ⟨-, q50, q5, e5, -⟩ := q5
  simp only at q10 q1 q20 q2 q40 q4 q50 q5 e1 e2 e4 e5 q3
  have g1 := tPos (tx := tx) hi
  rw [← e1] at g1
  have g2 := tPos (tx := tx) g1.2
  rw [← e2] at g2
  have g4 := tPos (tx := tx) g2.2
  rw [← e4] at g4
  have g5 := tPos (tx := tx) g4.2
  rw [← e5] at g5
  have g3 := tPos (tx := tx) g5.2
  rw [← q3.2.2] at g3
  have hc : w 6 < 16 ∧ numbd w ((d : Nat) : Int) = -1 := by simpa using q3.2.1
  exact ⟨IZ.post hI hc.1 ⟨by omega, by omega⟩ ⟨by omega, by omega⟩ ⟨by omega, by omega⟩ ⟨by omega, by omega⟩ hc.2, by omega, by omega⟩
theorem kTieZ (hI : IZ w) (hi : i ≤ N) (h : cTie tx N i w = .inr (j, u)) : IZ u ∧ i ≤ j ∧ j ≤ N := by
  obtain ⟨⟨a, j1⟩, h1, h⟩ := bnd_o h
  obtain ⟨⟨b, j2⟩, h2, h⟩ := bnd_o h
  obtain ⟨j3, h3, h⟩ := bnd_o h
  have q1 := numA_o h1 (by decide)
  have q2 := numA_o h2 (by decide)
  have q3 := semA_o h3
  cases h
  obtain ⟨-, q10, q1, e1, -⟩ := q1
  obtain ⟨-, q20, q2, e2, -⟩ := q2
  simp only at q10 q1 q20 q2 e1 e2 q3
  have g1 := tPos (tx := tx) hi
  rw [← e1] at g1
  have g2 := tPos (tx := tx) g1.2
  rw [← e2] at g2
  have g3 := tPos (tx := tx) g2.2
  rw [← q3.2.2] at g3
  have hc : whyT w a b = 0 := by simpa using q3.2.1
  have hp := hI.1.1.pNe
  have hb := hI.1.1.bNe
  exact ⟨IZ.tie hI (by omega) (by omega) hc, by omega, by omega⟩
theorem kUntZ (hI : IZ w) (hi : i ≤ N) (h : cUnt tx N i w = .inr (j, u)) : IZ u ∧ i ≤ j ∧ j ≤ N := by
  obtain ⟨⟨a, j1⟩, h1, h⟩ := bnd_o h
  obtain ⟨j3, h3, h⟩ := bnd_o h
  have q1 := numA_o h1 (by decide)
  have q3 := semA_o h3
  cases h
  obtain ⟨-, q10, q1, e1, -⟩ := q1
  simp only at q10 q1 e1 q3
  have g1 := tPos (tx := tx) hi
  rw [← e1] at g1
  have g3 := tPos (tx := tx) g1.2
  rw [← q3.2.2] at g3
  have hc := canU_iff.mp q3.2.1
  have hp := hI.1.1.pNe
  have hb := hI.1.1.bNe
  have h9 := (hI.1.1.ps a (by omega)).2.2.2.2
  exact ⟨IZ.unt hI (q := a) (b := (pa w a 5).toNat) (by omega) (by omega) (tied_iff.mpr ⟨hc.1, by omega⟩), by omega, by omega⟩
theorem kHowZ {k v : Int} (hv : 0 ≤ v ∧ v ≤ 2) {P : Nat → Bool} (hI : IZ w) (hi : i ≤ N) (h : (bnd (numA tx N i 0 (w 5 - 1)) fun a => bnd (semA tx N a.2 (P a.1)) fun j => .inr (j, sbo w a.1 3 v)) = (.inr (j, u) : Er ⊕ (Nat × (Nat → Int)))) : IZ u ∧ i ≤ j ∧ j ≤ N := by
  obtain ⟨⟨a, j1⟩, h1, h⟩ := bnd_o h
  obtain ⟨j3, h3, h⟩ := bnd_o h
  have q1 := numA_o h1 (by decide)
  have q3 := semA_o h3
  cases h
  obtain ⟨-, q10, q1, e1, -⟩ := q1
  simp only at q10 q1 e1 q3
  have g1 := tPos (tx := tx) hi
  rw [← e1] at g1
  have g3 := tPos (tx := tx) g1.2
  rw [← q3.2.2] at g3
  have hb := hI.1.1.bNe
  exact ⟨IZ.how hI (by omega) hv.1 hv.2, by omega, by omega⟩
theorem kFreZ (hI : IZ w) (hi : i ≤ N) (h : cFre tx N i w = .inr (j, u)) : IZ u ∧ i ≤ j ∧ j ≤ N := by
  obtain ⟨⟨a, j1⟩, h1, h⟩ := bnd_o h
  obtain ⟨j3, h3, h⟩ := bnd_o h
  have q1 := numA_o h1 (by decide)
  have q3 := semA_o h3
  cases h
  obtain ⟨-, q10, q1, e1, -⟩ := q1
  simp only at q10 q1 e1 q3
  have g1 := tPos (tx := tx) hi
  rw [← e1] at g1
  have g3 := tPos (tx := tx) g1.2
  rw [← q3.2.2] at g3
  have hb := hI.1.1.bNe
  exact ⟨IZ.free hI (by omega), by omega, by omega⟩
theorem kFilZ (hI : IZ w) (hi : i ≤ N) (h : cFil tx N i w = .inr (j, u)) : IZ u ∧ i ≤ j ∧ j ≤ N := by
  obtain ⟨⟨a, j1⟩, h1, h⟩ := bnd_o h
  obtain ⟨⟨b, j2⟩, h2, h⟩ := bnd_o h
  obtain ⟨j3, h3, h⟩ := bnd_o h
  have q1 := numA_o h1 (by decide)
  have q2 := numA_o h2 (by decide)
  have q3 := semA_o h3
  cases h
  obtain ⟨-, q10, q1, e1, -⟩ := q1
  obtain ⟨-, q20, q2, e2, -⟩ := q2
  simp only at q10 q1 q20 q2 e1 e2 q3
  have g1 := tPos (tx := tx) hi
  rw [← e1] at g1
  have g2 := tPos (tx := tx) g1.2
  rw [← e2] at g2
  have g3 := tPos (tx := tx) g2.2
  rw [← q3.2.2] at g3
  have hb := hI.1.1.bNe
  exact ⟨IZ.fil hI (by omega) (by omega) q3.2.1, by omega, by omega⟩
theorem kGasZ (hI : IZ w) (hi : i ≤ N) (h : cGas tx N i w = .inr (j, u)) : IZ u ∧ i ≤ j ∧ j ≤ N := by
  obtain ⟨⟨a, j1⟩, h1, h⟩ := bnd_o h
  obtain ⟨j3, h3, h⟩ := bnd_o h
  have q1 := numA_o h1 (by decide)
  have q3 := semA_o h3
  cases h
  obtain ⟨-, q10, q1, e1, -⟩ := q1
  simp only at q10 q1 e1 q3
  have g1 := tPos (tx := tx) hi
  rw [← e1] at g1
  have g3 := tPos (tx := tx) g1.2
  rw [← q3.2.2] at g3
  have hc : ¬ 999 < w 2 + ((a : Nat) : Int) := by simpa using q3.2.1
  have hg := hI.1.1.gas
  exact ⟨IZ.setS hI (by omega) (by omega) (by omega) (by omega) (by omega) (by omega) (by omega), by omega, by omega⟩
theorem kClmZ (hI : IZ w) (hi : i ≤ N) (h : cClm tx N i w = .inr (j, u)) : IZ u ∧ i ≤ j ∧ j ≤ N := by
  obtain ⟨⟨a, j1⟩, h1, h⟩ := bnd_o h
  obtain ⟨⟨b, j2⟩, h2, h⟩ := bnd_o h
  obtain ⟨j3, h3, h⟩ := bnd_o h
  have q1 := numA_o h1 (by decide)
  obtain ⟨h2, f2⟩ := clmA_o h2
  have q2 := numA_o h2 (by decide)
  have q3 := semA_o h3
  cases h
  obtain ⟨-, q10, q1, e1, -⟩ := q1
  obtain ⟨-, q20, q2, e2, -⟩ := q2
  simp only at q10 q1 q20 q2 e1 e2 q3 f2 ⊢
  have g1 := tPos (tx := tx) hi
  rw [← e1] at g1
  have g2 := tPos (tx := tx) g1.2
  rw [← e2] at g2
  have g3 := tPos (tx := tx) g2.2
  rw [← q3.2.2] at g3
  have hb := foundP_b (w := w) ((a : Nat) : Int) ((b : Nat) : Int)
  obtain ⟨p, hp⟩ : ∃ p : Nat, foundP w ((a : Nat) : Int) ((b : Nat) : Int) = ((p : Nat) : Int) := ⟨(foundP w ((a : Nat) : Int) ((b : Nat) : Int)).toNat, by omega⟩
  rw [hp, Int.toNat_natCast]
  have hf := found_o hp
  exact ⟨IZ.clm hI hf.1 hf.2.1, by omega, by omega⟩
theorem kHrsZ (hI : IZ w) (hi : i ≤ N) (h : cHrs tx N i w = .inr (j, u)) : IZ u ∧ i ≤ j ∧ j ≤ N := by
  obtain ⟨⟨a, j1⟩, h1, h⟩ := bnd_o h
  obtain ⟨j3, h3, h⟩ := bnd_o h
  have q1 := numA_o h1 (by decide)
  have q3 := semA_o h3
  cases h
  obtain ⟨-, q10, q1, e1, -⟩ := q1
  simp only at q10 q1 e1 q3
  have g1 := tPos (tx := tx) hi
  rw [← e1] at g1
  have g3 := tPos (tx := tx) g1.2
  rw [← q3.2.2] at g3
  have hc : ¬ 999 < w 1 + ((a : Nat) : Int) := by simpa using q3.2.1
  exact ⟨IZ.pass hI (by omega), by omega, by omega⟩
theorem kCmdZ {c : Int} (hI : IZ w) (hi : i ≤ N) (h : cmdA c tx N i w = .inr (j, u)) : IZ u ∧ i ≤ j ∧ j ≤ N := by
  unfold cmdA at h
  rcases ite_o h with h | h
  · exact kRowZ (Or.inl rfl) hI hi h
  rcases ite_o h with h | h
  · exact kRowZ (Or.inr rfl) hI hi h
  rcases ite_o h with h | h
  · exact kGusZ hI hi h
  rcases ite_o h with h | h
  · exact kLeaZ hI hi h
  rcases ite_o h with h | h
  · exact kBalZ hI hi h
  rcases ite_o h with h | h
  · exact kParZ hI hi h
  rcases ite_o h with h | h
  · exact kTieZ hI hi h
  rcases ite_o h with h | h
  · exact kUntZ hI hi h
  rcases ite_o h with h | h
  · exact kHowZ (k := 0) (v := 1) (by decide) (P := fun a => decide (whyL w a = 0)) hI hi h
  rcases ite_o h with h | h
  · exact kHowZ (k := 0) (v := 0) (by decide) (P := fun a => decide (bo w a 3 = 1)) hI hi h
  rcases ite_o h with h | h
  · exact kFreZ hI hi h
  rcases ite_o h with h | h
  · exact kFilZ hI hi h
  rcases ite_o h with h | h
  · exact kGasZ hI hi h
  rcases ite_o h with h | h
  · exact kClmZ hI hi h
  · exact kHrsZ hI hi h
end KEEPZ
def GoodZ (N i : Nat) (r : Rs) : Prop := match r with
  | .inl e => 1 ≤ e.1 ∧ e.1 ≤ 5
  | .inr a => i ≤ a.1 ∧ a.1 ≤ N ∧ IZ a.2.1 ∧ a.2.2 ≤ 200
def Good1Z (N i : Nat) (r : Rs) : Prop := match r with
  | .inl e => 1 ≤ e.1 ∧ e.1 ≤ 5
  | .inr a => i < a.1 ∧ a.1 ≤ N ∧ IZ a.2.1 ∧ a.2.2 ≤ 200
theorem goodEZ {N i : Nat} {k o : Int} (h1 : 1 ≤ k) (h2 : k ≤ 5) : GoodZ N i (.inl (k, o)) := ⟨h1, h2⟩
theorem goodE1Z {N i : Nat} {k o : Int} (h1 : 1 ≤ k) (h2 : k ≤ 5) : Good1Z N i (.inl (k, o)) := ⟨h1, h2⟩
theorem goz_cmd {R : Nat → (Nat → Int) → Nat → Rs} {tx w : Nat → Int} {N i ex : Nat} (hR : wordI tx N i = 15 → Good1Z N i (R i w ex)) (hi : i ≤ N) (hI : IZ w) (hx : ex ≤ 200) : Good1Z N i (cmdG R tx N i w ex) := by
  have hw := wordI_b (tx := tx) (N := N) (i := i)
  unfold cmdG
  split
  · exact goodE1Z (by decide) (by decide)
  · rename_i h1
    split
    · rename_i h2; exact hR h2
    · split
      · exact goodE1Z (by decide) (by decide)
      · have hp := tPos1 (tx := tx) hi (by rw [hw.2.2 h1]; decide)
        rcases hc : cmdA (wordI tx N i) tx N (tEnd tx N i) w with e | ⟨j, u⟩
        · have h9 := kErr e hc
          exact ⟨h9.1, by have := h9.2; show e.1 ≤ 5; omega⟩
        · have h9 := kCmdZ hI hp.2 hc
          exact ⟨by show i < j; omega, h9.2.2, h9.1, by show ex + 1 ≤ 200; omega⟩
theorem goz_loop {stop : Int} {R : Nat → (Nat → Int) → Nat → Rs} {tx : Nat → Int} {N : Nat} (hR : ∀ {i w ex}, i ≤ N → IZ w → ex ≤ 200 → wordI tx N i = 15 → Good1Z N i (R i w ex)) : ∀ {f i : Nat} {w : Nat → Int} {ex : Nat}, N + 1 - i ≤ f → i ≤ N → IZ w → ex ≤ 200 → GoodZ N i (loopG stop R tx N f i w ex)
  | 0, i, w, ex, hf, hi, _, _ => by omega
  | f + 1, i, w, ex, hf, hi, hI, hx => by
    unfold loopG
    split
    · exact ⟨Nat.le_refl _, hi, hI, hx⟩
    · have h1 := goz_cmd (R := R) (hR hi hI hx) hi hI hx
      rcases hc : cmdG R tx N i w ex with e | ⟨j, u, ey⟩
      · rw [hc] at h1; exact h1
      · rw [hc] at h1
        obtain ⟨a1, a2, a3, a4⟩ := h1
        simp only at a1 a2 a3 a4
        have h2 := goz_loop (stop := stop) hR (f := f) (i := j) (w := u) (ex := ey) (by omega) a2 a3 a4
        show GoodZ N i (loopG stop R tx N f j u ey)
        rcases hd : loopG stop R tx N f j u ey with e | ⟨j2, u2, ey2⟩
        · rw [hd] at h2; exact h2
        · rw [hd] at h2
          obtain ⟨b1, b2, b3, b4⟩ := h2
          exact ⟨by simp only at b1 ⊢; omega, b2, b3, b4⟩
theorem goz_rnd {B : Nat → (Nat → Int) → Nat → Rs} {N i : Nat} (hB : ∀ {w ex}, IZ w → ex ≤ 200 → GoodZ N i (B i w ex)) : ∀ {t j : Nat} {w : Nat → Int} {ex : Nat}, i ≤ j → j ≤ N → IZ w → ex ≤ 200 → GoodZ N i (rndG B i t j w ex)
  | 0, j, w, ex, h1, h2, h3, h4 => ⟨h1, h2, h3, h4⟩
  | t + 1, j, w, ex, h1, h2, h3, h4 => by
    have h5 := hB h3 h4
    unfold rndG
    rcases hc : B i w ex with e | ⟨j', u, ey⟩
    · rw [hc] at h5; exact h5
    · rw [hc] at h5
      obtain ⟨a1, a2, a3, a4⟩ := h5
      exact goz_rnd hB (t := t) a1 a2 a3 a4
theorem goz_rep {B : Nat → (Nat → Int) → Nat → Rs} {tx : Nat → Int} {N i : Nat} {w : Nat → Int} {ex : Nat} (hB : ∀ {i w ex}, i ≤ N → IZ w → ex ≤ 200 → GoodZ N i (B i w ex)) (hi : i ≤ N) (hk : ¬ tKnd tx N i = 0) (hI : IZ w) (hx : ex ≤ 200) : Good1Z N i (repG B tx N i w ex) := by
  have p1 := tPos1 (tx := tx) hi hk
  unfold repG
  rcases hA : numA tx N (tEnd tx N i) 1 20 with e | ⟨a, j⟩
  · have := numA_er hA
    exact ⟨this.1, by show e.1 ≤ 5; omega⟩
  · have q := numA_o hA (by decide)
    have p2 := tPos (tx := tx) p1.2
    rw [← q.2.2.2.1] at p2
    have p3 := tPos (tx := tx) p2.2
    show Good1Z N i (if tKnd tx N j = 4 then _ else _)
    split
    · have h2 := goz_rnd (B := B) (i := tEnd tx N j) (fun h1 h2 => hB p3.2 h1 h2) (t := a) (j := tEnd tx N j) (Nat.le_refl _) p3.2 hI hx
      simp only
      rcases hd : rndG B (tEnd tx N j) a (tEnd tx N j) w ex with e | ⟨j2, u2, ey2⟩
      · rw [hd] at h2; exact h2
      · rw [hd] at h2
        obtain ⟨b1, b2, b3, b4⟩ := h2
        simp only at b1 b2 b3 b4
        have p4 := tPos (tx := tx) b2
        have p5 := tPos (tx := tx) p4.2
        show Good1Z N i (if tKnd tx N (tEnd tx N j2) = 1 then _ else _)
        split
        · exact ⟨by show i < tEnd tx N (tEnd tx N j2); omega, p5.2, b3, b4⟩
        · exact goodE1Z (by decide) (by decide)
    · exact goodE1Z (by decide) (by decide)
theorem goz_deep {tx : Nat → Int} {N : Nat} : ∀ {m i : Nat} {w : Nat → Int} {ex : Nat}, i ≤ N → IZ w → ex ≤ 200 → wordI tx N i = 15 → Good1Z N i (deepR tx N m i w ex)
  | 0, i, w, ex, _, _, _, _ => goodE1Z (by decide) (by decide)
  | m + 1, i, w, ex, hi, hI, hx, hw => goz_rep (fun h1 h2 h3 => goz_loop (fun g1 g2 g3 g4 => goz_deep g1 g2 g3 g4) (by omega) h1 h2 h3) hi (by rw [(wordI_b (tx := tx) (N := N) (i := i)).2.2 (by omega)]; decide) hI hx
theorem goz_par {tx : Nat → Int} {N : Nat} : GoodZ N 0 (parA tx N) := by
  unfold parA
  split
  · rename_i h0
    have p1 := tPos (tx := tx) (N := N) (i := 0) (by omega)
    rcases hA : numA tx N (tEnd tx N 0) 8 30 with e | ⟨a, j⟩
    · have := numA_er hA
      exact ⟨this.1, by show e.1 ≤ 5; omega⟩
    · have q := numA_o hA (by decide)
      have p2 := tPos (tx := tx) p1.2
      rw [← q.2.2.2.1] at p2
      have p3 := tPos (tx := tx) p2.2
      show GoodZ N 0 (if tKnd tx N j = 1 then _ else _)
      split
      · have h2 := goz_loop (stop := 0) (R := deepR tx N 2) (tx := tx) (N := N) (fun g1 g2 g3 g4 => goz_deep g1 g2 g3 g4) (f := N + 1) (i := tEnd tx N j) (w := iniW ((a : Nat) : Int)) (ex := 0) (by omega) p3.2 (ini_iz q.2.1 q.2.2.1) (by omega)
        simp only
        rcases hd : loopG 0 (deepR tx N 2) tx N (N + 1) (tEnd tx N j) (iniW ((a : Nat) : Int)) 0 with e | ⟨j2, u2, ey2⟩
        · rw [hd] at h2; exact h2
        · rw [hd] at h2
          exact ⟨by omega, h2.2.1, h2.2.2.1, h2.2.2.2⟩
      · exact goodEZ (by decide) (by decide)
  · exact goodEZ (by decide) (by decide)
theorem parA_iz {tx : Nat → Int} {N j ey : Nat} {u : Nat → Int} (h : parA tx N = .inr (j, u, ey)) : IZ u := by
  have h1 := goz_par (tx := tx) (N := N)
  rw [h] at h1
  exact h1.2.2.1
theorem fi_iz : IZ fiW := by
  obtain ⟨j, ey, h⟩ := fi_ok
  exact parA_iz h
