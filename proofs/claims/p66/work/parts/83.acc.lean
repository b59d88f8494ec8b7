/-! THE MATHEMATICS OF THE LAW: the accounts, hours in pieces, sets -/
theorem lft_eq {w u : Nat → Int} (hB : nB u = nB w) (h : ∀ b, b < nB w → bo u b 1 = bo w b 1) : lftS u = lftS w := by
  unfold lftS
  rw [hB]
  refine itF_congr fun b a _ hb => ?_
  unfold lftG
  rw [h b (by omega)]
theorem lft_one {w u : Nat → Int} {b : Nat} (hB : nB u = nB w) (hb : b < nB w) (h : ∀ b', b' < nB w → ¬ b' = b → bo u b' 1 = bo w b' 1) : lftS u = lftS w + (bo u b 1 - bo w b 1) := by
  have e := itF_one (g := lftG w) (g' := lftG u) (f := fun b => bo w b 1) (f' := fun b => bo u b 1) (fun _ _ => rfl) (fun _ _ => rfl) (q := b) (n := nB w) (fun p hp hn => h p hp hn)
  rw [if_pos hb] at e
  unfold lftS
  rw [hB]
  exact e
/-- the lifts as they were added and filled are those of now and what was lost -/
def Ac (w : Nat → Int) : Prop := w 9 = lftS w + w 10
theorem Ac.eq {w u : Nat → Int} (h : Ac w) (h5 : u 5 = w 5) (h9 : u 9 = w 9) (h10 : u 10 = w 10) (hb : ∀ b, b < nB w → bo u b 1 = bo w b 1) : Ac u := by
  have hB : nB u = nB w := by unfold nB; rw [h5]
  unfold Ac at h ⊢
  rw [lft_eq hB hb, h9, h10]
  exact h
theorem Ac.low {w : Nat → Int} (h : Ac w) {k : Nat} {v : Int} (hk : k < 83) (h5 : ¬ k = 5) (h9 : ¬ k = 9) (h10 : ¬ k = 10) : Ac (va_up w k v) :=
  h.eq (vu_ne (by omega)) (vu_ne (by omega)) (vu_ne (by omega)) fun b _ => by
    show va_up w k v (83 + 4 * b + 1) = w (83 + 4 * b + 1)
    exact vu_ne (by omega)
theorem Ac.blow {w : Nat → Int} (hI : Inv0 w) (h : Ac w) {g : Int} : Ac (blowW w g) := by
  have h4 := hI.gn
  unfold blowW
  exact (h.low (by omega) (by omega) (by omega) (by omega)).low (by omega) (by decide) (by decide) (by decide)
theorem Ac.put {w : Nat → Int} (hI : Inv0 w) (h : Ac w) {p : Nat} {st wh : Int} : Ac (putP w p st wh) := by
  have h8 := hI.bNe
  exact h.eq (put_lo (by omega)) (put_lo (by omega)) (put_lo (by omega)) fun b hb => put_bo (by omega) (by omega)
theorem Ac.sb {w : Nat → Int} (h : Ac w) {b k : Nat} {v : Int} (hk : k < 4) (h1 : ¬ k = 1) : Ac (sbo w b k v) :=
  h.eq (sbo_lo (by omega)) (sbo_lo (by omega)) (sbo_lo (by omega)) fun b' _ => by rw [sbo_bo hk (by omega), if_neg (by omega)]
theorem Ac.los {w : Nat → Int} (h : Ac w) {b : Nat} {l : Int} (hb : b < nB w) : Ac (losW w b l) := by
  have e9 : losW w b l 9 = w 9 := los_lo (by omega) (by omega)
  have e10 : losW w b l 10 = w 10 + l := by
    unfold losW
    rw [vu_at, sbo_lo (by omega)]
  have e := lft_one (w := w) (u := losW w b l) los_bN hb (fun b' _ hn => by rw [los_bo (by omega), if_neg (by omega)])
  rw [los_bo (by omega), if_pos ⟨rfl, rfl⟩] at e
  unfold Ac at h ⊢
  rw [e9, e10, e]
  omega
theorem Ac.rel {w : Nat → Int} (hI : Inv0 w) (h : Ac w) {b : Nat} (hb : b < nB w) : Ac (relW w b) := by
  have h8 := hI.bNe
  refine h.eq (rel_lo hI hb (by omega)) (rel_lo hI hb (by omega)) (rel_lo hI hb (by omega)) fun b' hb' => ?_
  show relW w b (83 + 4 * b' + 1) = w (83 + 4 * b' + 1)
  exact rel_lo hI hb (by omega)
theorem Ac.free {w : Nat → Int} (hI : Inv0 w) (a : Ac w) {b : Nat} (hb : b < nB w) : Ac (freeW w b) := by
  have hl := (hI.bs b hb).2.1
  have h3 := hI.setB (k := 3) (v := 0) hb (by omega) (by omega) (by omega) (by omega) (by omega)
  have el : bo (sbo w b 3 0) b 1 = bo w b 1 := by rw [sbo_bo (by omega) (by omega), if_neg (by omega)]
  have hm : 0 ≤ minI 2 (bo (sbo w b 3 0) b 1 - 1) ∧ minI 2 (bo (sbo w b 3 0) b 1 - 1) < bo (sbo w b 3 0) b 1 := by rw [el]; unfold minI; split <;> omega
  have hb3 : b < nB (sbo w b 3 0) := by rw [sbo_bN]; exact hb
  have h0 : Inv0 (fr1 w b) := los_inv h3 hb3 hm.1 hm.2
  have a1 : Ac (fr1 w b) := (a.sb (b := b) (k := 3) (v := 0) (by omega) (by omega)).los hb3
  have hb1 : b < nB (fr1 w b) := by
    show b < nB (losW _ _ _)
    rw [los_bN]
    exact hb3
  exact Ac.rel h0 a1 hb1
theorem Ac.leak {w : Nat → Int} (hI : Inv0 w) (h : Ac w) {b : Nat} (hb : b < nB w) : Ac (leakW w b) := by
  obtain ⟨h1, h2⟩ := le1_inv hI hb
  have hb2 : b < nB (le1 w b) := by rw [Sm.eB fun j hj => h2 j (by omega) (by omega)]; exact hb
  have a1 : Ac (le1 w b) := h.los hb
  unfold leakW
  split
  · exact h
  · split
    · have h3 : Inv0 (sbo (le1 w b) b 3 0) := h1.setB (k := 3) hb2 (by omega) (by omega) (by omega) (by omega) (by omega)
      exact Ac.rel h3 (a1.sb (by omega) (by omega)) (by rw [sbo_bN]; exact hb2)
    · exact a1
theorem Ac.lkI {w : Nat → Int} (hI : Inv0 w) (h : Ac w) {b : Nat} : ∀ {m : Nat}, b + m ≤ nB w → Ac (itF (fun b u => leakW u b) b m w)
  | 0, _ => h
  | m + 1, hm => by
    rw [itF_last]
    obtain ⟨h1, h2⟩ := lkI_inv hI (b := b) (m := m) (by omega)
    exact Ac.leak h1 (Ac.lkI hI h (m := m) (by omega)) (by rw [Sm.eB fun j hj => h2 j (by omega) (by omega)]; omega)
theorem Ac.car {b : Nat} {sense : Int} : ∀ {m : Nat} {w : Nat → Int}, Ac w → Ac (carF b sense m w)
  | 0, w, h => h
  | m + 1, w, h => by
    rw [carF]
    split
    · exact h
    · split
      · exact h
      · split
        · exact h
        · exact Ac.car (m := m) ((h.sb (k := 0) (by omega) (by omega)).sb (k := 3) (by omega) (by omega))
theorem Ac.dr {w : Nat → Int} (h : Ac w) {b : Nat} : Ac (drG b w) := by
  unfold drG
  split
  · exact h.car
  · exact h
theorem Ac.drI {w : Nat → Int} (h : Ac w) {b : Nat} : ∀ {m : Nat}, Ac (itF drG b m w)
  | 0 => h
  | m + 1 => by
    rw [itF_last]
    exact (Ac.drI h (m := m)).dr
theorem Ac.hr {w : Nat → Int} (hI : Inv0 w) (h1 : w 1 < 100000) (h : Ac w) : Ac (hrW w) := by
  have a1 : Ac (drW w) := h.drI
  obtain ⟨i1, i2⟩ := drW_inv hI
  have a2 : Ac (tkW (drW w)) := a1.low (by omega) (by omega) (by omega) (by omega)
  have i3 : Inv0 (tkW (drW w)) := tk_inv i1 (by rw [i2 1 (by omega)]; exact h1)
  show Ac (lkW _)
  unfold lkW
  split
  · exact Ac.lkI i3 a2 (b := 0) (by omega)
  · exact a2
theorem Ac.pass {w : Nat → Int} (hI : Inv0 w) (h : Ac w) : ∀ {n : Nat}, w 1 + n ≤ 100000 → Ac (passW w n)
  | 0, _ => h
  | n + 1, h1 => by
    have e : passW w (n + 1) = hrW (passW w n) := itF_last
    rw [e]
    obtain ⟨i1, i2⟩ := pass_inv hI (n := n) (by omega)
    have e1 := i2 1 (by omega) (by omega)
    rw [if_pos rfl] at e1
    exact Ac.hr i1 (by rw [e1]; omega) (Ac.pass hI h (n := n) (by omega))
theorem Ac.brin {w : Nat → Int} (hI : Inv0 w) (h : Ac w) (h5 : w 5 < 8) {x l t : Int} : Ac (brinW w x l t) := by
  have hb8 := hI.bNe
  have e5 : brinW w x l t 5 = w 5 + 1 := by unfold brinW; rw [vu_ne (by omega), br1_5]
  have hbN : nB (brinW w x l t) = nB w + 1 := by have := hI.bn; unfold nB; rw [e5]; omega
  have eb : ∀ b, bo (brinW w x l t) b 1 = if b = nB w then l else bo w b 1 := fun b => by
    have e : bo (brinW w x l t) b 1 = bo (br1 w x l t) b 1 := by
      show va_up (br1 w x l t) 9 _ (83 + 4 * b + 1) = _
      rw [vu_ne (by omega)]
      rfl
    rw [e, br1_bo (by omega)]
    simp
  have e9 : brinW w x l t 9 = w 9 + l := by unfold brinW; rw [vu_at, br1_lo (by omega) (by omega)]
  have e10 : brinW w x l t 10 = w 10 := by unfold brinW; rw [vu_ne (by omega), br1_lo (by omega) (by omega)]
  have ec : itF (lftG (brinW w x l t)) 0 (nB w) 0 = itF (lftG w) 0 (nB w) 0 := itF_congr fun b a _ hb => by
    unfold lftG
    rw [eb, if_neg (by omega)]
  have el : lftS (brinW w x l t) = lftS w + l := by
    unfold lftS
    rw [hbN, itF_last, Nat.zero_add, ec]
    show itF (lftG w) 0 (nB w) 0 + bo (brinW w x l t) (nB w) 1 = _
    rw [eb, if_pos rfl]
  unfold Ac at h ⊢
  rw [e9, e10, el]
  omega
theorem Ac.post {w : Nat → Int} (hI : Inv0 w) (h : Ac w) {g x z n : Int} : Ac (postW w g x z n) := by
  have h8 := hI.bNe
  have lo : ∀ j, j < 115 → ¬ j = 6 → postW w g x z n j = w j := fun j hj hn => by
    unfold postW
    rw [vu_ne hn, po1_lo hj]
  refine h.eq (lo 5 (by omega) (by omega)) (lo 9 (by omega) (by omega)) (lo 10 (by omega) (by omega)) fun b hb => ?_
  exact lo _ (by omega) (by omega)
theorem Ac.clm {w : Nat → Int} (hI : Inv0 w) (h : Ac w) {p : Nat} : Ac (clmW w p) := by
  unfold clmW cl1
  exact ((Ac.put hI h).low (by omega) (by omega) (by omega) (by omega)).low (by omega) (by omega) (by omega) (by omega)
theorem Ac.fil {w : Nat → Int} (h : Ac w) {b : Nat} {g : Int} (hb : b < nB w) : Ac (fillW w b g) := by
  have lo : ∀ j, j < 83 → ¬ j = 2 → ¬ j = 9 → fillW w b g j = w j := fun j hj h2 h9 => by
    unfold fillW fi2 fi1
    rw [vu_ne h9, vu_ne h2, sbo_lo hj]
  have eb : ∀ b', bo (fillW w b g) b' 1 = if b' = b ∧ 1 = 1 then bo w b 1 + g else bo w b' 1 := fun b' => by
    show va_up (va_up (sbo w b 1 (bo w b 1 + g)) 2 _) 9 _ (83 + 4 * b' + 1) = _
    rw [vu_ne (by omega), vu_ne (by omega)]
    exact sbo_bo (by omega) (by omega)
  have e9 : fillW w b g 9 = w 9 + g := by
    unfold fillW fi2 fi1
    rw [vu_at, vu_ne (by omega), sbo_lo (by omega)]
  have hB : nB (fillW w b g) = nB w := by unfold nB; rw [lo 5 (by omega) (by omega) (by omega)]
  have e := lft_one (w := w) (u := fillW w b g) hB hb (fun b' _ hn => by rw [eb, if_neg (by omega)])
  rw [eb, if_pos ⟨rfl, rfl⟩] at e
  unfold Ac at h ⊢
  rw [e9, lo 10 (by omega) (by omega) (by omega), e]
  omega
/-- what holds of a World of the law, k deeds after its begin -/
def Gd (k : Nat) (w : Nat → Int) : Prop := Inv w ∧ Ac w ∧ (0 ≤ w 7 ∧ w 7 ≤ 300 * (k : Int)) ∧ 1 ≤ w 5 ∧ 1 ≤ w 6
theorem Gd.up {k : Nat} {w u : Nat → Int} (h : Gd k w) (i : Inv u) (a : Ac u) (e7 : w 7 ≤ u 7 ∧ u 7 ≤ w 7 + 300) (e5 : w 5 ≤ u 5) (e6 : w 6 ≤ u 6) : Gd (k + 1) u := by
  obtain ⟨h1, h2, h3, h4, h5⟩ := h
  exact ⟨i, a, ⟨by omega, by omega⟩, by omega, by omega⟩
theorem Gd.mo {k : Nat} {w : Nat → Int} (h : Gd k w) : Gd (k + 1) w := h.up h.1 h.2.1 ⟨by omega, by omega⟩ (by omega) (by omega)
theorem viol_0 {w : Nat → Int} (h : Inv w) (a : Ac w) : viol w = 0 := by
  have e1 : itF (ovrG w) 0 (nB w) 0 = 0 := itF_eq0 (f := fun b => if ¬ 0 < spare w b ∨ 4 < knots w b then 1 else 0) (fun _ _ => rfl) fun b hb => by
    have h1 := h.2.2 b hb
    have e : spare w b = bo w b 1 - loadOf w b := rfl
    exact if_neg (by omega)
  have e2 : itF (dbsG w) 0 (nP w) 0 = 0 := itF_eq0 (f := fun p => dbl w p) (fun _ _ => rfl) fun p hp => by
    refine itF_eq0 (f := fun k => if (¬ pa w p 4 = 2 ∧ ¬ pa w k 4 = 2) ∧ pa w p 3 = pa w k 3 then 1 else 0) (fun _ _ => rfl) fun k hk => ?_
    refine if_neg fun hc => ?_
    exact h.1.uniq p k hp (by omega) (by omega) hc.1.1 hc.1.2 hc.2
  have e3 : w 9 - lftS w - w 10 = 0 := by unfold Ac at a; omega
  rw [viol_e, e1, e2, e3]
  unfold absV
  split <;> rfl
/-! hours in pieces -/
theorem pass_it {w : Nat → Int} {n : Nat} : passW w (n + 1) = hrW (passW w n) := itF_last
theorem pass_add {w : Nat → Int} {a : Nat} : ∀ {b : Nat}, passW (passW w a) b = passW w (a + b)
  | 0 => rfl
  | b + 1 => by
    rw [pass_it, pass_add (b := b)]
    exact pass_it.symm
/-! sets -/
theorem shr_nat {a k : Nat} (ha : a < 2147483648) (hk : k < 16) : shrI (a : Int) (k : Int) = ((a >>> k : Nat) : Int) := by
  have e : ∀ x : Int32, (x >>> ((i32 (k : Int)) &&& 31)).toBitVec = x.toBitVec.sshiftRight k := by
    have hk2 : k = 0 ∨ k = 1 ∨ k = 2 ∨ k = 3 ∨ k = 4 ∨ k = 5 ∨ k = 6 ∨ k = 7 ∨ k = 8 ∨ k = 9 ∨ k = 10 ∨ k = 11 ∨ k = 12 ∨ k = 13 ∨ k = 14 ∨ k = 15 := by omega
    rcases hk2 with rfl | rfl | rfl | rfl | rfl | rfl | rfl | rfl | rfl | rfl | rfl | rfl | rfl | rfl | rfl | rfl <;> intro x <;> rfl
  have e2 : shrI (a : Int) (k : Int) = ((i32 (a : Int)) >>> ((i32 (k : Int)) &&& 31)).toBitVec.toInt := rfl
  have h0 := i32_nn (v := (a : Int)) (by omega) (by omega)
  rw [Int.toNat_natCast] at h0
  rw [e2, e]
  refine bv_nn ?_ (Nat.lt_of_le_of_lt (Nat.shiftRight_le a k) ha)
  rw [BitVec.toNat_sshiftRight_of_msb_false (BitVec.msb_eq_false_iff_two_mul_lt.mpr (by rw [h0]; omega)), h0]
/-- a place of a set, looked at -/
theorem bit_at {m p : Nat} (hm : m < 65536) (hp : p < 16) : andI (shrI (m : Int) (p : Int)) 1 = if m.testBit p = true then 1 else 0 := by
  have h1 : m >>> p ≤ m := Nat.shiftRight_le m p
  have e9 : andI ((m >>> p : Nat) : Int) 1 = ((m >>> p &&& 1 : Nat) : Int) := and_nat (a := m >>> p) (b := 1) (by omega) (by decide)
  rw [shr_nat (by omega) hp, e9]
  have e : m.testBit p = (1 &&& (m >>> p) != 0) := rfl
  rw [e, Nat.and_comm 1, Nat.and_one_is_mod]
  have h2 : m >>> p % 2 = 0 ∨ m >>> p % 2 = 1 := by omega
  rcases h2 with e2 | e2 <;> rw [e2] <;> rfl
theorem and_0 {a b : Nat} (h : ∀ p, a.testBit p = true → b.testBit p = false) : a &&& b = 0 := Nat.eq_of_testBit_eq fun p => by
  rw [Nat.testBit_and, Nat.zero_testBit]
  cases e : a.testBit p
  · rfl
  · rw [h p e]; rfl
/-- a mask's bits: f below n -/
def Ms (m : Nat) (f : Nat → Bool) (n : Nat) : Prop := m < 65536 ∧ ∀ p, m.testBit p = (decide (p < n) && f p)
theorem Ms.of {f : Nat → Bool} {n : Nat} (hn : n ≤ 16) : Ms (valN f n) f n :=
  ⟨Nat.lt_of_lt_of_le val_lt (Nat.pow_le_pow_right (n := 2) (by decide) hn), fun _ => val_tb⟩
theorem Ms.zero {f : Nat → Bool} {n : Nat} (h : ∀ p, p < n → f p = false) : Ms 0 f n := ⟨by decide, fun p => by
  rw [Nat.zero_testBit]
  by_cases e : p < n
  · rw [h p e, Bool.and_false]
  · rw [decide_eq_false e]; rfl⟩
theorem Ms.or {a b : Nat} {f g k : Nat → Bool} {n : Nat} (ha : Ms a f n) (hb : Ms b g n) (h : ∀ p, p < n → k p = (f p || g p)) : Ms (a ||| b) k n := ⟨Nat.or_lt_two_pow (n := 16) ha.1 hb.1, fun p => by
  rw [Nat.testBit_or, ha.2, hb.2]
  by_cases e : p < n
  · rw [h p e, decide_eq_true e]; simp
  · rw [decide_eq_false e]; rfl⟩
theorem Ms.dis {a b : Nat} {f g : Nat → Bool} {n : Nat} (ha : Ms a f n) (hb : Ms b g n) (h : ∀ p, p < n → f p = true → g p = false) : a &&& b = 0 := and_0 fun p hp => by
  rw [ha.2, Bool.and_eq_true, decide_eq_true_eq] at hp
  rw [hb.2, h p hp.1 hp.2, Bool.and_false]
theorem Ms.at {a p : Nat} {f : Nat → Bool} {n : Nat} (ha : Ms a f n) (hp : p < n) (hn : n ≤ 16) : andI (shrI (a : Int) (p : Int)) 1 = if f p = true then 1 else 0 := by
  rw [bit_at ha.1 (by omega), ha.2, decide_eq_true hp, Bool.true_and]
theorem lg_same (z : Int64) : (lg_cmp z z).toInt = 0 := by
  rw [(lg_cmp_eq z z).mpr rfl]
  rfl
