/-! numbers -/
theorem i32_add (x y : Int) : i32 (x + y) = i32 x + i32 y := Int32.ofInt_add x y
theorem i32_sub (x y : Int) : i32 (x - y) = i32 x - i32 y := Int32.ofInt_sub x y
theorem i32_mul (x y : Int) : i32 (x * y) = i32 x * i32 y := Int32.ofInt_mul x y
theorem i32_neg (x : Int) : i32 (-x) = -i32 x := Int32.ofInt_neg x
theorem i32_to (x : Int32) : i32 x.toInt = x := Int32.ofInt_toInt x
theorem i32_nat (n : Nat) : i32 (n : Int) = Int32.ofNat n := Int32.ofInt_eq_ofNat
theorem i32_toInt {x : Int} (h : -2147483648 ≤ x) (h2 : x < 2147483648) : (i32 x).toInt = x := Int32.toInt_ofInt_of_le (by simpa using h) (by simpa using h2)
theorem i32_0 : i32 0 = 0 := rfl
theorem i32_lt {x y : Int} (h1 : -2147483648 ≤ x) (h2 : x < 2147483648) (h3 : -2147483648 ≤ y) (h4 : y < 2147483648) : i32 x < i32 y ↔ x < y := by
  rw [Int32.lt_iff_toInt_lt, i32_toInt h1 h2, i32_toInt h3 h4]
theorem i32_le {x y : Int} (h1 : -2147483648 ≤ x) (h2 : x < 2147483648) (h3 : -2147483648 ≤ y) (h4 : y < 2147483648) : i32 x ≤ i32 y ↔ x ≤ y := by
  rw [Int32.le_iff_toInt_le, i32_toInt h1 h2, i32_toInt h3 h4]
theorem i32_eq {x y : Int} (h1 : -2147483648 ≤ x) (h2 : x < 2147483648) (h3 : -2147483648 ≤ y) (h4 : y < 2147483648) : i32 x = i32 y ↔ x = y := by
  rw [← Int32.toInt_inj, i32_toInt h1 h2, i32_toInt h3 h4]
theorem i32_cl {x : Int} (h1 : 0 ≤ x) (h2 : x < 2147483648) : (i32 x).toNatClampNeg = x.toNat := by
  have h := i32_toInt (by omega) h2
  have h0 : (0 : Int32) ≤ i32 x := by rw [Int32.le_iff_toInt_le, h]; simpa using h1
  have := Int32.toInt_eq_toNatClampNeg h0
  omega
theorem i32_nneg {x : Int} (h1 : 0 ≤ x) (h2 : x < 2147483648) : ¬ i32 x < 0 := by
  rw [Int32.lt_iff_toInt_lt, i32_toInt (by omega) h2]
  simp; omega
theorem i32_in {x : Int} {n : Nat} (h1 : 0 ≤ x) (h2 : x < n) (h3 : x < 2147483648) : vp_in (i32 x) n := by
  intro h
  rcases h with h | h
  · exact i32_nneg h1 h3 h
  · rw [i32_cl h1 h3] at h
    omega
theorem le_iff_not_lt32 {x y : Int32} : x ≤ y ↔ ¬ y < x := by
  rw [Int32.le_iff_toInt_le, Int32.lt_iff_toInt_lt]; omega
/-! the real values of abstract ones -/
def adV (kv : Nat → Value) (ad : Nat → Nat) (v : aV) : Value := match v with
  | .inl x => .int (i32 x)
  | .inr (.inl a) => .ref (ad a)
  | .inr (.inr (.ref j)) => kv j
  | .inr (.inr w) => w
def tcl (cA : Nat → ClassId) (kv : Nat → Value) (ad : Nat → Nat) (c : aCell) : va_E := match c with
  | .inl (t, n, .inl f) => .inl (cA t, n, .inl fun j => i32 (f j))
  | .inl (t, n, .inr (.inl f)) => .inl (cA t, n, .inr (.inl f))
  | .inl (t, n, .inr (.inr f)) => .inl (cA t, n, .inr (.inr (.inr (.inr fun j => (f j).map ad))))
  | .inr (ci, fs) => .inr (ci, fs.map (adV kv ad))
def wsl (cA : Nat → ClassId) (kv : Nat → Value) (ad : Nat → Nat) (h : aH) : va_W := (List.range h.2.1).map fun a => (ad a, tcl cA kv ad (h.2.2 a))
def rok (n : Nat) (v : aV) : Prop := match v with
  | .inr (.inl a) => a < n
  | _ => True
def rokL (n : Nat) (L : List aV) : Prop := ∀ v ∈ L, rok n v
def rokC (n : Nat) (c : aCell) : Prop := match c with
  | .inl (_, _, .inr (.inr f)) => ∀ j a, f j = some a → a < n
  | .inr (_, fs) => rokL n fs
  | _ => True
def rokH (h : aH) : Prop := ∀ a, rokC h.2.1 (h.2.2 a)
theorem rok_mono {n m : Nat} (h : n ≤ m) {v : aV} (hv : rok n v) : rok m v := by
  unfold rok at hv ⊢
  split
  · exact Nat.lt_of_lt_of_le hv h
  · trivial
theorem rokL_mono {n m : Nat} (h : n ≤ m) {L : List aV} (hv : rokL n L) : rokL m L := fun v hm => rok_mono h (hv v hm)
theorem rokC_mono {n m : Nat} (h : n ≤ m) {c : aCell} (hv : rokC n c) : rokC m c := by
  unfold rokC at hv ⊢
  split
  · exact fun j a e => Nat.lt_of_lt_of_le (hv j a e) h
  · exact rokL_mono h hv
  · trivial
theorem rokL_cons {n : Nat} {v : aV} {L : List aV} : rokL n (v :: L) ↔ rok n v ∧ rokL n L := by simp [rokL]
theorem rokL_set {n : Nat} {v : aV} {L : List aV} (i : Nat) (hv : rok n v) (h : rokL n L) : rokL n (L.set i v) := by
  intro w hw
  rcases List.mem_or_eq_of_mem_set hw with h1 | h1
  · exact h w h1
  · rw [h1]; exact hv
theorem rokL_at {n : Nat} {v : aV} {L : List aV} {i : Nat} (h : rokL n L) (hi : L[i]? = some v) : rok n v := h v (List.mem_of_getElem? hi)
def agr (n : Nat) (ad ad' : Nat → Nat) : Prop := ∀ a, a < n → ad' a = ad a
theorem agr.rf {n : Nat} {ad : Nat → Nat} : agr n ad ad := fun _ _ => rfl
theorem agr.tr {n m : Nat} (hnm : n ≤ m) {a b c : Nat → Nat} (h1 : agr n a b) (h2 : agr m b c) : agr n a c := fun q hq => (h2 q (Nat.lt_of_lt_of_le hq hnm)).trans (h1 q hq)
theorem adV_agr {kv : Nat → Value} {ad ad' : Nat → Nat} {n : Nat} (h : agr n ad ad') {v : aV} (hv : rok n v) : adV kv ad' v = adV kv ad v := by
  unfold adV
  split
  · rfl
  · rw [h _ hv]
  · rfl
  · rfl
theorem adL_agr {kv : Nat → Value} {ad ad' : Nat → Nat} {n : Nat} (h : agr n ad ad') {L : List aV} (hv : rokL n L) : L.map (adV kv ad') = L.map (adV kv ad) := List.map_congr_left fun v hm => adV_agr h (hv v hm)
theorem tcl_agr {cA : Nat → ClassId} {kv : Nat → Value} {ad ad' : Nat → Nat} {n : Nat} (h : agr n ad ad') {c : aCell} (hv : rokC n c) : tcl cA kv ad' c = tcl cA kv ad c := by
  unfold tcl
  split
  · rfl
  · rfl
  · rename_i t m f
    have e : (fun j => (f j).map ad') = fun j => (f j).map ad := by
      funext j
      cases hj : f j with
      | none => rfl
      | some a => simp [h a (hv j a hj)]
    rw [e]
  · rename_i ci fs
    rw [adL_agr h hv]
theorem wsl_get {cA : Nat → ClassId} {kv : Nat → Value} {ad : Nat → Nat} {h : aH} {a : Nat} (ha : a < h.2.1) : (wsl cA kv ad h)[a]? = some (ad a, tcl cA kv ad (h.2.2 a)) := by
  simp [wsl, ha]
theorem wsl_set {cA : Nat → ClassId} {kv : Nat → Value} {ad : Nat → Nat} {h : aH} {a : Nat} (ha : a < h.2.1) (c : aCell) : (wsl cA kv ad h).set a (ad a, tcl cA kv ad c) = wsl cA kv ad (sw h a c) := by
  apply List.ext_getElem?
  intro i
  rw [List.getElem?_set]
  by_cases hi : a = i
  · subst hi
    simp [wsl, sw, ha, va_up]
  · rw [if_neg hi]
    by_cases hl : i < h.2.1
    · simp [wsl, sw, hl, va_up, Ne.symm hi]
    · simp [wsl, sw, hl]
theorem wsl_push {cA : Nat → ClassId} {kv : Nat → Value} {ad : Nat → Nat} {h : aH} (hr : rokH h) {c : aCell} (hc : rokC h.2.1 c) (q : Nat) : wsl cA kv ad h ++ [(q, tcl cA kv ad c)] = wsl cA kv (va_up ad h.2.1 q) (pw h c) := by
  have hag : agr h.2.1 ad (va_up ad h.2.1 q) := fun a ha => by simp [va_up, Nat.ne_of_lt ha]
  simp only [wsl, pw, List.range_succ, List.map_append, List.map_cons, List.map_nil]
  congr 1
  · apply List.map_congr_left
    intro a ha
    have ha : a < h.2.1 := List.mem_range.mp ha
    rw [hag a ha]
    have e : va_up h.2.2 h.2.1 c a = h.2.2 a := by simp [va_up, Nat.ne_of_lt ha]
    rw [e, tcl_agr hag (hr a)]
  · have e : va_up h.2.2 h.2.1 c h.2.1 = c := by simp [va_up]
    rw [e, tcl_agr hag hc]
    simp [va_up]
/-- what a heap H holds of the abstract one h: the picture, its cells apart and new, no cell behind the last -/
def Iv (D : va_G) (cl : List vw_C) (A : Nat → Prop) (cA : Nat → ClassId) (kv : Nat → Value) (X : Nat × (Nat → Int)) (ad : Nat → Nat) (h : aH) (H : Heap) : Prop :=
  va_P D cl (wsl cA kv ad h) H ∧ va_D A (wsl cA kv ad h) ∧ (∀ a, h.2.1 ≤ a → h.2.2 a = dead) ∧ rokH h ∧ h.1 = X
def Lh (kv : Nat → Value) (ad : Nat → Nat) (ls : Array Slot) (nL : Nat) (L : List aV) : Prop :=
  L.length = nL ∧ ls.size = nL ∧ lv_wf ls ∧ ∀ (i : Nat) (v : aV), L[i]? = some v → v ≠ aU → ls[i]? = some (Slot.val (adV kv ad v))
theorem Lh.at {kv : Nat → Value} {ad : Nat → Nat} {ls : Array Slot} {nL : Nat} {L : List aV} (h : Lh kv ad ls nL L) {i : Nat} {v : aV} (hi : L[i]? = some v) (hv : v ≠ aU) : ls[i]? = some (.val (adV kv ad v)) := h.2.2.2 i v hi hv
theorem Lh.agr {kv : Nat → Value} {ad ad' : Nat → Nat} {ls : Array Slot} {nL n : Nat} {L : List aV} (h : Lh kv ad ls nL L) (ha : agr n ad ad') (hr : rokL n L) : Lh kv ad' ls nL L :=
  ⟨h.1, h.2.1, h.2.2.1, fun i v hi hv => by rw [adV_agr ha (rokL_at hr hi)]; exact h.2.2.2 i v hi hv⟩
/-- the locals as a list of places and values -/
def lvl (kv : Nat → Value) (ad : Nat → Nat) : Nat → List aV → List (Nat × Value)
  | _, [] => []
  | i, v :: L => if v = aU then lvl kv ad (i + 1) L else (i, adV kv ad v) :: lvl kv ad (i + 1) L
theorem lvl_mem {kv : Nat → Value} {ad : Nat → Nat} : ∀ {L : List aV} {k i : Nat} {v : aV}, L[i]? = some v → v ≠ aU → (k + i, adV kv ad v) ∈ lvl kv ad k L
  | [], k, i, v, h, _ => by simp at h
  | w :: L, k, 0, v, h, hv => by
    have e : w = v := by simpa using h
    subst e
    simp [lvl, hv]
  | w :: L, k, i + 1, v, h, hv => by
    have h1 : L[i]? = some v := by simpa using h
    have h2 := lvl_mem (kv := kv) (ad := ad) (k := k + 1) h1 hv
    rw [show k + 1 + i = k + (i + 1) by omega] at h2
    unfold lvl
    split
    · exact h2
    · exact List.mem_cons_of_mem _ h2
theorem mem_lvl {kv : Nat → Value} {ad : Nat → Nat} : ∀ {L : List aV} {k : Nat} {q : Nat × Value}, q ∈ lvl kv ad k L → ∃ i v, L[i]? = some v ∧ v ≠ aU ∧ q = (k + i, adV kv ad v)
  | [], k, q, h => by simp [lvl] at h
  | w :: L, k, q, h => by
    unfold lvl at h
    split at h
    · obtain ⟨i, v, h1, h2, h3⟩ := mem_lvl h
      exact ⟨i + 1, v, by simpa using h1, h2, by rw [h3]; simp; omega⟩
    · rename_i hw
      rcases List.mem_cons.mp h with h | h
      · exact ⟨0, w, rfl, hw, by rw [h]; simp⟩
      · obtain ⟨i, v, h1, h2, h3⟩ := mem_lvl h
        exact ⟨i + 1, v, by simpa using h1, h2, by rw [h3]; simp; omega⟩
theorem Lh.has {kv : Nat → Value} {ad : Nat → Nat} {ls : Array Slot} {nL : Nat} {L : List aV} (h : Lh kv ad ls nL L) : lv_has ls nL (lvl kv ad 0 L) := by
  refine ⟨h.2.1, h.2.2.1, fun q hq => ?_⟩
  obtain ⟨i, v, h1, h2, h3⟩ := mem_lvl hq
  rw [h3]
  simpa using h.2.2.2 i v h1 h2
theorem isC2_cat {kv : Nat → Value} (hkv : ∀ j, kv j = .null ∨ ∃ t, kv j = .ref t) {ad : Nat → Nat} {v : aV} (h : isC2 v = false) : (adV kv ad v).category = 1 := by
  unfold adV
  split
  · rfl
  · rfl
  · rename_i j
    rcases hkv j with e | ⟨t, e⟩ <;> rw [e] <;> rfl
  · rename_i w hw
    cases w <;> first | rfl | (simp [isC2] at h)
/-- a store of one word -/
theorem Lh.st1 {kv : Nat → Value} (hkv : ∀ j, kv j = .null ∨ ∃ t, kv j = .ref t) {ad : Nat → Nat} {ls ls' : Array Slot} {nL : Nat} {L : List aV} {i : Nat} {v : aV} (h : Lh kv ad ls nL L) (ho : okst L i = true)
    (h' : lv_has ls' nL ((i, adV kv ad v) :: (lvl kv ad 0 L).filter (fun q => !(q.1 == i) && !(q.1 + 1 == i && q.2.category == 2)))) : Lh kv ad ls' nL (L.set i v) := by
  refine ⟨by rw [List.length_set]; exact h.1, h'.1, h'.2.1, fun j w hj hw => ?_⟩
  rw [List.getElem?_set] at hj
  split at hj
  · rename_i e
    subst e
    split at hj
    · cases hj
      exact h'.2.2 (i, adV kv ad v) List.mem_cons_self
    · cases hj
  · rename_i e
    refine h'.2.2 (j, adV kv ad w) (List.mem_cons_of_mem _ (List.mem_filter.mpr ⟨by simpa using lvl_mem (kv := kv) (ad := ad) (k := 0) hj hw, ?_⟩))
    have e1 : (j == i) = false := by simp; omega
    simp only [e1, Bool.not_false, Bool.true_and, Bool.not_eq_true', Bool.and_eq_false_iff, beq_eq_false_iff_ne, ne_eq]
    by_cases e2 : j + 1 = i
    · right
      subst e2
      have ho2 : isC2 w = false := by
        simp only [okst] at ho
        rw [List.getD_eq_getElem?_getD, hj] at ho
        simpa using ho
      rw [isC2_cat hkv ho2]
      decide
    · left
      exact e2
theorem Lh.st2 {kv : Nat → Value} (hkv : ∀ j, kv j = .null ∨ ∃ t, kv j = .ref t) {ad : Nat → Nat} {ls ls' : Array Slot} {nL : Nat} {L : List aV} {i : Nat} {v : aV} (h : Lh kv ad ls nL L) (ho : okst L i = true)
    (h' : lv_has ls' nL ((i, adV kv ad v) :: (lvl kv ad 0 L).filter (fun q => !(q.1 == i) && (!(q.1 == i + 1) && !(q.1 + 1 == i && q.2.category == 2))))) : Lh kv ad ls' nL ((L.set i v).set (i + 1) aU) := by
  refine ⟨by rw [List.length_set, List.length_set]; exact h.1, h'.1, h'.2.1, fun j w hj hw => ?_⟩
  rw [List.getElem?_set] at hj
  split at hj
  · split at hj
    · cases hj
      exact absurd rfl hw
    · cases hj
  · rename_i e0
    rw [List.getElem?_set] at hj
    split at hj
    · rename_i e
      subst e
      split at hj
      · cases hj
        exact h'.2.2 (i, adV kv ad v) List.mem_cons_self
      · cases hj
    · rename_i e
      refine h'.2.2 (j, adV kv ad w) (List.mem_cons_of_mem _ (List.mem_filter.mpr ⟨by simpa using lvl_mem (kv := kv) (ad := ad) (k := 0) hj hw, ?_⟩))
      have e1 : (j == i) = false := by simp; omega
      have e3 : (j == i + 1) = false := by simp; omega
      simp only [e1, e3, Bool.not_false, Bool.true_and, Bool.not_eq_true', Bool.and_eq_false_iff, beq_eq_false_iff_ne, ne_eq]
      by_cases e2 : j + 1 = i
      · right
        subst e2
        have ho2 : isC2 w = false := by
          simp only [okst] at ho
          rw [List.getD_eq_getElem?_getD, hj] at ho
          simpa using ho
        rw [isC2_cat hkv ho2]
        decide
      · left
        exact e2
theorem Lh.kill {kv : Nat → Value} {ad : Nat → Nat} {ls : Array Slot} {nL : Nat} {L : List aV} (i : Nat) (h : Lh kv ad ls nL L) : Lh kv ad ls nL (L.set i aU) := by
  refine ⟨by rw [List.length_set]; exact h.1, h.2.1, h.2.2.1, fun j w hj hw => ?_⟩
  rw [List.getElem?_set] at hj
  split at hj
  · split at hj
    · cases hj
      exact absurd rfl hw
    · cases hj
  · exact h.2.2.2 j w hj hw
