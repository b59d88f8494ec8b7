def isH (y : Nat) : Bool := Nat.ble 1000 y
def Cw (y : Nat) : Cond := bif isH y then .codeWith (mnm y) (mby y) (mnL y) (mrt y) (mhh y) else .code (mnm y) (mby y) (mnL y) (mrt y)
def WLy (y : Nat) : List Cond := Cw y :: WL
def nmF (y : Nat) : Prop := (mnm y).cls ≠ "java/lang/invoke/MethodHandle" ∧ (mnm y).cls ≠ "java/lang/invoke/VarHandle" ∧ (parseMethodDescriptor (mnm y).desc).map (fun d => d.parameters.length) = some (mpn y) ∧ plainFor (mnm y) = true ∧ mnL y ≤ 11 ∧ (mnm y).cls = cn (ocl y)
theorem nm_of {y : Nat} (h : nmOK y = true) : nmF y := by
  simp only [nmOK, Bool.and_eq_true, decide_eq_true_eq] at h
  obtain ⟨⟨⟨⟨a1, a2, a3⟩, a4⟩, a5⟩, a6⟩ := h
  exact ⟨a1, a2, a3, a4, Nat.le_of_ble_eq_true a5, a6⟩
theorem kinds_ok : (M0L ++ (M1L ++ M2L)).all (fun y => !(isH y) && (mhh y).isEmpty && Nat.blt y 387) = true ∧ M7L.all (fun y => isH y && Nat.blt y 387) = true := by decide +kernel
/-- what stands of a callee, whatever the kind -/
def Kd (y : Nat) : Prop := nmF y ∧ y < 387 ∧ Cw y ∈ WL ∧ goodWord (Cw y) = true ∧ (.initialized (mnm y).cls) ∈ WL ∧ ((isH y = false ∧ mhh y = []) ∨ isH y = true)
theorem k012 {y : Nat} (h : y ∈ M0L ∨ y ∈ M1L ∨ y ∈ M2L) : isH y = false ∧ mhh y = [] ∧ y < 387 := by
  have h1 := List.all_eq_true.mp kinds_ok.1 y (by simpa using h)
  simp only [Bool.and_eq_true, Bool.not_eq_true'] at h1
  exact ⟨h1.1.1, List.isEmpty_iff.mp h1.1.2, Nat.le_of_ble_eq_true h1.2⟩
theorem Cw_0 {y : Nat} (h : isH y = false) : Cw y = .code (mnm y) (mby y) (mnL y) (mrt y) := by rw [Cw, h]; rfl
theorem Cw_7 {y : Nat} (h : isH y = true) : Cw y = .codeWith (mnm y) (mby y) (mnL y) (mrt y) (mhh y) := by rw [Cw, h]; rfl
theorem K0 {y : Nat} (h : y ∈ M0L) : Kd y ∧ isH y = false ∧ mpn y + 1 ≤ mnL y ∧ (.instanceMethod (mnm y)) ∈ WL ∧ (.selects (mnm y).cls (mnm y) (mnm y)) ∈ WL := by
  have h0 := List.all_eq_true.mp M0_ok y h
  obtain ⟨e1, e2, e3⟩ := k012 (Or.inl h)
  simp only [ok0, Bool.and_eq_true, decide_eq_true_eq] at h0
  obtain ⟨⟨⟨⟨⟨a0, a1⟩, a2⟩, a3⟩, a4⟩, a5⟩ := h0
  exact ⟨⟨nm_of a5, e3, by rw [Cw_0 e1]; exact mw _ a4 rfl, by rw [Cw_0 e1]; rfl, mw _ a3 rfl, Or.inl ⟨e1, e2⟩⟩, e1, Nat.le_of_ble_eq_true a0, mw _ a1 rfl, mw _ a2 rfl⟩
theorem K1 {y : Nat} (h : y ∈ M1L) : Kd y ∧ isH y = false ∧ mpn y ≤ mnL y ∧ (.static (mnm y)) ∈ WL := by
  have h0 := List.all_eq_true.mp M1_ok y h
  obtain ⟨e1, e2, e3⟩ := k012 (Or.inr (Or.inl h))
  simp only [ok1, Bool.and_eq_true, decide_eq_true_eq] at h0
  obtain ⟨⟨⟨⟨a0, a1⟩, a3⟩, a4⟩, a5⟩ := h0
  exact ⟨⟨nm_of a5, e3, by rw [Cw_0 e1]; exact mw _ a4 rfl, by rw [Cw_0 e1]; rfl, mw _ a3 rfl, Or.inl ⟨e1, e2⟩⟩, e1, Nat.le_of_ble_eq_true a0, mw _ a1 rfl⟩
theorem K2 {y : Nat} (h : y ∈ M2L) : Kd y ∧ isH y = false ∧ mpn y + 1 ≤ mnL y ∧ (.instanceMethod (mnm y)) ∈ WL ∧ (mnm y).name = "<init>" ∧ mrt y = none := by
  have h0 := List.all_eq_true.mp M2_ok y h
  obtain ⟨e1, e2, e3⟩ := k012 (Or.inr (Or.inr h))
  simp only [ok2, Bool.and_eq_true, decide_eq_true_eq] at h0
  obtain ⟨⟨⟨⟨⟨⟨a0, a1⟩, a3⟩, a4⟩, a6⟩, a7⟩, a5⟩ := h0
  exact ⟨⟨nm_of a5, e3, by rw [Cw_0 e1]; exact mw _ a4 rfl, by rw [Cw_0 e1]; rfl, mw _ a3 rfl, Or.inl ⟨e1, e2⟩⟩, e1, Nat.le_of_ble_eq_true a0, mw _ a1 rfl, a6, a7⟩
theorem K7 {y : Nat} (h : y ∈ M7L) : Kd y ∧ isH y = true ∧ mpn y ≤ mnL y ∧ (.static (mnm y)) ∈ WL := by
  have h0 := List.all_eq_true.mp M7_ok y h
  have h1 := List.all_eq_true.mp kinds_ok.2 y h
  simp only [Bool.and_eq_true] at h1
  simp only [ok7, Bool.and_eq_true, decide_eq_true_eq] at h0
  obtain ⟨⟨⟨⟨a0, a1⟩, a3⟩, a4⟩, a5⟩ := h0
  exact ⟨⟨nm_of a5, Nat.le_of_ble_eq_true h1.2, by rw [Cw_7 h1.1]; exact mw _ a4 rfl, by rw [Cw_7 h1.1]; rfl, mw _ a3 rfl, Or.inr h1.1⟩, h1.1, Nat.le_of_ble_eq_true a0, mw _ a1 rfl⟩
def ordX : MethodName := ⟨"BalloonPost$Command", "ordinal", "()I"⟩
theorem w_ord : mnm 385 = ⟨"java/lang/Enum", "ordinal", "()I"⟩ ∧ lw_tbl[466]? = some (.code (mnm 385) (mby 385) (mnL 385) (mrt 385)) ∧ lw_tbl[464]? = some (.selects "BalloonPost$Command" ordX (mnm 385)) ∧ lw_tbl[462]? = some (.sameMethod "BalloonPost$Command" "java/lang/Enum" "ordinal" "()I") ∧ lw_tbl[463]? = some (.declares ⟨"java/lang/Enum", "ordinal", "()I"⟩) ∧ lw_tbl[465]? = some (.instanceMethod (mnm 385)) ∧ lw_tbl[27]? = some (.initialized "java/lang/Enum") ∧ nmOK 385 = true ∧ isH 385 = false ∧ mhh 385 = [] ∧ mpn 385 = 0 ∧ 1 ≤ mnL 385 ∧ (parseMethodDescriptor ordX.desc).map (fun d => d.parameters.length) = some 0 := by decide +kernel
theorem KO : Kd 385 ∧ isH 385 = false := by
  obtain ⟨a0, a1, -, -, -, -, a6, a7, a8, a9, -⟩ := w_ord
  refine ⟨⟨nm_of a7, by decide, by rw [Cw_0 a8]; exact mw _ a1 rfl, by rw [Cw_0 a8]; rfl, ?_, Or.inl ⟨a8, a9⟩⟩, a8⟩
  rw [a0]
  exact mw _ a6 rfl
def NMLp : List (Nat × Nat × Nat × Nat) := [(1, 24, 74, 202), (3, 11, 59, 222), (3, 20, 74, 251), (6, 11, 48, 48), (6, 20, 0, 80), (6, 27, 15, 113), (7, 9, 74, 42), (7, 31, 33, 216)]
theorem NMLp_ok : NMLp.all (fun z => decide (lw_tbl[z.2.2.2]? = some (.methodLinkNest (cn z.1) z.2.1 (mnm z.2.2.1) "BalloonPost"))) = true := by decide +kernel
theorem NML_p : NML.all (fun z => NMLp.any (fun w => Nat.beq w.1 z.1 && Nat.beq w.2.1 z.2.1 && Nat.beq w.2.2.1 z.2.2)) = true := by decide +kernel
theorem nml {s : State} (hN : NF s) {ow idx y q p : Nat} (h : (ow, idx, 8, y, q, p) ∈ RI) : va_Nw (.methodLinkNest (cn ow) idx (mnm y) "BalloonPost") s := by
  have h1 := List.all_eq_true.mp RI_nm _ h
  have h2 : NML.contains (ow, idx, y) = true := by simpa using h1
  have h3 := List.all_eq_true.mp NML_p _ (by simpa using h2)
  obtain ⟨w, hw, h4⟩ := List.any_eq_true.mp h3
  simp only [Bool.and_eq_true] at h4
  have e1 := bq h4.1.1
  have e2 := bq h4.1.2
  have e3 := bq h4.2
  have h5 := of_decide_eq_true (List.all_eq_true.mp NMLp_ok w hw)
  rw [e1, e2, e3] at h5
  exact hN.1 _ (nl_in _ h5 rfl)
/-- the handlers' rows against the bytes -/
def okHr (y : Nat) : List (Nat × Nat × Nat × Nat) → List (Nat × Nat × Nat × Nat × Nat) → Bool
  | [], [] => true
  | (lo, hi, h, ct) :: a, (lo', hi', hp, e, sl) :: b => Nat.beq lo lo' && Nat.beq hi hi' && Nat.blt e 4 && Nat.blt sl (mnL y) && ((Nat.beq hp (h + 2) && dq y h (.astore sl) 2) || (Nat.beq hp (h + 1) && Nat.blt sl 4 && dq y h (.astore_n (f4 sl)) 1)) && okHr y a b
  | _, _ => false
theorem okH_all : M7L.all (fun y => okHr y (mhh y) (mhnd y) && Nat.beq (ocl y) 9) = true ∧ (List.range 388).all (fun y => isH y || (mhnd y).isEmpty) = true := by decide +kernel
theorem cb_ar' {x D k L : Nat} (hx : x ≤ 11) (h : D + (k + 30) ≤ L) : 8 + (x + 11) + (D + k) ≤ L := by omega
theorem cb_ar {x d L : Nat} (hx : x ≤ 11) (h : 30 * d + 130 ≤ L) : 8 + (x + 11) + (30 * d + 100) ≤ L := cb_ar' (D := 30 * d) (k := 100) hx h
theorem Lh.stU {kv : Nat → Value} (hkv : ∀ j, kv j = .null ∨ ∃ t, kv j = .ref t) {ad : Nat → Nat} {ls ls' : Array Slot} {nL : Nat} {L : List aV} {i : Nat} {w9 : Value} (h : Lh kv ad ls nL L) (ho : okst L i = true)
    (h' : lv_has ls' nL ((i, w9) :: (lvl kv ad 0 L).filter (fun q => !(q.1 == i) && !(q.1 + 1 == i && q.2.category == 2)))) : Lh kv ad ls' nL (L.set i aU) := by
  refine ⟨by rw [List.length_set]; exact h.1, h'.1, h'.2.1, fun j w hj hw => ?_⟩
  rw [List.getElem?_set] at hj
  split at hj
  · split at hj
    · cases hj
      exact absurd rfl hw
    · cases hj
  · rename_i e
    refine h'.2.2 (j, adV kv ad w) (List.mem_cons_of_mem _ (List.mem_filter.mpr ⟨by simpa using lvl_mem (kv := kv) (ad := ad) (k := 0) hj hw, ?_⟩))
    have e1 : (j == i) = false := by simp; omega
    simp only [e1, Bool.not_false, Bool.true_and, Bool.not_eq_true', Bool.and_eq_false_iff, beq_eq_false_iff_ne, ne_eq]
    by_cases e2 : j + 1 = i
    · right
      subst e2
      have ho2 : isC2 w = false := by
        simp only [okst] at ho
        rw [List.getD_eq_getElem?_getD, hj] at ho
        simpa using ho
      rw [isC2_cat hkv ho2]
      decide
    · left
      exact e2
theorem Iv.grow {D : va_G} {cl : List vw_C} {A : Nat → Prop} {cA : Nat → ClassId} {kv : Nat → Value} {X : Nat × (Nat → Int)} {ad : Nat → Nat} {h : aH} {H H1 : Heap} (hI : Iv D cl A cA kv X ad h H) (hk : ∀ q : Nat, q < H.size → H1[q]? = H[q]?) : Iv D cl A cA kv X ad h H1 :=
  ⟨hI.1.kept fun k q hq => hk q.1 (vx_lt hI.1 hq), hI.2⟩
theorem popN_eq : ∀ {n : Nat} {S args S' : List aV}, popN n S = some (args, S') → S = args.reverse ++ S' ∧ args.length = n
  | 0, S, args, S', h => by
    simp only [popN] at h
    cases h
    exact ⟨rfl, rfl⟩
  | n + 1, [], args, S', h => by cases h
  | n + 1, v :: S, args, S', h => by
    simp only [popN, Option.map_eq_some_iff] at h
    obtain ⟨⟨a, b⟩, h1, h2⟩ := h
    cases h2
    obtain ⟨e1, e2⟩ := popN_eq h1
    refine ⟨?_, by simp [e2]⟩
    rw [e1]
    simp
/-! the contract of a method at a depth -/
def rmD (d y : Nat) : Room := { frames := d + 2, locals := 30 * d + 100, cells := (mbud y).1, slots := (mbud y).2 }
def PcA (D : va_G) (A : Nat → Prop) (cA : Nat → ClassId) (kv : Nat → Value) (X : Nat × (Nat → Int)) (ad : Nat → Nat) (h : aH) (args : List aV) : Array Value → State → Prop := fun a U =>
  a = (args.map (adV kv ad)).toArray ∧ va_K D clA (tysA cA) U ∧ CF A kv X U ∧ NF U ∧ (∀ q, U.heap.size ≤ q → A q) ∧ Iv D clA A cA kv X ad h U.heap
def QcA (D : va_G) (A : Nat → Prop) (cA : Nat → ClassId) (kv : Nat → Value) (X : Nat × (Nat → Int)) (ad : Nat → Nat) (n0 : Nat) (res : aRes) : Array Value → State → Outcome → State → Prop := fun _ st o t =>
  (∃ v ad' h', res = (.inl v, h') ∧ o = .returned (v.map (adV kv ad')) ∧ agr n0 ad ad' ∧ n0 ≤ h'.2.1 ∧ (∀ w, v = some w → rok h'.2.1 w) ∧ Iv D clA A cA kv X ad' h' t.heap) ∧ va_F A st t
def XcA (D : va_G) (A : Nat → Prop) (cA : Nat → ClassId) (kv : Nat → Value) (X : Nat × (Nat → Int)) (ad : Nat → Nat) (n0 : Nat) (res : aRes) : String → State → State → Prop := fun E st t =>
  (∃ e ad' h', res = (.inr e, h') ∧ E = exn e ∧ e < 4 ∧ agr n0 ad ad' ∧ n0 ≤ h'.2.1 ∧ Iv D clA A cA kv X ad' h' t.heap) ∧ va_F A st t
def MetA (l : Launch) (d y : Nat) (args : List aV) (h : aH) (res : aRes) : Prop :=
  ∀ (D : va_G) (A : Nat → Prop) (cA : Nat → ClassId) (kv : Nat → Value) (X : Nat × (Nat → Int)) (ad : Nat → Nat), (∀ j, kv j = .null ∨ ∃ t, kv j = .ref t) →
    vx_Met l (mnm y) (WLy y) (rmD d y) (PcA D A cA kv X ad h args) (QcA D A cA kv X ad h.2.1 res) (XcA D A cA kv X ad h.2.1 res) (mbud y).1 (mbud y).2 A
theorem PcA.blind {D : va_G} {A : Nat → Prop} {cA : Nat → ClassId} {kv : Nat → Value} {X : Nat × (Nat → Int)} {ad : Nat → Nat} {h : aH} {args : List aV} : FrameBlind (PcA D A cA kv X ad h args) := by
  intro a U g mk hp
  obtain ⟨h1, h2, h3, h4, h5, h6⟩ := hp
  exact ⟨h1, h2.moved (u := U) (U := U.calling g mk a) (Vm.Alike.refl U.vm), h3.blind g mk a, h4.warm (s := U) (U := U.calling g mk a) (State.WarmedH.refl U), h5, h6⟩
section CL
variable {p : Program} {l : Launch} {e : Env} {R : Room} {s : State} {m : MethodId} {args : Array Value} {below : List Frame} {meth : Method} {c : Code} {Q : State → Prop}
variable {D : va_G} {A : Nat → Prop} {cA : Nat → ClassId} {kv : Nat → Value} {X : Nat × (Nat → Int)} {n0 : Nat} {ad0 : Nat → Nat} {y : Nat}
variable {pc : Nat} {L S : List aV} {kc ks : Nat} {h : aH} {H : Heap} {locs : List Loc} {ls : Array Slot} {ad : Nat → Nat}
theorem PcA.here {as : List aV} (hB : BX p R s m args meth c D A cA kv X y) (hS : va_S A s.heap H locs) (hI : Iv D clA A cA kv X ad h H) {U : State} (hU : U.heap = H) (hW : s.WarmedH U.vm) : PcA D A cA kv X ad h as (as.map (adV kv ad)).toArray U := by
  obtain ⟨hx, hb, hkv, hts, hown, hK, hC, hN, hA, -⟩ := hB
  subst hU
  exact ⟨rfl, hK.moved hW.alike, hC.warm hW hS.1 (fun q h1 h2 => hS.2.1 q h1 h2), hN.warm hW, fun q hq => hA q (Nat.le_trans hS.1 hq), hI⟩
/-- behind a call: what it returned or threw -/
theorem am_after {q : aRes} {a : Array Value} {mc ms : Nat} {st0 rest : List Value} (hr : vx_Run p l e R s m args below meth c H locs kc ks mc ms (F0 m pc ls st0) rest (QcA D A cA kv X ad h.2.1 q a) (XcA D A cA kv X ad h.2.1 q) A) (hS : va_S A s.heap H locs)
    (kk : ∀ (v : Option aV) (ad' : Nat → Nat) (h' : aH) (H' : Heap) (locs' : List Loc), q = (.inl v, h') → agr h.2.1 ad ad' → h.2.1 ≤ h'.2.1 → (∀ w, v = some w → rok h'.2.1 w) → Iv D clA A cA kv X ad' h' H' → va_S A s.heap H' locs' → W p l e R s m args below meth c H' locs' (kc + mc) (ks + ms) Q (F0 m (pc + 3) ls ((v.map (adV kv ad')).toList ++ rest)))
    (kx : ∀ (x : Nat) (ad' : Nat → Nat) (h' : aH) (H' : Heap) (locs' : List Loc) (ce : Cell) (q9 : Addr), q = (.inr x, h') → x < 4 → agr h.2.1 ad ad' → h.2.1 ≤ h'.2.1 → Iv D clA A cA kv X ad' h' H' → va_S A s.heap H' locs' → H'[q9]? = some ce → ce.vm = .none → s.vm.findClass (exn x) = some ce.cls → vx_W p l e R s m args below meth c H' locs' (kc + mc) (ks + ms) Q (F0 m pc ls rest) q9) : W p l e R s m args below meth c H locs kc ks Q (F0 m pc ls st0) := by
  intro T hT X9
  rcases hr T hT X9 with ⟨v, st₀, t, T', L9, h0, X', hL, e1, e2, ⟨⟨v', ad', h', hq, ho, g1, g2, g3, hI⟩, hF⟩, st⟩ | ⟨q9, st₀, t, T', L9, E, ce, h0, X', hL, e1, e2, ⟨⟨x, ad', h', hq, hE, hx4, g1, g2, hI⟩, hF⟩, hce, hcv, hcl, st⟩
  · cases ho
    obtain ⟨k1, k2, k3⟩ := vx_keep h0 e1 hS (fun _ _ z => z) (fun _ z => z) hL hF
    obtain ⟨t2, a1, b1⟩ := kk v' ad' h' T'.heap (locs ++ L9) hq g1 g2 g3 (by rw [e1]; exact hI) k3 T' rfl X'
    exact ⟨t2, st t2 a1, b1⟩
  · obtain ⟨k1, k2, k3⟩ := vx_keep h0 e1 hS (fun _ _ z => z) (fun _ z => z) hL hF
    subst hE
    obtain ⟨t2, a1, b1⟩ := kx x ad' h' T'.heap (locs ++ L9) ce q9 hq hx4 g1 g2 (by rw [e1]; exact hI) k3 (by rw [e1]; exact hce) hcv hcl T' rfl X'
    exact ⟨t2, st.trans a1, b1⟩
theorem WLa {U : State} (hts : ∀ w ∈ WL, w.before args s = true) {y : Nat} (hd : Kd y) : ∀ w ∈ WLy y, ∀ (a' : Array Value) (U : State), s.WarmedH U.vm → w.before a' U = true := by
  intro w hw a' U hW
  have hw2 : w ∈ WL := by
    rcases List.mem_cons.mp hw with e | hw
    · rw [e]; exact hd.2.2.1
    · exact hw
  exact word_at hW (good_of_word (WL_tbl hw2).2) (hts w hw2)
theorem WLb (hts : ∀ w ∈ WL, w.before args s = true) {y : Nat} (hd : Kd y) : ∀ w ∈ WLy y, ∀ (a' : Array Value) (U : State), s.WarmedH U.vm → w.before a' U = true := WLa (U := s) hts hd
/-- room for a callee one deeper -/
def RmF (R : Room) (d : Nat) : Prop := d + 3 ≤ R.frames ∧ 30 * d + 130 ≤ R.locals
theorem cb_of (hts : ∀ w ∈ WL, w.before args s = true) {d b idx p9 n : Nat} {own : String} (hd : Kd b) (hh : isH b = false) (hR : RmF R d) (hn : n = mpn b) (hl : lw_tbl[p9]? = some (.methodLink own idx (mnm b))) :
    CallB R s args own idx (mnm b) (mby b) (mnL b) (mrt b) (WLy b) (rmD d b) (mbud b).1 (mbud b).2 n := by
  obtain ⟨⟨a1, a2, a3, a4, a5, a6⟩, b1, b2, b3, b4, b5⟩ := id hd
  have hc : Cond.code (mnm b) (mby b) (mnL b) (mrt b) ∈ WLy b := by rw [WLy, Cw_0 hh]; exact List.mem_cons_self
  refine ⟨rfl, rfl, hR.1, ?_, WLb hts hd, hc, ?_, hts _ b4, ⟨a1, a2⟩, fun sig e => ?_, WLw hts p9 hl rfl⟩
  · exact cb_ar a5 hR.2
  · rw [Cw_0 hh] at b2
    exact hts _ b2
  · rw [e] at a3
    rw [hn]
    exact (Option.some.inj a3).symm
theorem rk_args {n : Nat} {as S' : List aV} (hr : rokL n (as.reverse ++ S')) : rokL n as ∧ rokL n S' := ⟨fun v hv => hr v (List.mem_append_left _ (List.mem_reverse.mpr hv)), fun v hv => hr v (List.mem_append_right _ hv)⟩
/-- the run of a call, by its kind -/
theorem am_run (hB : BX p R s m args meth c D A cA kv X y) {d b kd idx na p9 : Nat} {as S' : List aV} {q : aRes} {f : Nat → Instr} (hR : RmF R d) (hM : MetA l d b as h q) (hok : okI (ocl y, idx, kd, b, na, p9) = true) (hin : (ocl y, idx, kd, b, na, p9) ∈ RI) (hna : as.length = na)
    (hf : f = (bif (Nat.beq kd 0 || Nat.beq kd 5 || Nat.beq kd 6) then .invokevirtual else bif (Nat.beq kd 1 || Nat.beq kd 7) then .invokestatic else .invokespecial)) (hdg : decode (mby y) pc = .ok (f idx, 3))
    (hrc : rcv ocl kd b as h) (hS4 : S'.length ≤ 4) (hI : Iv D clA A cA kv X ad h H) (hS : va_S A s.heap H locs) (hL : Lh kv ad ls (mnL y) L) (h1 : kc + (mbud b).1 ≤ R.cells) (h2 : ks + (mbud b).2 ≤ R.slots) :
    vx_Run p l e R s m args below meth c H locs kc ks (mbud b).1 (mbud b).2 (F0 m pc ls ((as.reverse ++ S').map (adV kv ad))) (S'.map (adV kv ad)) (QcA D A cA kv X ad h.2.1 q (as.map (adV kv ad)).toArray) (XcA D A cA kv X ad h.2.1 q) A := by
  have hP : PreS s H (PcA D A cA kv X ad h as) (as.map (adV kv ad)) := ⟨PcA.blind, fun U hU hW => PcA.here hB hS hI hU hW⟩
  obtain ⟨hx, hb, hkv, hts, hown, hK, hC, hN, hA, hnm, hml, hfr, hlo, hR1, hR2⟩ := id hB
  have hF : CallFix p m c (mby y) (mnL y) s args WL (cn (ocl y)) := ⟨hx, hb, hml, hown, hts⟩
  have hMM := hM D A cA kv X ad hkv
  have hcat : 2 * (F0 m pc ls ((as.reverse ++ S').map (adV kv ad))).monitorRoom + ((S'.map (adV kv ad)).map fun v => v.category).sum ≤ 8 := by
    have := catL hkv (ad := ad) hS4
    show 2 * 0 + _ ≤ 8
    omega
  have hst : (as.reverse ++ S').map (adV kv ad) = (as.map (adV kv ad)).reverse ++ S'.map (adV kv ad) := by simp
  have hsz : ls.size = mnL y := hL.2.1
  match kd, hok, hf, hrc, hin with
  | 0, hok, hf, hrc, hin =>
    simp only [okI, Bool.and_eq_true, decide_eq_true_eq, beq_iff_eq] at hok
    obtain ⟨⟨⟨⟨o1, o2⟩, o3⟩, o4⟩, o5⟩ := hok
    obtain ⟨k1, k2, k3, k4, k5⟩ := K0 (y := b) (by simpa using o2)
    match as, hrc, hna, hP, hst, hMM with
    | .inr (.inl a) :: as, hrc, hna, hP, hst, hMM =>
      have hna : as.length = mpn b := by simp only [List.length_cons] at hna; omega
      have hrc : isOb (h.2.2 a) (ocl b) := hrc
      unfold isOb at hrc
      split at hrc
      · rename_i k fs hc9
        have hlt : a < h.2.1 := hI.lt (by
          rw [hc9]
          intro z
          have z1 : k = 999 := congrArg (fun c : aCell => match c with | .inr q => q.1 | .inl _ => 0) z
          have z2 : ocl b < 9 := o4
          rw [← hrc, z1] at z2
          exact absurd z2 (by decide))
        subst hrc
        have hg := wsl_get (cA := cA) (kv := kv) (ad := ad) hlt
        rw [hc9] at hg
        obtain ⟨cell, c1, c2, c3⟩ := va_recv hK hI.1 (clA_at _ o4) hg
        subst hf
        refine vx_runV (C := (mnm b).cls) (b := ad a) (As := as.map (adV kv ad)) hF hMM ⟨cb_of hts k1 k2 hR rfl o1, hts _ k4, hts _ k5⟩ ⟨PcA.blind, ⟨cell, c1, c2, by rw [o5]; exact c3⟩, hP.2⟩ rfl (by simpa using hna) hsz ?_ hcat hdg ⟨h1, h2⟩
        rw [hst]
        simp [adV]
      · exact absurd hrc (by simp)
    | [], hrc, _, _, _, _ => exact absurd hrc (by simp [rcv])
    | .inl _ :: _, hrc, _, _, _, _ => exact absurd hrc (by simp [rcv])
    | .inr (.inr _) :: _, hrc, _, _, _, _ => exact absurd hrc (by simp [rcv])
  | 5, hok, hf, hrc, hin =>
    simp only [okI, Bool.and_eq_true, decide_eq_true_eq, beq_iff_eq] at hok
    obtain ⟨⟨⟨o1, o2⟩, o3⟩, o5⟩ := hok
    obtain ⟨k1, k2, k3, k4, k5⟩ := K0 (y := b) (by simpa using o2)
    match as, hrc, hna, hP, hst, hMM with
    | .inr (.inr (.ref j)) :: as, hrc, hna, hP, hst, hMM =>
      have hna : as.length = mpn b := by simp only [List.length_cons] at hna; omega
      have hrc : 19 ≤ j ∧ j < 80 := hrc
      obtain ⟨q9, e9, hO⟩ := hC.2.2.2.1 j (Nat.le_trans (by decide) hrc.1) hrc.2
      rw [if_neg (Nat.not_lt.mpr hrc.1)] at hO
      obtain ⟨cell, c1, c2, c3⟩ := va_Orecv hO hS
      subst hf
      have hP2 : ∀ U : State, U.heap = H → s.WarmedH U.vm → PcA D A cA kv X ad h (.inr (.inr (.ref j)) :: as) (Value.ref q9 :: as.map (adV kv ad)).toArray U := by
        intro U hU hW
        have := hP.2 U hU hW
        rw [List.map_cons, show adV kv ad (.inr (.inr (.ref j))) = .ref q9 from e9] at this
        exact this
      rw [List.map_cons, show adV kv ad (.inr (.inr (.ref j))) = .ref q9 from e9]
      exact vx_runV (C := (mnm b).cls) (b := q9) (As := as.map (adV kv ad)) (rest := S'.map (adV kv ad)) (g := F0 m pc ls (((.inr (.inr (.ref j)) :: as : List aV).reverse ++ S').map (adV kv ad))) hF hMM ⟨cb_of hts k1 k2 hR rfl o1, hts _ k4, hts _ k5⟩ ⟨PcA.blind, ⟨cell, c1, c2, by rw [o5]; exact c3⟩, hP2⟩ rfl (by simpa using hna) hsz (by rw [hst, List.map_cons, show adV kv ad (.inr (.inr (.ref j))) = .ref q9 from e9]; simp) hcat hdg ⟨h1, h2⟩
    | [], hrc, _, _, _, _ => exact absurd hrc (by simp [rcv])
    | .inl _ :: _, hrc, _, _, _, _ => exact absurd hrc (by simp [rcv])
    | .inr (.inl _) :: _, hrc, _, _, _, _ => exact absurd hrc (by simp [rcv])
    | .inr (.inr .null) :: _, hrc, _, _, _, _ => exact absurd hrc (by simp [rcv])
    | .inr (.inr (.int _)) :: _, hrc, _, _, _, _ => exact absurd hrc (by simp [rcv])
    | .inr (.inr (.long _)) :: _, hrc, _, _, _, _ => exact absurd hrc (by simp [rcv])
    | .inr (.inr (.float _)) :: _, hrc, _, _, _, _ => exact absurd hrc (by simp [rcv])
    | .inr (.inr (.double _)) :: _, hrc, _, _, _, _ => exact absurd hrc (by simp [rcv])
    | .inr (.inr (.retAddr _)) :: _, hrc, _, _, _, _ => exact absurd hrc (by simp [rcv])
  | 6, hok, hf, hrc, hin =>
    simp only [okI, Bool.and_eq_true, decide_eq_true_eq, beq_iff_eq] at hok
    obtain ⟨⟨o1, o2⟩, o3⟩ := hok
    subst o2
    obtain ⟨k1, k2⟩ := KO
    obtain ⟨w0, w1, w2, w3, w4, w5, w6, w7, w8, w9, w10, w11, w12⟩ := w_ord
    match as, hrc, hna, hP, hst, hMM with
    | .inr (.inr (.ref j)) :: as, hrc, hna, hP, hst, hMM =>
      have hna : as.length = 0 := by simp only [List.length_cons] at hna; omega
      have hrc : 4 ≤ j ∧ j < 19 := hrc
      obtain ⟨q9, e9, hO⟩ := hC.2.2.2.1 j hrc.1 (Nat.lt_trans hrc.2 (by decide))
      rw [if_pos hrc.2] at hO
      obtain ⟨cell, c1, c2, c3⟩ := va_Orecv hO hS
      subst hf
      have hP2 : ∀ U : State, U.heap = H → s.WarmedH U.vm → PcA D A cA kv X ad h (.inr (.inr (.ref j)) :: as) (Value.ref q9 :: as.map (adV kv ad)).toArray U := by
        intro U hU hW
        have := hP.2 U hU hW
        rw [List.map_cons, show adV kv ad (.inr (.inr (.ref j))) = .ref q9 from e9] at this
        exact this
      have hCU : va_CU R s args (cn (ocl y)) "BalloonPost$Command" "java/lang/Enum" idx ordX (mnm 385) (mby 385) (mnL 385) (mrt 385) (WLy 385) (rmD d 385) (mbud 385).1 (mbud 385).2 0 := by
        have hdd : va_Decl s ⟨"java/lang/Enum", "ordinal", "()I"⟩ := va_Decl.abs (hN.1 _ (nl_in _ w4 rfl))
        have hc : Cond.code (mnm 385) (mby 385) (mnL 385) (mrt 385) ∈ WLy 385 := by rw [WLy, Cw_0 k2]; exact List.mem_cons_self
        refine ⟨⟨rfl, rfl, hR.1, ?_, WLb hts k1, hc⟩, WLw hts _ w1 rfl, by rw [w0]; exact WLw hts _ w6 rfl, ⟨by decide, by decide⟩, fun sig e => ?_, WLw hts _ o1 rfl, WLw hts _ w3 rfl, hdd, WLw hts _ w2 rfl, WLw hts _ w5 rfl⟩
        · exact cb_ar k1.1.2.2.2.2.1 hR.2
        · rw [e] at w12
          exact (Option.some.inj w12).symm
      rw [List.map_cons, show adV kv ad (.inr (.inr (.ref j))) = .ref q9 from e9]
      exact vx_runU (C := "BalloonPost$Command") (b := q9) (As := as.map (adV kv ad)) (rest := S'.map (adV kv ad)) (g := F0 m pc ls (((.inr (.inr (.ref j)) :: as : List aV).reverse ++ S').map (adV kv ad))) hF hMM hCU ⟨PcA.blind, ⟨cell, c1, c2, c3⟩, hP2⟩ rfl (by simpa using hna) hsz (by rw [hst, List.map_cons, show adV kv ad (.inr (.inr (.ref j))) = .ref q9 from e9]; simp) hcat hdg ⟨h1, h2⟩
    | [], hrc, _, _, _, _ => exact absurd hrc (by simp [rcv])
    | .inl _ :: _, hrc, _, _, _, _ => exact absurd hrc (by simp [rcv])
    | .inr (.inl _) :: _, hrc, _, _, _, _ => exact absurd hrc (by simp [rcv])
    | .inr (.inr .null) :: _, hrc, _, _, _, _ => exact absurd hrc (by simp [rcv])
    | .inr (.inr (.int _)) :: _, hrc, _, _, _, _ => exact absurd hrc (by simp [rcv])
    | .inr (.inr (.long _)) :: _, hrc, _, _, _, _ => exact absurd hrc (by simp [rcv])
    | .inr (.inr (.float _)) :: _, hrc, _, _, _, _ => exact absurd hrc (by simp [rcv])
    | .inr (.inr (.double _)) :: _, hrc, _, _, _, _ => exact absurd hrc (by simp [rcv])
    | .inr (.inr (.retAddr _)) :: _, hrc, _, _, _, _ => exact absurd hrc (by simp [rcv])
  | 1, hok, hf, hrc, hin =>
    simp only [okI, Bool.and_eq_true, decide_eq_true_eq, beq_iff_eq] at hok
    obtain ⟨⟨o1, o2⟩, o3⟩ := hok
    obtain ⟨k1, k2, k3, k4⟩ := K1 (y := b) (by simpa using o2)
    subst hf
    exact vx_runS (As := as.map (adV kv ad)) hF hMM ⟨cb_of hts k1 k2 hR rfl o1, hts _ k4⟩ hP rfl (by simpa using hna.trans o3) hsz hst hcat hdg ⟨h1, h2⟩
  | 7, hok, hf, hrc, hin =>
    simp only [okI, Bool.and_eq_true, decide_eq_true_eq, beq_iff_eq] at hok
    obtain ⟨⟨o1, o2⟩, o3⟩ := hok
    obtain ⟨k1, k2, k3, k4⟩ := K7 (y := b) (by simpa using o2)
    subst hf
    have hCS : vx_CSW R s args (cn (ocl y)) idx (mnm b) (mby b) (mnL b) (mrt b) (mhh b) (WLy b) (rmD d b) (mbud b).1 (mbud b).2 (mpn b) := by
      obtain ⟨⟨a1, a2, a3, a4, a5, a6⟩, b1, b2, b3, b4, b5⟩ := id k1
      have hc : Cond.codeWith (mnm b) (mby b) (mnL b) (mrt b) (mhh b) ∈ WLy b := by rw [WLy, Cw_7 k2]; exact List.mem_cons_self
      refine ⟨⟨rfl, rfl, hR.1, ?_, WLb hts k1, hc⟩, ?_, hts _ b4, ⟨a1, a2⟩, fun sig e => ?_, WLw hts _ o1 rfl, hts _ k4⟩
      · exact cb_ar a5 hR.2
      · rw [Cw_7 k2] at b2
        exact hts _ b2
      · rw [e] at a3
        exact (Option.some.inj a3).symm
    exact vx_runSX (As := as.map (adV kv ad)) hF hMM hCS hP rfl (by simpa using hna.trans o3) hsz hst hcat hdg ⟨h1, h2⟩
  | 2, hok, hf, hrc, hin =>
    simp only [okI, Bool.and_eq_true, decide_eq_true_eq, beq_iff_eq] at hok
    obtain ⟨⟨o1, o2⟩, o3⟩ := hok
    obtain ⟨k1, k2, k3, k4, k5, k6⟩ := K2 (y := b) (by simpa using o2)
    match as, hrc, hna, hP, hst, hMM with
    | .inr (.inl a) :: as, hrc, hna, hP, hst, hMM =>
      have hna : as.length = mpn b := by simp only [List.length_cons] at hna; omega
      subst hf
      have hcb := cb_of hts k1 k2 hR rfl o1
      rw [k6] at hcb
      exact vx_runI (b := ad a) (As := as.map (adV kv ad)) hF hMM ⟨hcb, k5, hts _ k4⟩ hP rfl (by simpa using hna) hsz (by rw [hst]; simp [adV]) hcat hdg ⟨h1, h2⟩
    | [], hrc, _, _, _, _ => exact absurd hrc (by simp [rcv])
    | .inl _ :: _, hrc, _, _, _, _ => exact absurd hrc (by simp [rcv])
    | .inr (.inr _) :: _, hrc, _, _, _, _ => exact absurd hrc (by simp [rcv])
  | 8, hok, hf, hrc, hin =>
    simp only [okI, Bool.and_eq_true, decide_eq_true_eq, beq_iff_eq] at hok
    obtain ⟨o2, o3⟩ := hok
    obtain ⟨k1, k2, k3, k4, k5, k6⟩ := K2 (y := b) (by simpa using o2)
    match as, hrc, hna, hP, hst, hMM with
    | .inr (.inl a) :: as, hrc, hna, hP, hst, hMM =>
      have hna : as.length = mpn b := by simp only [List.length_cons] at hna; omega
      subst hf
      have hCN : va_CN R s args (cn (ocl y)) idx (mnm b) "BalloonPost" (mby b) (mnL b) none (WLy b) (rmD d b) (mbud b).1 (mbud b).2 (mpn b) := by
        obtain ⟨⟨a1, a2, a3, a4, a5, a6⟩, b1, b2, b3, b4, b5⟩ := id k1
        rw [Cw_0 k2, k6] at b2
        have hc : Cond.code (mnm b) (mby b) (mnL b) none ∈ WLy b := by rw [WLy, Cw_0 k2, k6]; exact List.mem_cons_self
        refine ⟨⟨rfl, rfl, hR.1, ?_, WLb hts k1, hc⟩, hts _ b2, hts _ b4, ⟨a1, a2⟩, fun sig e => ?_, va_Nw.use rfl (nml hN hin)⟩
        · exact cb_ar a5 hR.2
        · rw [e] at a3
          exact (Option.some.inj a3).symm
      exact vx_runIN (b := ad a) (As := as.map (adV kv ad)) hF hMM ⟨hCN, k5, hts _ k4⟩ hP rfl (by simpa using hna) hsz (by rw [hst]; simp [adV]) hcat hdg ⟨h1, h2⟩
    | [], hrc, _, _, _, _ => exact absurd hrc (by simp [rcv])
    | .inl _ :: _, hrc, _, _, _, _ => exact absurd hrc (by simp [rcv])
    | .inr (.inr _) :: _, hrc, _, _, _, _ => exact absurd hrc (by simp [rcv])
  | 3, hok, hf, hrc, hin => exact absurd hrc (by simp [rcv])
  | 4, hok, hf, hrc, hin => exact absurd hrc (by simp [rcv])
  | kd + 9, hok, hf, hrc, hin => exact absurd hrc (by simp [rcv])
end CL
