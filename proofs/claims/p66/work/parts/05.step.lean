/-- the goal at an abstract state: the machine, in any heap that holds it, comes to Q -/
def Wg (p : Program) (l : Launch) (e : Env) (R : Room) (s : State) (m : MethodId) (args : Array Value) (below : List Frame) (meth : Method) (c : Code) (Q : State → Prop) (D : va_G) (cl : List vw_C) (A : Nat → Prop) (cA : Nat → ClassId) (kv : Nat → Value) (X : Nat × (Nat → Int)) (n0 : Nat) (ad0 : Nat → Nat) (nL B1 B2 : Nat) (t : aSt) : Prop :=
  t.2.2.2.1 ≤ B1 → t.2.2.2.2.1 ≤ B2 → n0 ≤ t.2.2.2.2.2.2.1 → ∀ (ad : Nat → Nat) (H : Heap) (locs : List Loc) (ls : Array Slot), agr n0 ad0 ad → Iv D cl A cA kv X ad t.2.2.2.2.2 H → va_S A s.heap H locs → Lh kv ad ls nL t.2.1 → rokL t.2.2.2.2.2.2.1 t.2.1 → rokL t.2.2.2.2.2.2.1 t.2.2.1 →
    W p l e R s m args below meth c H locs t.2.2.2.1 t.2.2.2.2.1 Q (F0 m t.1 ls (t.2.2.1.map (adV kv ad)))
theorem rk1 {n : Nat} {v : aV} {S : List aV} (h : rokL n (v :: S)) : rokL n S := (rokL_cons.mp h).2
theorem rk0 {n : Nat} {v : aV} {S : List aV} (h : rokL n (v :: S)) : rok n v := (rokL_cons.mp h).1
theorem rkI {n : Nat} {x : Int} {S : List aV} (h : rokL n S) : rokL n (aI x :: S) := rokL_cons.mpr ⟨trivial, h⟩
theorem rkW {n : Nat} {w : Value} {S : List aV} (h : rokL n S) : rokL n (aW w :: S) := rokL_cons.mpr ⟨trivial, h⟩
theorem rkV {n : Nat} {v : aV} {S : List aV} (h0 : rok n v) (h : rokL n S) : rokL n (v :: S) := rokL_cons.mpr ⟨h0, h⟩
theorem rkSet {n i : Nat} {v : aV} {L : List aV} (h0 : rok n v) (h : rokL n L) : rokL n (L.set i v) := rokL_set i h0 h
theorem i32_op2 (f : Int32 → Int32 → Int32) (x y : Int) : i32 (op2 f x y) = f (i32 x) (i32 y) := i32_to _
theorem tys_at (cA : Nat → ClassId) {t : Nat} (h : t < 5) : ([(cA 0, .int), (cA 1, .byte), (cA 2, .int), (cA 3, .int), (cA 4, .object "BalloonPost$World")] : List (ClassId × FieldType))[t]? = some (cA t, aty t) := by
  match t, h with
  | 0, _ => rfl
  | 1, _ => rfl
  | 2, _ => rfl
  | 3, _ => rfl
  | 4, _ => rfl
abbrev tysA (cA : Nat → ClassId) : List (ClassId × FieldType) := [(cA 0, .int), (cA 1, .byte), (cA 2, .int), (cA 3, .int), (cA 4, .object "BalloonPost$World")]
section ST
variable {p : Program} {l : Launch} {e : Env} {R : Room} {s : State} {m : MethodId} {args : Array Value} {below : List Frame} {meth : Method} {c : Code} {Q : State → Prop}
variable {cc : ByteArray} {D : va_G} {cl : List vw_C} {A : Nat → Prop} {cA : Nat → ClassId} {kv : Nat → Value} {X : Nat × (Nat → Int)} {n0 : Nat} {ad0 : Nat → Nat} {nL B1 B2 : Nat}
variable {pc : Nat} {L S : List aV} {kc ks : Nat} {h : aH}
theorem sg_iload (hx : p.tables.exec = Jvm.exec) (hb : c.code = cc) {i : Nat} {x : Int} (hi : L[i]? = some (aI x)) (hdg : decode cc pc = .ok (.iload i, 2)) (k : Wg p l e R s m args below meth c Q D cl A cA kv X n0 ad0 nL B1 B2 (pc + 2, L, aI x :: S, kc, ks, h)) : Wg p l e R s m args below meth c Q D cl A cA kv X n0 ad0 nL B1 B2 (pc, L, S, kc, ks, h) := by
  intro b1 b2 hn ad H locs ls h1 h3 h4 h5 h6 h7
  refine lv_iload hx hb hdg (h5.at hi (by simp)) ?_
  exact k b1 b2 hn ad H locs ls h1 h3 h4 h5 h6 (rkI h7)
theorem sg_aload (hx : p.tables.exec = Jvm.exec) (hb : c.code = cc) {i : Nat} {x : Nat} (hi : L[i]? = some (aR x)) (hdg : decode cc pc = .ok (.aload i, 2)) (k : Wg p l e R s m args below meth c Q D cl A cA kv X n0 ad0 nL B1 B2 (pc + 2, L, aR x :: S, kc, ks, h)) : Wg p l e R s m args below meth c Q D cl A cA kv X n0 ad0 nL B1 B2 (pc, L, S, kc, ks, h) := by
  intro b1 b2 hn ad H locs ls h1 h3 h4 h5 h6 h7
  refine lv_aload hx hb hdg (h5.at hi (by simp)) ?_
  exact k b1 b2 hn ad H locs ls h1 h3 h4 h5 h6 (rkV (rokL_at h6 hi) h7)
theorem sg_aloadC (hx : p.tables.exec = Jvm.exec) (hb : c.code = cc) (hkv : ∀ j, kv j = .null ∨ ∃ t, kv j = .ref t) {i : Nat} {j9 : Nat} (hi : L[i]? = some (aC j9)) (hdg : decode cc pc = .ok (.aload i, 2)) (k : Wg p l e R s m args below meth c Q D cl A cA kv X n0 ad0 nL B1 B2 (pc + 2, L, aC j9 :: S, kc, ks, h)) : Wg p l e R s m args below meth c Q D cl A cA kv X n0 ad0 nL B1 B2 (pc, L, S, kc, ks, h) := by
  intro b1 b2 hn ad H locs ls h1 h3 h4 h5 h6 h7
  have kk := k b1 b2 hn ad H locs ls h1 h3 h4 h5 h6 (rkW h7)
  have e8 : ls[i]? = some (.val (kv j9)) := h5.at hi (by simp)
  change W p l e R s m args below meth c H locs kc ks Q (F0 m (pc + 2) ls (kv j9 :: S.map (adV kv ad))) at kk
  rcases hkv j9 with e9 | ⟨t9, e9⟩
  · rw [e9] at kk e8
    exact lv_aloadN hx hb hdg e8 kk
  · rw [e9] at kk e8
    exact lv_aload hx hb hdg e8 kk
theorem sg_aloadN (hx : p.tables.exec = Jvm.exec) (hb : c.code = cc) {i : Nat} (hi : L[i]? = some (aN)) (hdg : decode cc pc = .ok (.aload i, 2)) (k : Wg p l e R s m args below meth c Q D cl A cA kv X n0 ad0 nL B1 B2 (pc + 2, L, aN :: S, kc, ks, h)) : Wg p l e R s m args below meth c Q D cl A cA kv X n0 ad0 nL B1 B2 (pc, L, S, kc, ks, h) := by
  intro b1 b2 hn ad H locs ls h1 h3 h4 h5 h6 h7
  have e8 : ls[i]? = some (.val .null) := h5.at hi (by simp)
  exact lv_aloadN hx hb hdg e8 (k b1 b2 hn ad H locs ls h1 h3 h4 h5 h6 (rkW h7))
theorem sg_istore (hx : p.tables.exec = Jvm.exec) (hb : c.code = cc) {i : Nat} {x : Int} (ho : okst L i = true) (hl : i < L.length) (hkv : ∀ j, kv j = .null ∨ ∃ t, kv j = .ref t) (hdg : decode cc pc = .ok (.istore i, 2)) (k : Wg p l e R s m args below meth c Q D cl A cA kv X n0 ad0 nL B1 B2 (pc + 2, L.set i (aI x), S, kc, ks, h)) : Wg p l e R s m args below meth c Q D cl A cA kv X n0 ad0 nL B1 B2 (pc, L, aI x :: S, kc, ks, h) := by
  intro b1 b2 hn ad H locs ls h1 h3 h4 h5 h6 h7
  refine lv_istore hx hb hdg h5.has (by rw [← h5.1]; exact hl) rfl (fun ls' h' => ?_)
  exact k b1 b2 hn ad H locs ls' h1 h3 h4 (Lh.st1 (v := aI x) hkv h5 ho h') (rkSet trivial h6) (rk1 h7)
theorem sg_astore (hx : p.tables.exec = Jvm.exec) (hb : c.code = cc) {i : Nat} {x : Nat} (ho : okst L i = true) (hl : i < L.length) (hkv : ∀ j, kv j = .null ∨ ∃ t, kv j = .ref t) (hdg : decode cc pc = .ok (.astore i, 2)) (k : Wg p l e R s m args below meth c Q D cl A cA kv X n0 ad0 nL B1 B2 (pc + 2, L.set i (aR x), S, kc, ks, h)) : Wg p l e R s m args below meth c Q D cl A cA kv X n0 ad0 nL B1 B2 (pc, L, aR x :: S, kc, ks, h) := by
  intro b1 b2 hn ad H locs ls h1 h3 h4 h5 h6 h7
  refine lv_astore hx hb hdg h5.has (by rw [← h5.1]; exact hl) rfl (fun ls' h' => ?_)
  exact k b1 b2 hn ad H locs ls' h1 h3 h4 (Lh.st1 (v := aR x) hkv h5 ho h') (rkSet (rk0 h7) h6) (rk1 h7)
theorem sg_astoreC (hx : p.tables.exec = Jvm.exec) (hb : c.code = cc) {i : Nat} {j9 : Nat} (ho : okst L i = true) (hl : i < L.length) (hkv : ∀ j, kv j = .null ∨ ∃ t, kv j = .ref t) (hdg : decode cc pc = .ok (.astore i, 2)) (k : Wg p l e R s m args below meth c Q D cl A cA kv X n0 ad0 nL B1 B2 (pc + 2, L.set i (aC j9), S, kc, ks, h)) : Wg p l e R s m args below meth c Q D cl A cA kv X n0 ad0 nL B1 B2 (pc, L, aC j9 :: S, kc, ks, h) := by
  intro b1 b2 hn ad H locs ls h1 h3 h4 h5 h6 h7
  change W p l e R s m args below meth c H locs kc ks Q (F0 m pc ls (kv j9 :: S.map (adV kv ad)))
  rcases hkv j9 with e9 | ⟨t9, e9⟩
  · rw [e9]
    refine lv_astoreN hx hb hdg h5.has (by rw [← h5.1]; exact hl) rfl (fun ls' h' => ?_)
    refine k b1 b2 hn ad H locs ls' h1 h3 h4 (Lh.st1 (v := aC j9) hkv h5 ho ?_) (rkSet trivial h6) (rk1 h7)
    rw [show adV kv ad (aC j9) = .null from e9]
    exact h'
  · rw [e9]
    refine lv_astore hx hb hdg h5.has (by rw [← h5.1]; exact hl) rfl (fun ls' h' => ?_)
    refine k b1 b2 hn ad H locs ls' h1 h3 h4 (Lh.st1 (v := aC j9) hkv h5 ho ?_) (rkSet trivial h6) (rk1 h7)
    rw [show adV kv ad (aC j9) = .ref t9 from e9]
    exact h'
theorem sg_astoreN (hx : p.tables.exec = Jvm.exec) (hb : c.code = cc) {i : Nat} (ho : okst L i = true) (hl : i < L.length) (hkv : ∀ j, kv j = .null ∨ ∃ t, kv j = .ref t) (hdg : decode cc pc = .ok (.astore i, 2)) (k : Wg p l e R s m args below meth c Q D cl A cA kv X n0 ad0 nL B1 B2 (pc + 2, L.set i aN, S, kc, ks, h)) : Wg p l e R s m args below meth c Q D cl A cA kv X n0 ad0 nL B1 B2 (pc, L, aN :: S, kc, ks, h) := by
  intro b1 b2 hn ad H locs ls h1 h3 h4 h5 h6 h7
  refine lv_astoreN hx hb hdg h5.has (by rw [← h5.1]; exact hl) rfl (fun ls' h' => ?_)
  exact k b1 b2 hn ad H locs ls' h1 h3 h4 (Lh.st1 (v := aN) hkv h5 ho h') (rkSet trivial h6) (rk1 h7)
theorem sg_lload (hx : p.tables.exec = Jvm.exec) (hb : c.code = cc) {i : Nat} {z : Int64} (hi : L[i]? = some (aW (.long z))) (hdg : decode cc pc = .ok (.lload i, 2)) (k : Wg p l e R s m args below meth c Q D cl A cA kv X n0 ad0 nL B1 B2 (pc + 2, L, aW (.long z) :: S, kc, ks, h)) : Wg p l e R s m args below meth c Q D cl A cA kv X n0 ad0 nL B1 B2 (pc, L, S, kc, ks, h) := by
  intro b1 b2 hn ad H locs ls h1 h3 h4 h5 h6 h7
  refine lv_lload hx hb hdg (h5.at hi (by simp)) ?_
  exact k b1 b2 hn ad H locs ls h1 h3 h4 h5 h6 (rkW h7)
theorem sg_lstore (hx : p.tables.exec = Jvm.exec) (hb : c.code = cc) {i : Nat} {z : Int64} (ho : okst L i = true) (hl : i + 1 < L.length) (hkv : ∀ j, kv j = .null ∨ ∃ t, kv j = .ref t) (hdg : decode cc pc = .ok (.lstore i, 2)) (k : Wg p l e R s m args below meth c Q D cl A cA kv X n0 ad0 nL B1 B2 (pc + 2, (L.set i (aW (.long z))).set (i + 1) aU, S, kc, ks, h)) : Wg p l e R s m args below meth c Q D cl A cA kv X n0 ad0 nL B1 B2 (pc, L, aW (.long z) :: S, kc, ks, h) := by
  intro b1 b2 hn ad H locs ls h1 h3 h4 h5 h6 h7
  refine lv_lstore hx hb hdg h5.has (by rw [← h5.1]; exact hl) rfl (fun ls' h' => ?_)
  exact k b1 b2 hn ad H locs ls' h1 h3 h4 (Lh.st2 (v := aW (.long z)) hkv h5 ho h') (rkSet trivial (rkSet trivial h6)) (rk1 h7)
theorem sg_iload_n (hx : p.tables.exec = Jvm.exec) (hb : c.code = cc) {j : Fin 4} {i : Nat} {x : Int} (hj : (j : Nat) = i) (hi : L[i]? = some (aI x)) (hdg : decode cc pc = .ok (.iload_n j, 1)) (k : Wg p l e R s m args below meth c Q D cl A cA kv X n0 ad0 nL B1 B2 (pc + 1, L, aI x :: S, kc, ks, h)) : Wg p l e R s m args below meth c Q D cl A cA kv X n0 ad0 nL B1 B2 (pc, L, S, kc, ks, h) := by
  intro b1 b2 hn ad H locs ls h1 h3 h4 h5 h6 h7
  refine lv_iload_n hx hb hdg hj (h5.at hi (by simp)) ?_
  exact k b1 b2 hn ad H locs ls h1 h3 h4 h5 h6 (rkI h7)
theorem sg_aload_n (hx : p.tables.exec = Jvm.exec) (hb : c.code = cc) {j : Fin 4} {i : Nat} {x : Nat} (hj : (j : Nat) = i) (hi : L[i]? = some (aR x)) (hdg : decode cc pc = .ok (.aload_n j, 1)) (k : Wg p l e R s m args below meth c Q D cl A cA kv X n0 ad0 nL B1 B2 (pc + 1, L, aR x :: S, kc, ks, h)) : Wg p l e R s m args below meth c Q D cl A cA kv X n0 ad0 nL B1 B2 (pc, L, S, kc, ks, h) := by
  intro b1 b2 hn ad H locs ls h1 h3 h4 h5 h6 h7
  refine lv_aload_n hx hb hdg hj (h5.at hi (by simp)) ?_
  exact k b1 b2 hn ad H locs ls h1 h3 h4 h5 h6 (rkV (rokL_at h6 hi) h7)
theorem sg_aloadC_n (hx : p.tables.exec = Jvm.exec) (hb : c.code = cc) (hkv : ∀ j, kv j = .null ∨ ∃ t, kv j = .ref t) {j : Fin 4} {i : Nat} {j9 : Nat} (hj : (j : Nat) = i) (hi : L[i]? = some (aC j9)) (hdg : decode cc pc = .ok (.aload_n j, 1)) (k : Wg p l e R s m args below meth c Q D cl A cA kv X n0 ad0 nL B1 B2 (pc + 1, L, aC j9 :: S, kc, ks, h)) : Wg p l e R s m args below meth c Q D cl A cA kv X n0 ad0 nL B1 B2 (pc, L, S, kc, ks, h) := by
  intro b1 b2 hn ad H locs ls h1 h3 h4 h5 h6 h7
  have kk := k b1 b2 hn ad H locs ls h1 h3 h4 h5 h6 (rkW h7)
  have e8 : ls[i]? = some (.val (kv j9)) := h5.at hi (by simp)
  change W p l e R s m args below meth c H locs kc ks Q (F0 m (pc + 1) ls (kv j9 :: S.map (adV kv ad))) at kk
  rcases hkv j9 with e9 | ⟨t9, e9⟩
  · rw [e9] at kk e8
    exact lv_aload_nN hx hb hdg hj e8 kk
  · rw [e9] at kk e8
    exact lv_aload_n hx hb hdg hj e8 kk
theorem sg_aloadN_n (hx : p.tables.exec = Jvm.exec) (hb : c.code = cc) {j : Fin 4} {i : Nat} (hj : (j : Nat) = i) (hi : L[i]? = some (aN)) (hdg : decode cc pc = .ok (.aload_n j, 1)) (k : Wg p l e R s m args below meth c Q D cl A cA kv X n0 ad0 nL B1 B2 (pc + 1, L, aN :: S, kc, ks, h)) : Wg p l e R s m args below meth c Q D cl A cA kv X n0 ad0 nL B1 B2 (pc, L, S, kc, ks, h) := by
  intro b1 b2 hn ad H locs ls h1 h3 h4 h5 h6 h7
  have e8 : ls[i]? = some (.val .null) := h5.at hi (by simp)
  exact lv_aload_nN hx hb hdg hj e8 (k b1 b2 hn ad H locs ls h1 h3 h4 h5 h6 (rkW h7))
theorem sg_istore_n (hx : p.tables.exec = Jvm.exec) (hb : c.code = cc) {j : Fin 4} {i : Nat} {x : Int} (hj : (j : Nat) = i) (ho : okst L i = true) (hl : i < L.length) (hkv : ∀ j, kv j = .null ∨ ∃ t, kv j = .ref t) (hdg : decode cc pc = .ok (.istore_n j, 1)) (k : Wg p l e R s m args below meth c Q D cl A cA kv X n0 ad0 nL B1 B2 (pc + 1, L.set i (aI x), S, kc, ks, h)) : Wg p l e R s m args below meth c Q D cl A cA kv X n0 ad0 nL B1 B2 (pc, L, aI x :: S, kc, ks, h) := by
  intro b1 b2 hn ad H locs ls h1 h3 h4 h5 h6 h7
  refine lv_istore_n hx hb hdg hj h5.has (by rw [← h5.1]; exact hl) rfl (fun ls' h' => ?_)
  exact k b1 b2 hn ad H locs ls' h1 h3 h4 (Lh.st1 (v := aI x) hkv h5 ho h') (rkSet trivial h6) (rk1 h7)
theorem sg_astore_n (hx : p.tables.exec = Jvm.exec) (hb : c.code = cc) {j : Fin 4} {i : Nat} {x : Nat} (hj : (j : Nat) = i) (ho : okst L i = true) (hl : i < L.length) (hkv : ∀ j, kv j = .null ∨ ∃ t, kv j = .ref t) (hdg : decode cc pc = .ok (.astore_n j, 1)) (k : Wg p l e R s m args below meth c Q D cl A cA kv X n0 ad0 nL B1 B2 (pc + 1, L.set i (aR x), S, kc, ks, h)) : Wg p l e R s m args below meth c Q D cl A cA kv X n0 ad0 nL B1 B2 (pc, L, aR x :: S, kc, ks, h) := by
  intro b1 b2 hn ad H locs ls h1 h3 h4 h5 h6 h7
  refine lv_astore_n hx hb hdg hj h5.has (by rw [← h5.1]; exact hl) rfl (fun ls' h' => ?_)
  exact k b1 b2 hn ad H locs ls' h1 h3 h4 (Lh.st1 (v := aR x) hkv h5 ho h') (rkSet (rk0 h7) h6) (rk1 h7)
theorem sg_astoreC_n (hx : p.tables.exec = Jvm.exec) (hb : c.code = cc) {j : Fin 4} {i : Nat} {j9 : Nat} (hj : (j : Nat) = i) (ho : okst L i = true) (hl : i < L.length) (hkv : ∀ j, kv j = .null ∨ ∃ t, kv j = .ref t) (hdg : decode cc pc = .ok (.astore_n j, 1)) (k : Wg p l e R s m args below meth c Q D cl A cA kv X n0 ad0 nL B1 B2 (pc + 1, L.set i (aC j9), S, kc, ks, h)) : Wg p l e R s m args below meth c Q D cl A cA kv X n0 ad0 nL B1 B2 (pc, L, aC j9 :: S, kc, ks, h) := by
  intro b1 b2 hn ad H locs ls h1 h3 h4 h5 h6 h7
  change W p l e R s m args below meth c H locs kc ks Q (F0 m pc ls (kv j9 :: S.map (adV kv ad)))
  rcases hkv j9 with e9 | ⟨t9, e9⟩
  · rw [e9]
    refine lv_astore_nN hx hb hdg hj h5.has (by rw [← h5.1]; exact hl) rfl (fun ls' h' => ?_)
    refine k b1 b2 hn ad H locs ls' h1 h3 h4 (Lh.st1 (v := aC j9) hkv h5 ho ?_) (rkSet trivial h6) (rk1 h7)
    rw [show adV kv ad (aC j9) = .null from e9]
    exact h'
  · rw [e9]
    refine lv_astore_n hx hb hdg hj h5.has (by rw [← h5.1]; exact hl) rfl (fun ls' h' => ?_)
    refine k b1 b2 hn ad H locs ls' h1 h3 h4 (Lh.st1 (v := aC j9) hkv h5 ho ?_) (rkSet trivial h6) (rk1 h7)
    rw [show adV kv ad (aC j9) = .ref t9 from e9]
    exact h'
theorem sg_astoreN_n (hx : p.tables.exec = Jvm.exec) (hb : c.code = cc) {j : Fin 4} {i : Nat} (hj : (j : Nat) = i) (ho : okst L i = true) (hl : i < L.length) (hkv : ∀ j, kv j = .null ∨ ∃ t, kv j = .ref t) (hdg : decode cc pc = .ok (.astore_n j, 1)) (k : Wg p l e R s m args below meth c Q D cl A cA kv X n0 ad0 nL B1 B2 (pc + 1, L.set i aN, S, kc, ks, h)) : Wg p l e R s m args below meth c Q D cl A cA kv X n0 ad0 nL B1 B2 (pc, L, aN :: S, kc, ks, h) := by
  intro b1 b2 hn ad H locs ls h1 h3 h4 h5 h6 h7
  refine lv_astore_nN hx hb hdg hj h5.has (by rw [← h5.1]; exact hl) rfl (fun ls' h' => ?_)
  exact k b1 b2 hn ad H locs ls' h1 h3 h4 (Lh.st1 (v := aN) hkv h5 ho h') (rkSet trivial h6) (rk1 h7)
theorem sg_lload_n (hx : p.tables.exec = Jvm.exec) (hb : c.code = cc) {j : Fin 4} {i : Nat} {z : Int64} (hj : (j : Nat) = i) (hi : L[i]? = some (aW (.long z))) (hdg : decode cc pc = .ok (.lload_n j, 1)) (k : Wg p l e R s m args below meth c Q D cl A cA kv X n0 ad0 nL B1 B2 (pc + 1, L, aW (.long z) :: S, kc, ks, h)) : Wg p l e R s m args below meth c Q D cl A cA kv X n0 ad0 nL B1 B2 (pc, L, S, kc, ks, h) := by
  intro b1 b2 hn ad H locs ls h1 h3 h4 h5 h6 h7
  refine lv_lload_n hx hb hdg hj (h5.at hi (by simp)) ?_
  exact k b1 b2 hn ad H locs ls h1 h3 h4 h5 h6 (rkW h7)
theorem sg_lstore_n (hx : p.tables.exec = Jvm.exec) (hb : c.code = cc) {j : Fin 4} {i : Nat} {z : Int64} (hj : (j : Nat) = i) (ho : okst L i = true) (hl : i + 1 < L.length) (hkv : ∀ j, kv j = .null ∨ ∃ t, kv j = .ref t) (hdg : decode cc pc = .ok (.lstore_n j, 1)) (k : Wg p l e R s m args below meth c Q D cl A cA kv X n0 ad0 nL B1 B2 (pc + 1, (L.set i (aW (.long z))).set (i + 1) aU, S, kc, ks, h)) : Wg p l e R s m args below meth c Q D cl A cA kv X n0 ad0 nL B1 B2 (pc, L, aW (.long z) :: S, kc, ks, h) := by
  intro b1 b2 hn ad H locs ls h1 h3 h4 h5 h6 h7
  refine lv_lstore_n hx hb hdg hj h5.has (by rw [← h5.1]; exact hl) rfl (fun ls' h' => ?_)
  exact k b1 b2 hn ad H locs ls' h1 h3 h4 (Lh.st2 (v := aW (.long z)) hkv h5 ho h') (rkSet trivial (rkSet trivial h6)) (rk1 h7)
theorem sg_iinc (hx : p.tables.exec = Jvm.exec) (hb : c.code = cc) {i : Nat} {x z : Int} {n : Int} (ho : okst L i = true) (hi : L[i]? = some (aI x)) (hz : n = z) (hkv : ∀ j, kv j = .null ∨ ∃ t, kv j = .ref t) (hdg : decode cc pc = .ok (.iinc i n, 3)) (k : Wg p l e R s m args below meth c Q D cl A cA kv X n0 ad0 nL B1 B2 (pc + 3, L.set i (aI (x + z)), S, kc, ks, h)) : Wg p l e R s m args below meth c Q D cl A cA kv X n0 ad0 nL B1 B2 (pc, L, S, kc, ks, h) := by
  intro b1 b2 hn ad H locs ls h1 h3 h4 h5 h6 h7
  have hlt : i < L.length := (List.getElem?_eq_some_iff.mp hi).1
  obtain ⟨q9, hq9⟩ := List.getElem?_of_mem (lvl_mem (kv := kv) (ad := ad) (k := 0) hi (by simp))
  rw [Nat.zero_add] at hq9
  refine lv_iinc (v := i32 (x + z)) hx hb hdg h5.has hq9 (by rw [hz, i32_add]; rfl) (by rw [← h5.1]; exact hlt) rfl (fun ls' h' => ?_)
  exact k b1 b2 hn ad H locs ls' h1 h3 h4 (Lh.st1 (v := aI (x + z)) hkv h5 ho h') (rkSet trivial h6) h7
theorem sg_iconst (hx : p.tables.exec = Jvm.exec) (hb : c.code = cc) {n x : Int} (hv : n = x) (hdg : decode cc pc = .ok (.iconst n, 1)) (k : Wg p l e R s m args below meth c Q D cl A cA kv X n0 ad0 nL B1 B2 (pc + 1, L, aI x :: S, kc, ks, h)) : Wg p l e R s m args below meth c Q D cl A cA kv X n0 ad0 nL B1 B2 (pc, L, S, kc, ks, h) := by
  intro b1 b2 hn ad H locs ls h1 h3 h4 h5 h6 h7
  subst hv
  exact lv_iconst hx hb hdg rfl (k b1 b2 hn ad H locs ls h1 h3 h4 h5 h6 (rkI h7))
theorem sg_bipush (hx : p.tables.exec = Jvm.exec) (hb : c.code = cc) {n x : Int} (hv : (Int8.ofInt n).toInt32 = i32 x) (hdg : decode cc pc = .ok (.bipush n, 2)) (k : Wg p l e R s m args below meth c Q D cl A cA kv X n0 ad0 nL B1 B2 (pc + 2, L, aI x :: S, kc, ks, h)) : Wg p l e R s m args below meth c Q D cl A cA kv X n0 ad0 nL B1 B2 (pc, L, S, kc, ks, h) := by
  intro b1 b2 hn ad H locs ls h1 h3 h4 h5 h6 h7
  exact lv_bipush hx hb hdg hv (k b1 b2 hn ad H locs ls h1 h3 h4 h5 h6 (rkI h7))
theorem sg_sipush (hx : p.tables.exec = Jvm.exec) (hb : c.code = cc) {n x : Int} (hv : (Int16.ofInt n).toInt32 = i32 x) (hdg : decode cc pc = .ok (.sipush n, 3)) (k : Wg p l e R s m args below meth c Q D cl A cA kv X n0 ad0 nL B1 B2 (pc + 3, L, aI x :: S, kc, ks, h)) : Wg p l e R s m args below meth c Q D cl A cA kv X n0 ad0 nL B1 B2 (pc, L, S, kc, ks, h) := by
  intro b1 b2 hn ad H locs ls h1 h3 h4 h5 h6 h7
  exact lv_sipush hx hb hdg hv (k b1 b2 hn ad H locs ls h1 h3 h4 h5 h6 (rkI h7))
theorem sg_ldcI (hx : p.tables.exec = Jvm.exec) (hb : c.code = cc) {own : String} {index : Nat} {x : Int} (hown : s.vm.findClass own = some m.cls) (hc : (Jvm.Cond.constant own index (i32 x)).before args s = true) (hdg : decode cc pc = .ok (.ldc index, 2)) (k : Wg p l e R s m args below meth c Q D cl A cA kv X n0 ad0 nL B1 B2 (pc + 2, L, aI x :: S, kc, ks, h)) : Wg p l e R s m args below meth c Q D cl A cA kv X n0 ad0 nL B1 B2 (pc, L, S, kc, ks, h) := by
  intro b1 b2 hn ad H locs ls h1 h3 h4 h5 h6 h7
  exact lv_ldc hx hb hown hc hdg (k b1 b2 hn ad H locs ls h1 h3 h4 h5 h6 (rkI h7))
theorem sg_ldcwI (hx : p.tables.exec = Jvm.exec) (hb : c.code = cc) {own : String} {index : Nat} {x : Int} (hown : s.vm.findClass own = some m.cls) (hc : (Jvm.Cond.constant own index (i32 x)).before args s = true) (hdg : decode cc pc = .ok (.ldc_w index, 3)) (k : Wg p l e R s m args below meth c Q D cl A cA kv X n0 ad0 nL B1 B2 (pc + 3, L, aI x :: S, kc, ks, h)) : Wg p l e R s m args below meth c Q D cl A cA kv X n0 ad0 nL B1 B2 (pc, L, S, kc, ks, h) := by
  intro b1 b2 hn ad H locs ls h1 h3 h4 h5 h6 h7
  exact lv_ldcw hx hb hown hc hdg (k b1 b2 hn ad H locs ls h1 h3 h4 h5 h6 (rkI h7))
theorem sg_null (hx : p.tables.exec = Jvm.exec) (hb : c.code = cc) (hdg : decode cc pc = .ok (.aconst_null, 1)) (k : Wg p l e R s m args below meth c Q D cl A cA kv X n0 ad0 nL B1 B2 (pc + 1, L, aN :: S, kc, ks, h)) : Wg p l e R s m args below meth c Q D cl A cA kv X n0 ad0 nL B1 B2 (pc, L, S, kc, ks, h) := by
  intro b1 b2 hn ad H locs ls h1 h3 h4 h5 h6 h7
  exact lv_null hx hb hdg (k b1 b2 hn ad H locs ls h1 h3 h4 h5 h6 (rkW h7))
theorem sg_iadd (hx : p.tables.exec = Jvm.exec) (hb : c.code = cc) {x y : Int} (hdg : decode cc pc = .ok (.iadd, 1)) (k : Wg p l e R s m args below meth c Q D cl A cA kv X n0 ad0 nL B1 B2 (pc + 1, L, aI (x + y) :: S, kc, ks, h)) : Wg p l e R s m args below meth c Q D cl A cA kv X n0 ad0 nL B1 B2 (pc, L, aI y :: aI x :: S, kc, ks, h) := by
  intro b1 b2 hn ad H locs ls h1 h3 h4 h5 h6 h7
  refine lv_iadd hx hb hdg ?_
  rw [← i32_add]
  exact k b1 b2 hn ad H locs ls h1 h3 h4 h5 h6 (rkI (rk1 (rk1 h7)))
theorem sg_isub (hx : p.tables.exec = Jvm.exec) (hb : c.code = cc) {x y : Int} (hdg : decode cc pc = .ok (.isub, 1)) (k : Wg p l e R s m args below meth c Q D cl A cA kv X n0 ad0 nL B1 B2 (pc + 1, L, aI (x - y) :: S, kc, ks, h)) : Wg p l e R s m args below meth c Q D cl A cA kv X n0 ad0 nL B1 B2 (pc, L, aI y :: aI x :: S, kc, ks, h) := by
  intro b1 b2 hn ad H locs ls h1 h3 h4 h5 h6 h7
  refine lv_isub hx hb hdg ?_
  rw [← i32_sub]
  exact k b1 b2 hn ad H locs ls h1 h3 h4 h5 h6 (rkI (rk1 (rk1 h7)))
theorem sg_imul (hx : p.tables.exec = Jvm.exec) (hb : c.code = cc) {x y : Int} (hdg : decode cc pc = .ok (.imul, 1)) (k : Wg p l e R s m args below meth c Q D cl A cA kv X n0 ad0 nL B1 B2 (pc + 1, L, aI (x * y) :: S, kc, ks, h)) : Wg p l e R s m args below meth c Q D cl A cA kv X n0 ad0 nL B1 B2 (pc, L, aI y :: aI x :: S, kc, ks, h) := by
  intro b1 b2 hn ad H locs ls h1 h3 h4 h5 h6 h7
  refine lv_imul hx hb hdg ?_
  rw [← i32_mul]
  exact k b1 b2 hn ad H locs ls h1 h3 h4 h5 h6 (rkI (rk1 (rk1 h7)))
theorem sg_iand (hx : p.tables.exec = Jvm.exec) (hb : c.code = cc) {x y : Int} (hdg : decode cc pc = .ok (.iand, 1)) (k : Wg p l e R s m args below meth c Q D cl A cA kv X n0 ad0 nL B1 B2 (pc + 1, L, aI (op2 (fun x y => x &&& y) x y) :: S, kc, ks, h)) : Wg p l e R s m args below meth c Q D cl A cA kv X n0 ad0 nL B1 B2 (pc, L, aI y :: aI x :: S, kc, ks, h) := by
  intro b1 b2 hn ad H locs ls h1 h3 h4 h5 h6 h7
  refine lv_iand hx hb hdg ?_
  have kk := k b1 b2 hn ad H locs ls h1 h3 h4 h5 h6 (rkI (rk1 (rk1 h7)))
  simp only [List.map_cons, adV, i32_op2] at kk
  exact kk
theorem sg_ior (hx : p.tables.exec = Jvm.exec) (hb : c.code = cc) {x y : Int} (hdg : decode cc pc = .ok (.ior, 1)) (k : Wg p l e R s m args below meth c Q D cl A cA kv X n0 ad0 nL B1 B2 (pc + 1, L, aI (op2 (fun x y => x ||| y) x y) :: S, kc, ks, h)) : Wg p l e R s m args below meth c Q D cl A cA kv X n0 ad0 nL B1 B2 (pc, L, aI y :: aI x :: S, kc, ks, h) := by
  intro b1 b2 hn ad H locs ls h1 h3 h4 h5 h6 h7
  refine lv_ior hx hb hdg ?_
  have kk := k b1 b2 hn ad H locs ls h1 h3 h4 h5 h6 (rkI (rk1 (rk1 h7)))
  simp only [List.map_cons, adV, i32_op2] at kk
  exact kk
theorem sg_ixor (hx : p.tables.exec = Jvm.exec) (hb : c.code = cc) {x y : Int} (hdg : decode cc pc = .ok (.ixor, 1)) (k : Wg p l e R s m args below meth c Q D cl A cA kv X n0 ad0 nL B1 B2 (pc + 1, L, aI (op2 (fun x y => x ^^^ y) x y) :: S, kc, ks, h)) : Wg p l e R s m args below meth c Q D cl A cA kv X n0 ad0 nL B1 B2 (pc, L, aI y :: aI x :: S, kc, ks, h) := by
  intro b1 b2 hn ad H locs ls h1 h3 h4 h5 h6 h7
  refine lv_ixor hx hb hdg ?_
  have kk := k b1 b2 hn ad H locs ls h1 h3 h4 h5 h6 (rkI (rk1 (rk1 h7)))
  simp only [List.map_cons, adV, i32_op2] at kk
  exact kk
theorem sg_ishl (hx : p.tables.exec = Jvm.exec) (hb : c.code = cc) {x y : Int} (hdg : decode cc pc = .ok (.ishl, 1)) (k : Wg p l e R s m args below meth c Q D cl A cA kv X n0 ad0 nL B1 B2 (pc + 1, L, aI (op2 (fun x y => x <<< (y &&& 31)) x y) :: S, kc, ks, h)) : Wg p l e R s m args below meth c Q D cl A cA kv X n0 ad0 nL B1 B2 (pc, L, aI y :: aI x :: S, kc, ks, h) := by
  intro b1 b2 hn ad H locs ls h1 h3 h4 h5 h6 h7
  refine lv_ishl hx hb hdg ?_
  have kk := k b1 b2 hn ad H locs ls h1 h3 h4 h5 h6 (rkI (rk1 (rk1 h7)))
  simp only [List.map_cons, adV, i32_op2] at kk
  exact kk
theorem sg_ishr (hx : p.tables.exec = Jvm.exec) (hb : c.code = cc) {x y : Int} (hdg : decode cc pc = .ok (.ishr, 1)) (k : Wg p l e R s m args below meth c Q D cl A cA kv X n0 ad0 nL B1 B2 (pc + 1, L, aI (op2 (fun x y => x >>> (y &&& 31)) x y) :: S, kc, ks, h)) : Wg p l e R s m args below meth c Q D cl A cA kv X n0 ad0 nL B1 B2 (pc, L, aI y :: aI x :: S, kc, ks, h) := by
  intro b1 b2 hn ad H locs ls h1 h3 h4 h5 h6 h7
  refine lv_ishr hx hb hdg ?_
  have kk := k b1 b2 hn ad H locs ls h1 h3 h4 h5 h6 (rkI (rk1 (rk1 h7)))
  simp only [List.map_cons, adV, i32_op2] at kk
  exact kk
theorem sg_irem (hx : p.tables.exec = Jvm.exec) (hb : c.code = cc) {x y : Int} (hz : ¬ i32 y = 0) (hdg : decode cc pc = .ok (.irem, 1)) (k : Wg p l e R s m args below meth c Q D cl A cA kv X n0 ad0 nL B1 B2 (pc + 1, L, aI (op2 (fun x y => x - x / y * y) x y) :: S, kc, ks, h)) : Wg p l e R s m args below meth c Q D cl A cA kv X n0 ad0 nL B1 B2 (pc, L, aI y :: aI x :: S, kc, ks, h) := by
  intro b1 b2 hn ad H locs ls h1 h3 h4 h5 h6 h7
  refine lv_irem hx hb hdg hz ?_
  have kk := k b1 b2 hn ad H locs ls h1 h3 h4 h5 h6 (rkI (rk1 (rk1 h7)))
  simp only [List.map_cons, adV, i32_op2] at kk
  exact kk
theorem sg_iushr (hx : p.tables.exec = Jvm.exec) (hb : c.code = cc) {x y : Int} (hdg : decode cc pc = .ok (.iushr, 1)) (k : Wg p l e R s m args below meth c Q D cl A cA kv X n0 ad0 nL B1 B2 (pc + 1, L, aI (op2 (fun x y => (x.toUInt32 >>> (y.toUInt32 &&& Int32.toUInt32 31)).toInt32) x y) :: S, kc, ks, h)) : Wg p l e R s m args below meth c Q D cl A cA kv X n0 ad0 nL B1 B2 (pc, L, aI y :: aI x :: S, kc, ks, h) := by
  intro b1 b2 hn ad H locs ls h1 h3 h4 h5 h6 h7
  refine lv_iushr hx hb hdg (i32_op2 (fun x y => (x.toUInt32 >>> (y.toUInt32 &&& Int32.toUInt32 31)).toInt32) x y).symm ?_
  exact k b1 b2 hn ad H locs ls h1 h3 h4 h5 h6 (rkI (rk1 (rk1 h7)))
theorem sg_ineg (hx : p.tables.exec = Jvm.exec) (hb : c.code = cc) {x : Int} (hdg : decode cc pc = .ok (.ineg, 1)) (k : Wg p l e R s m args below meth c Q D cl A cA kv X n0 ad0 nL B1 B2 (pc + 1, L, aI (-x) :: S, kc, ks, h)) : Wg p l e R s m args below meth c Q D cl A cA kv X n0 ad0 nL B1 B2 (pc, L, aI x :: S, kc, ks, h) := by
  intro b1 b2 hn ad H locs ls h1 h3 h4 h5 h6 h7
  refine lv_ineg hx hb hdg ?_
  rw [← i32_neg]
  exact k b1 b2 hn ad H locs ls h1 h3 h4 h5 h6 (rkI (rk1 h7))
theorem sg_i2b (hx : p.tables.exec = Jvm.exec) (hb : c.code = cc) {x : Int} (hdg : decode cc pc = .ok (.i2b, 1)) (k : Wg p l e R s m args below meth c Q D cl A cA kv X n0 ad0 nL B1 B2 (pc + 1, L, aI (byI x) :: S, kc, ks, h)) : Wg p l e R s m args below meth c Q D cl A cA kv X n0 ad0 nL B1 B2 (pc, L, aI x :: S, kc, ks, h) := by
  intro b1 b2 hn ad H locs ls h1 h3 h4 h5 h6 h7
  exact lv_i2b hx hb hdg (i32_to _).symm (k b1 b2 hn ad H locs ls h1 h3 h4 h5 h6 (rkI (rk1 h7)))
theorem sg_i2c (hx : p.tables.exec = Jvm.exec) (hb : c.code = cc) {x : Int} (hdg : decode cc pc = .ok (.i2c, 1)) (k : Wg p l e R s m args below meth c Q D cl A cA kv X n0 ad0 nL B1 B2 (pc + 1, L, aI (chI x) :: S, kc, ks, h)) : Wg p l e R s m args below meth c Q D cl A cA kv X n0 ad0 nL B1 B2 (pc, L, aI x :: S, kc, ks, h) := by
  intro b1 b2 hn ad H locs ls h1 h3 h4 h5 h6 h7
  exact lv_i2c hx hb hdg (i32_to _).symm (k b1 b2 hn ad H locs ls h1 h3 h4 h5 h6 (rkI (rk1 h7)))
theorem sg_i2l (hx : p.tables.exec = Jvm.exec) (hb : c.code = cc) {x : Int} (hdg : decode cc pc = .ok (.i2l, 1)) (k : Wg p l e R s m args below meth c Q D cl A cA kv X n0 ad0 nL B1 B2 (pc + 1, L, aW (.long (i32 x).toInt64) :: S, kc, ks, h)) : Wg p l e R s m args below meth c Q D cl A cA kv X n0 ad0 nL B1 B2 (pc, L, aI x :: S, kc, ks, h) := by
  intro b1 b2 hn ad H locs ls h1 h3 h4 h5 h6 h7
  exact lv_i2l hx hb hdg rfl (k b1 b2 hn ad H locs ls h1 h3 h4 h5 h6 (rkW (rk1 h7)))
theorem sg_lcmp (hx : p.tables.exec = Jvm.exec) (hb : c.code = cc) {x y : Int64} (hdg : decode cc pc = .ok (.lcmp, 1)) (k : Wg p l e R s m args below meth c Q D cl A cA kv X n0 ad0 nL B1 B2 (pc + 1, L, aI (lg_cmp x y).toInt :: S, kc, ks, h)) : Wg p l e R s m args below meth c Q D cl A cA kv X n0 ad0 nL B1 B2 (pc, L, aW (.long y) :: aW (.long x) :: S, kc, ks, h) := by
  intro b1 b2 hn ad H locs ls h1 h3 h4 h5 h6 h7
  refine W.lcmp hx hb hdg ?_
  have kk := k b1 b2 hn ad H locs ls h1 h3 h4 h5 h6 (rkI (rk1 (rk1 h7)))
  simp only [List.map_cons, adV, i32_to] at kk
  exact kk
theorem sg_ladd (hx : p.tables.exec = Jvm.exec) (hb : c.code = cc) {x y : Int64} (hdg : decode cc pc = .ok (.ladd, 1)) (k : Wg p l e R s m args below meth c Q D cl A cA kv X n0 ad0 nL B1 B2 (pc + 1, L, aW (.long (x + y)) :: S, kc, ks, h)) : Wg p l e R s m args below meth c Q D cl A cA kv X n0 ad0 nL B1 B2 (pc, L, aW (.long y) :: aW (.long x) :: S, kc, ks, h) := by
  intro b1 b2 hn ad H locs ls h1 h3 h4 h5 h6 h7
  exact lv_ladd hx hb hdg (k b1 b2 hn ad H locs ls h1 h3 h4 h5 h6 (rkW (rk1 (rk1 h7))))
theorem sg_lmul (hx : p.tables.exec = Jvm.exec) (hb : c.code = cc) {x y : Int64} (hdg : decode cc pc = .ok (.lmul, 1)) (k : Wg p l e R s m args below meth c Q D cl A cA kv X n0 ad0 nL B1 B2 (pc + 1, L, aW (.long (x * y)) :: S, kc, ks, h)) : Wg p l e R s m args below meth c Q D cl A cA kv X n0 ad0 nL B1 B2 (pc, L, aW (.long y) :: aW (.long x) :: S, kc, ks, h) := by
  intro b1 b2 hn ad H locs ls h1 h3 h4 h5 h6 h7
  exact lv_lmul hx hb hdg (k b1 b2 hn ad H locs ls h1 h3 h4 h5 h6 (rkW (rk1 (rk1 h7))))
theorem sg_ldc2 (hx : p.tables.exec = Jvm.exec) (hb : c.code = cc) {own : String} {index : Nat} {v : Int64} (hown : s.vm.findClass own = some m.cls) (hw : (Cond.constantLong own index v).before args s = true) (hdg : decode cc pc = .ok (.ldc2_w index, 3)) (k : Wg p l e R s m args below meth c Q D cl A cA kv X n0 ad0 nL B1 B2 (pc + 3, L, aW (.long v) :: S, kc, ks, h)) : Wg p l e R s m args below meth c Q D cl A cA kv X n0 ad0 nL B1 B2 (pc, L, S, kc, ks, h) := by
  intro b1 b2 hn ad H locs ls h1 h3 h4 h5 h6 h7
  exact lv_ldc2 hx hb hown hw hdg (k b1 b2 hn ad H locs ls h1 h3 h4 h5 h6 (rkW h7))
theorem sg_dup (hx : p.tables.exec = Jvm.exec) (hb : c.code = cc) {v : aV} (hkv : ∀ j, kv j = .null ∨ ∃ t, kv j = .ref t) (hv : isC2 v = false) (hdg : decode cc pc = .ok (.dup, 1)) (k : Wg p l e R s m args below meth c Q D cl A cA kv X n0 ad0 nL B1 B2 (pc + 1, L, v :: v :: S, kc, ks, h)) : Wg p l e R s m args below meth c Q D cl A cA kv X n0 ad0 nL B1 B2 (pc, L, v :: S, kc, ks, h) := by
  intro b1 b2 hn ad H locs ls h1 h3 h4 h5 h6 h7
  exact lv_dup hx hb hdg (isC2_cat hkv hv) (k b1 b2 hn ad H locs ls h1 h3 h4 h5 h6 (rkV (rk0 h7) h7))
theorem sg_dup2 (hx : p.tables.exec = Jvm.exec) (hb : c.code = cc) {v u : aV} (hkv : ∀ j, kv j = .null ∨ ∃ t, kv j = .ref t) (hv : isC2 v = false) (hu : isC2 u = false) (hdg : decode cc pc = .ok (.dup2, 1)) (k : Wg p l e R s m args below meth c Q D cl A cA kv X n0 ad0 nL B1 B2 (pc + 1, L, v :: u :: v :: u :: S, kc, ks, h)) : Wg p l e R s m args below meth c Q D cl A cA kv X n0 ad0 nL B1 B2 (pc, L, v :: u :: S, kc, ks, h) := by
  intro b1 b2 hn ad H locs ls h1 h3 h4 h5 h6 h7
  exact lv_dup2_11 hx hb hdg (isC2_cat hkv hv) (isC2_cat hkv hu) (k b1 b2 hn ad H locs ls h1 h3 h4 h5 h6 (rkV (rk0 h7) (rkV (rk0 (rk1 h7)) h7)))
theorem sg_pop (hx : p.tables.exec = Jvm.exec) (hb : c.code = cc) {v : aV} (hkv : ∀ j, kv j = .null ∨ ∃ t, kv j = .ref t) (hv : isC2 v = false) (hdg : decode cc pc = .ok (.pop, 1)) (k : Wg p l e R s m args below meth c Q D cl A cA kv X n0 ad0 nL B1 B2 (pc + 1, L, S, kc, ks, h)) : Wg p l e R s m args below meth c Q D cl A cA kv X n0 ad0 nL B1 B2 (pc, L, v :: S, kc, ks, h) := by
  intro b1 b2 hn ad H locs ls h1 h3 h4 h5 h6 h7
  exact lv_pop hx hb hdg (isC2_cat hkv hv) (k b1 b2 hn ad H locs ls h1 h3 h4 h5 h6 (rk1 h7))
theorem sg_goto (hx : p.tables.exec = Jvm.exec) (hb : c.code = cc) {o : Int} {a : Nat} (ht : (pc : Int) + o = (a : Int)) (hdg : decode cc pc = .ok (.goto o, 3)) (k : Wg p l e R s m args below meth c Q D cl A cA kv X n0 ad0 nL B1 B2 (a, L, S, kc, ks, h)) : Wg p l e R s m args below meth c Q D cl A cA kv X n0 ad0 nL B1 B2 (pc, L, S, kc, ks, h) := by
  intro b1 b2 hn ad H locs ls h1 h3 h4 h5 h6 h7
  exact lv_goto hx hb hdg ht (k b1 b2 hn ad H locs ls h1 h3 h4 h5 h6 h7)
theorem sg_if_eq (hx : p.tables.exec = Jvm.exec) (hb : c.code = cc) {x : Int} {o : Int} {a : Nat} (ht : (pc : Int) + o = (a : Int)) (hdg : decode cc pc = .ok (.ifCond .eq o, 3)) (k : Wg p l e R s m args below meth c Q D cl A cA kv X n0 ad0 nL B1 B2 (if i32 x = 0 then a else pc + 3, L, S, kc, ks, h)) : Wg p l e R s m args below meth c Q D cl A cA kv X n0 ad0 nL B1 B2 (pc, L, aI x :: S, kc, ks, h) := by
  intro b1 b2 hn ad H locs ls h1 h3 h4 h5 h6 h7
  refine lv_if_eq hx hb hdg ht (fun hc => ?_) (fun hc => ?_)
  · have kk := k b1 b2 hn ad H locs ls h1 h3 h4 h5 h6 (rk1 h7)
    dsimp only at kk
    rw [if_pos hc] at kk
    exact kk
  · have kk := k b1 b2 hn ad H locs ls h1 h3 h4 h5 h6 (rk1 h7)
    dsimp only at kk
    rw [if_neg hc] at kk
    exact kk
theorem sg_if_ne (hx : p.tables.exec = Jvm.exec) (hb : c.code = cc) {x : Int} {o : Int} {a : Nat} (ht : (pc : Int) + o = (a : Int)) (hdg : decode cc pc = .ok (.ifCond .ne o, 3)) (k : Wg p l e R s m args below meth c Q D cl A cA kv X n0 ad0 nL B1 B2 (if i32 x = 0 then pc + 3 else a, L, S, kc, ks, h)) : Wg p l e R s m args below meth c Q D cl A cA kv X n0 ad0 nL B1 B2 (pc, L, aI x :: S, kc, ks, h) := by
  intro b1 b2 hn ad H locs ls h1 h3 h4 h5 h6 h7
  refine lv_if_ne hx hb hdg ht (fun hc => ?_) (fun hc => ?_)
  · have kk := k b1 b2 hn ad H locs ls h1 h3 h4 h5 h6 (rk1 h7)
    dsimp only at kk
    rw [if_neg hc] at kk
    exact kk
  · have kk := k b1 b2 hn ad H locs ls h1 h3 h4 h5 h6 (rk1 h7)
    dsimp only at kk
    rw [if_pos hc] at kk
    exact kk
theorem sg_if_lt (hx : p.tables.exec = Jvm.exec) (hb : c.code = cc) {x : Int} {o : Int} {a : Nat} (ht : (pc : Int) + o = (a : Int)) (hdg : decode cc pc = .ok (.ifCond .lt o, 3)) (k : Wg p l e R s m args below meth c Q D cl A cA kv X n0 ad0 nL B1 B2 (if i32 x < 0 then a else pc + 3, L, S, kc, ks, h)) : Wg p l e R s m args below meth c Q D cl A cA kv X n0 ad0 nL B1 B2 (pc, L, aI x :: S, kc, ks, h) := by
  intro b1 b2 hn ad H locs ls h1 h3 h4 h5 h6 h7
  refine lv_if_lt hx hb hdg ht (fun hc => ?_) (fun hc => ?_)
  · have kk := k b1 b2 hn ad H locs ls h1 h3 h4 h5 h6 (rk1 h7)
    dsimp only at kk
    rw [if_pos hc] at kk
    exact kk
  · have kk := k b1 b2 hn ad H locs ls h1 h3 h4 h5 h6 (rk1 h7)
    dsimp only at kk
    rw [if_neg hc] at kk
    exact kk
theorem sg_if_ge (hx : p.tables.exec = Jvm.exec) (hb : c.code = cc) {x : Int} {o : Int} {a : Nat} (ht : (pc : Int) + o = (a : Int)) (hdg : decode cc pc = .ok (.ifCond .ge o, 3)) (k : Wg p l e R s m args below meth c Q D cl A cA kv X n0 ad0 nL B1 B2 (if i32 x < 0 then pc + 3 else a, L, S, kc, ks, h)) : Wg p l e R s m args below meth c Q D cl A cA kv X n0 ad0 nL B1 B2 (pc, L, aI x :: S, kc, ks, h) := by
  intro b1 b2 hn ad H locs ls h1 h3 h4 h5 h6 h7
  refine lv_if_ge hx hb hdg ht (fun hc => ?_) (fun hc => ?_)
  · have kk := k b1 b2 hn ad H locs ls h1 h3 h4 h5 h6 (rk1 h7)
    dsimp only at kk
    rw [if_neg (le_iff_not_lt32.mp hc)] at kk
    exact kk
  · have kk := k b1 b2 hn ad H locs ls h1 h3 h4 h5 h6 (rk1 h7)
    dsimp only at kk
    rw [if_pos (Decidable.not_not.mp (fun z => hc (le_iff_not_lt32.mpr z)))] at kk
    exact kk
theorem sg_if_gt (hx : p.tables.exec = Jvm.exec) (hb : c.code = cc) {x : Int} {o : Int} {a : Nat} (ht : (pc : Int) + o = (a : Int)) (hdg : decode cc pc = .ok (.ifCond .gt o, 3)) (k : Wg p l e R s m args below meth c Q D cl A cA kv X n0 ad0 nL B1 B2 (if 0 < i32 x then a else pc + 3, L, S, kc, ks, h)) : Wg p l e R s m args below meth c Q D cl A cA kv X n0 ad0 nL B1 B2 (pc, L, aI x :: S, kc, ks, h) := by
  intro b1 b2 hn ad H locs ls h1 h3 h4 h5 h6 h7
  refine lv_if_gt hx hb hdg ht (fun hc => ?_) (fun hc => ?_)
  · have kk := k b1 b2 hn ad H locs ls h1 h3 h4 h5 h6 (rk1 h7)
    dsimp only at kk
    rw [if_pos hc] at kk
    exact kk
  · have kk := k b1 b2 hn ad H locs ls h1 h3 h4 h5 h6 (rk1 h7)
    dsimp only at kk
    rw [if_neg hc] at kk
    exact kk
theorem sg_if_le (hx : p.tables.exec = Jvm.exec) (hb : c.code = cc) {x : Int} {o : Int} {a : Nat} (ht : (pc : Int) + o = (a : Int)) (hdg : decode cc pc = .ok (.ifCond .le o, 3)) (k : Wg p l e R s m args below meth c Q D cl A cA kv X n0 ad0 nL B1 B2 (if 0 < i32 x then pc + 3 else a, L, S, kc, ks, h)) : Wg p l e R s m args below meth c Q D cl A cA kv X n0 ad0 nL B1 B2 (pc, L, aI x :: S, kc, ks, h) := by
  intro b1 b2 hn ad H locs ls h1 h3 h4 h5 h6 h7
  refine lv_if_le hx hb hdg ht (fun hc => ?_) (fun hc => ?_)
  · have kk := k b1 b2 hn ad H locs ls h1 h3 h4 h5 h6 (rk1 h7)
    dsimp only at kk
    rw [if_neg (le_iff_not_lt32.mp hc)] at kk
    exact kk
  · have kk := k b1 b2 hn ad H locs ls h1 h3 h4 h5 h6 (rk1 h7)
    dsimp only at kk
    rw [if_pos (Decidable.not_not.mp (fun z => hc (le_iff_not_lt32.mpr z)))] at kk
    exact kk
theorem sg_icmp_eq (hx : p.tables.exec = Jvm.exec) (hb : c.code = cc) {x y : Int} {o : Int} {a : Nat} (ht : (pc : Int) + o = (a : Int)) (hdg : decode cc pc = .ok (.if_icmp .eq o, 3)) (k : Wg p l e R s m args below meth c Q D cl A cA kv X n0 ad0 nL B1 B2 (if i32 x = i32 y then a else pc + 3, L, S, kc, ks, h)) : Wg p l e R s m args below meth c Q D cl A cA kv X n0 ad0 nL B1 B2 (pc, L, aI y :: aI x :: S, kc, ks, h) := by
  intro b1 b2 hn ad H locs ls h1 h3 h4 h5 h6 h7
  refine lv_icmp_eq hx hb hdg ht (fun hc => ?_) (fun hc => ?_)
  · have kk := k b1 b2 hn ad H locs ls h1 h3 h4 h5 h6 (rk1 (rk1 h7))
    dsimp only at kk
    rw [if_pos hc] at kk
    exact kk
  · have kk := k b1 b2 hn ad H locs ls h1 h3 h4 h5 h6 (rk1 (rk1 h7))
    dsimp only at kk
    rw [if_neg hc] at kk
    exact kk
theorem sg_icmp_ne (hx : p.tables.exec = Jvm.exec) (hb : c.code = cc) {x y : Int} {o : Int} {a : Nat} (ht : (pc : Int) + o = (a : Int)) (hdg : decode cc pc = .ok (.if_icmp .ne o, 3)) (k : Wg p l e R s m args below meth c Q D cl A cA kv X n0 ad0 nL B1 B2 (if i32 x = i32 y then pc + 3 else a, L, S, kc, ks, h)) : Wg p l e R s m args below meth c Q D cl A cA kv X n0 ad0 nL B1 B2 (pc, L, aI y :: aI x :: S, kc, ks, h) := by
  intro b1 b2 hn ad H locs ls h1 h3 h4 h5 h6 h7
  refine lv_icmp_ne hx hb hdg ht (fun hc => ?_) (fun hc => ?_)
  · have kk := k b1 b2 hn ad H locs ls h1 h3 h4 h5 h6 (rk1 (rk1 h7))
    dsimp only at kk
    rw [if_neg hc] at kk
    exact kk
  · have kk := k b1 b2 hn ad H locs ls h1 h3 h4 h5 h6 (rk1 (rk1 h7))
    dsimp only at kk
    rw [if_pos hc] at kk
    exact kk
theorem sg_icmp_lt (hx : p.tables.exec = Jvm.exec) (hb : c.code = cc) {x y : Int} {o : Int} {a : Nat} (ht : (pc : Int) + o = (a : Int)) (hdg : decode cc pc = .ok (.if_icmp .lt o, 3)) (k : Wg p l e R s m args below meth c Q D cl A cA kv X n0 ad0 nL B1 B2 (if i32 x < i32 y then a else pc + 3, L, S, kc, ks, h)) : Wg p l e R s m args below meth c Q D cl A cA kv X n0 ad0 nL B1 B2 (pc, L, aI y :: aI x :: S, kc, ks, h) := by
  intro b1 b2 hn ad H locs ls h1 h3 h4 h5 h6 h7
  refine lv_icmp_lt hx hb hdg ht (fun hc => ?_) (fun hc => ?_)
  · have kk := k b1 b2 hn ad H locs ls h1 h3 h4 h5 h6 (rk1 (rk1 h7))
    dsimp only at kk
    rw [if_pos hc] at kk
    exact kk
  · have kk := k b1 b2 hn ad H locs ls h1 h3 h4 h5 h6 (rk1 (rk1 h7))
    dsimp only at kk
    rw [if_neg hc] at kk
    exact kk
theorem sg_icmp_ge (hx : p.tables.exec = Jvm.exec) (hb : c.code = cc) {x y : Int} {o : Int} {a : Nat} (ht : (pc : Int) + o = (a : Int)) (hdg : decode cc pc = .ok (.if_icmp .ge o, 3)) (k : Wg p l e R s m args below meth c Q D cl A cA kv X n0 ad0 nL B1 B2 (if i32 x < i32 y then pc + 3 else a, L, S, kc, ks, h)) : Wg p l e R s m args below meth c Q D cl A cA kv X n0 ad0 nL B1 B2 (pc, L, aI y :: aI x :: S, kc, ks, h) := by
  intro b1 b2 hn ad H locs ls h1 h3 h4 h5 h6 h7
  refine lv_icmp_ge hx hb hdg ht (fun hc => ?_) (fun hc => ?_)
  · have kk := k b1 b2 hn ad H locs ls h1 h3 h4 h5 h6 (rk1 (rk1 h7))
    dsimp only at kk
    rw [if_neg (le_iff_not_lt32.mp hc)] at kk
    exact kk
  · have kk := k b1 b2 hn ad H locs ls h1 h3 h4 h5 h6 (rk1 (rk1 h7))
    dsimp only at kk
    rw [if_pos (Decidable.not_not.mp (fun z => hc (le_iff_not_lt32.mpr z)))] at kk
    exact kk
theorem sg_icmp_gt (hx : p.tables.exec = Jvm.exec) (hb : c.code = cc) {x y : Int} {o : Int} {a : Nat} (ht : (pc : Int) + o = (a : Int)) (hdg : decode cc pc = .ok (.if_icmp .gt o, 3)) (k : Wg p l e R s m args below meth c Q D cl A cA kv X n0 ad0 nL B1 B2 (if i32 y < i32 x then a else pc + 3, L, S, kc, ks, h)) : Wg p l e R s m args below meth c Q D cl A cA kv X n0 ad0 nL B1 B2 (pc, L, aI y :: aI x :: S, kc, ks, h) := by
  intro b1 b2 hn ad H locs ls h1 h3 h4 h5 h6 h7
  refine lv_icmp_gt hx hb hdg ht (fun hc => ?_) (fun hc => ?_)
  · have kk := k b1 b2 hn ad H locs ls h1 h3 h4 h5 h6 (rk1 (rk1 h7))
    dsimp only at kk
    rw [if_pos hc] at kk
    exact kk
  · have kk := k b1 b2 hn ad H locs ls h1 h3 h4 h5 h6 (rk1 (rk1 h7))
    dsimp only at kk
    rw [if_neg hc] at kk
    exact kk
theorem sg_icmp_le (hx : p.tables.exec = Jvm.exec) (hb : c.code = cc) {x y : Int} {o : Int} {a : Nat} (ht : (pc : Int) + o = (a : Int)) (hdg : decode cc pc = .ok (.if_icmp .le o, 3)) (k : Wg p l e R s m args below meth c Q D cl A cA kv X n0 ad0 nL B1 B2 (if i32 y < i32 x then pc + 3 else a, L, S, kc, ks, h)) : Wg p l e R s m args below meth c Q D cl A cA kv X n0 ad0 nL B1 B2 (pc, L, aI y :: aI x :: S, kc, ks, h) := by
  intro b1 b2 hn ad H locs ls h1 h3 h4 h5 h6 h7
  refine lv_icmp_le hx hb hdg ht (fun hc => ?_) (fun hc => ?_)
  · have kk := k b1 b2 hn ad H locs ls h1 h3 h4 h5 h6 (rk1 (rk1 h7))
    dsimp only at kk
    rw [if_neg (le_iff_not_lt32.mp hc)] at kk
    exact kk
  · have kk := k b1 b2 hn ad H locs ls h1 h3 h4 h5 h6 (rk1 (rk1 h7))
    dsimp only at kk
    rw [if_pos (Decidable.not_not.mp (fun z => hc (le_iff_not_lt32.mpr z)))] at kk
    exact kk
theorem sg_ifnonnull (hx : p.tables.exec = Jvm.exec) (hb : c.code = cc) {q : Nat} {o : Int} {a : Nat} (ht : (pc : Int) + o = (a : Int)) (hdg : decode cc pc = .ok (.ifnonnull o, 3)) (k : Wg p l e R s m args below meth c Q D cl A cA kv X n0 ad0 nL B1 B2 (a, L, S, kc, ks, h)) : Wg p l e R s m args below meth c Q D cl A cA kv X n0 ad0 nL B1 B2 (pc, L, aR q :: S, kc, ks, h) := by
  intro b1 b2 hn ad H locs ls h1 h3 h4 h5 h6 h7
  exact lv_ifnonnull hx hb hdg ht (k b1 b2 hn ad H locs ls h1 h3 h4 h5 h6 (rk1 h7))
theorem sg_ifnonnullC (hx : p.tables.exec = Jvm.exec) (hb : c.code = cc) {j : Nat} {o : Int} {a : Nat} (hj : ∃ t, kv j = .ref t) (ht : (pc : Int) + o = (a : Int)) (hdg : decode cc pc = .ok (.ifnonnull o, 3)) (k : Wg p l e R s m args below meth c Q D cl A cA kv X n0 ad0 nL B1 B2 (a, L, S, kc, ks, h)) : Wg p l e R s m args below meth c Q D cl A cA kv X n0 ad0 nL B1 B2 (pc, L, aC j :: S, kc, ks, h) := by
  intro b1 b2 hn ad H locs ls h1 h3 h4 h5 h6 h7
  obtain ⟨t, e9⟩ := hj
  change W p l e R s m args below meth c H locs kc ks Q (F0 m pc ls (kv j :: S.map (adV kv ad)))
  rw [e9]
  exact lv_ifnonnull hx hb hdg ht (k b1 b2 hn ad H locs ls h1 h3 h4 h5 h6 (rk1 h7))
theorem sg_ifnonnullN (hx : p.tables.exec = Jvm.exec) (hb : c.code = cc) {o : Int} (hdg : decode cc pc = .ok (.ifnonnull o, 3)) (k : Wg p l e R s m args below meth c Q D cl A cA kv X n0 ad0 nL B1 B2 (pc + 3, L, S, kc, ks, h)) : Wg p l e R s m args below meth c Q D cl A cA kv X n0 ad0 nL B1 B2 (pc, L, aN :: S, kc, ks, h) := by
  intro b1 b2 hn ad H locs ls h1 h3 h4 h5 h6 h7
  exact lv_ifnonnullN hx hb hdg (k b1 b2 hn ad H locs ls h1 h3 h4 h5 h6 (rk1 h7))
end ST
