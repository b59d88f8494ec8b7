theorem Iv.lt {D : va_G} {cl : List vw_C} {A : Nat → Prop} {cA : Nat → ClassId} {kv : Nat → Value} {X : Nat × (Nat → Int)} {ad : Nat → Nat} {h : aH} {H : Heap} (hI : Iv D cl A cA kv X ad h H) {q : Nat} (hq : h.2.2 q ≠ dead) : q < h.2.1 := by
  rcases Nat.lt_or_ge q h.2.1 with z | z
  · exact z
  · exact absurd (hI.2.2.1 q z) hq
theorem ne_dead_o {c : aCell} {ci : Nat} {fs : List aV} (h : c = Sum.inr (ci, fs)) {k : Nat} (hk : k < fs.length) : c ≠ dead := by
  intro z
  rw [h] at z
  unfold dead at z
  cases z
  simp at hk
theorem ne_dead_a {c : aCell} {x : Nat × Nat × aArr} (h : c = Sum.inl x) : c ≠ dead := by
  intro z
  rw [h] at z
  unfold dead at z
  cases z
theorem rokH_sw {h : aH} {q : Nat} {c : aCell} (hr : rokH h) (hc : rokC h.2.1 c) : rokH (sw h q c) := by
  intro a
  show rokC h.2.1 (va_up h.2.2 q c a)
  unfold va_up
  split
  · exact hc
  · exact hr a
theorem Iv.sw {D : va_G} {cl : List vw_C} {A : Nat → Prop} {cA : Nat → ClassId} {kv : Nat → Value} {X : Nat × (Nat → Int)} {ad : Nat → Nat} {h : aH} {H H1 : Heap} (hI : Iv D cl A cA kv X ad h H) {q : Nat} {c : aCell} (hq : q < h.2.1) (hc : rokC h.2.1 c)
    (hP : va_P D cl ((wsl cA kv ad h).set q (ad q, tcl cA kv ad c)) H1) (hD : va_D A ((wsl cA kv ad h).set q (ad q, tcl cA kv ad c))) : Iv D cl A cA kv X ad (sw h q c) H1 := by
  rw [wsl_set hq] at hP hD
  refine ⟨hP, hD, fun a ha => ?_, rokH_sw hI.2.2.2.1 hc, hI.2.2.2.2⟩
  show va_up h.2.2 q c a = dead
  have ha : h.2.1 ≤ a := ha
  have : a ≠ q := by omega
  simp [va_up, this, hI.2.2.1 a ha]
theorem rokH_pw {h : aH} {c : aCell} (hr : rokH h) (hc : rokC (h.2.1 + 1) c) : rokH (pw h c) := by
  intro a
  show rokC (h.2.1 + 1) (va_up h.2.2 h.2.1 c a)
  unfold va_up
  split
  · exact hc
  · exact rokC_mono (Nat.le_succ _) (hr a)
theorem Iv.pw {D : va_G} {cl : List vw_C} {A : Nat → Prop} {cA : Nat → ClassId} {kv : Nat → Value} {X : Nat × (Nat → Int)} {ad : Nat → Nat} {h : aH} {H H1 : Heap} (hI : Iv D cl A cA kv X ad h H) {q : Nat} {c : aCell} (hc : rokC h.2.1 c)
    (hP : va_P D cl (wsl cA kv ad h ++ [(q, tcl cA kv ad c)]) H1) (hD : va_D A (wsl cA kv ad h ++ [(q, tcl cA kv ad c)])) : Iv D cl A cA kv X (va_up ad h.2.1 q) (pw h c) H1 := by
  rw [wsl_push hI.2.2.2.1 hc] at hP hD
  refine ⟨hP, hD, fun a ha => ?_, rokH_pw hI.2.2.2.1 (rokC_mono (Nat.le_succ _) hc), hI.2.2.2.2⟩
  show va_up h.2.2 h.2.1 c a = dead
  have ha : h.2.1 + 1 ≤ a := ha
  have : a ≠ h.2.1 := by omega
  simp [va_up, this, hI.2.2.1 a (by omega)]
theorem fitB_ok {kv : Nat → Value} {ad : Nat → Nat} {ty : FieldType} {v : aV} (h : fitB ty v = true) : narrow ty (adV kv ad v) = adV kv ad v ∧ fits ty (adV kv ad v) = true := by
  unfold fitB at h
  split at h
  · exact ⟨rfl, rfl⟩
  · rename_i x
    simp only [Bool.or_eq_true, decide_eq_true_eq] at h
    rcases h with h | h <;> subst h <;> exact ⟨rfl, rfl⟩
  · exact ⟨rfl, rfl⟩
  · exact ⟨rfl, rfl⟩
  · cases h
theorem up_i32 {f : Nat → Int} {x v : Int} {w : Int32} (h0 : 0 ≤ x) (h1 : x < 2147483648) (hw : w = i32 v) : upd (fun j => i32 (f j)) (i32 x).toNatClampNeg w = fun j => i32 (va_up f x.toNat v j) := by
  funext j
  rw [i32_cl h0 h1]
  unfold upd va_up
  split
  · exact hw
  · rfl
theorem up_long {f : Nat → Int64} {x : Int} {v : Int64} (h0 : 0 ≤ x) (h1 : x < 2147483648) : vp_updL f (i32 x).toNatClampNeg v = va_up f x.toNat v := by
  funext j
  rw [i32_cl h0 h1]
  rfl
theorem nar_byte (v : Int) : vp_nar .byte (i32 v) = i32 (byI v) := by
  rw [vp_nar_byte]
  exact (i32_to _).symm
theorem u16_mod (x : UInt32) : x.toUInt16.toUInt32 = x % 65536 := by
  apply UInt32.toNat_inj.mp
  simp
theorem nar_char (v : Int) : vp_nar .char (i32 v) = i32 (chI v) := by
  rw [vp_nar_char, u16_mod]
  exact (i32_to _).symm
theorem ra_same {U : State} {c1 c2 : ClassId} {ty : FieldType} (h1 : va_RA U c1 ty) (h2 : va_RA U c2 ty) : c1 = c2 := by
  cases ty with
  | object C =>
    obtain ⟨_, _, -, -, -, e1⟩ := h1
    obtain ⟨_, _, -, -, -, e2⟩ := h2
    exact Option.some.inj (e1.symm.trans e2)
  | _ => exact Option.some.inj (Eq.trans (Eq.symm h1) h2)
theorem fresh_agr {n : Nat} {ad : Nat → Nat} {q : Nat} : agr n ad (va_up ad n q) := fun a ha => by simp [va_up, Nat.ne_of_lt ha]
theorem up_at {n : Nat} {ad : Nat → Nat} {q : Nat} : va_up ad n q n = q := by simp [va_up]
theorem dfl_ok {kv : Nat → Value} {ad : Nat → Nat} {ty : FieldType} (h : ty ≠ .long ∧ ty ≠ .float ∧ ty ≠ .double) : defaultValue ty = adV kv ad (dfl ty) := by
  cases ty <;> first | rfl | (simp at h)
theorem rok_dfl {n : Nat} (ty : FieldType) : rok n (dfl ty) := by
  cases ty <;> trivial
section SH
variable {p : Program} {l : Launch} {e : Env} {R : Room} {s : State} {m : MethodId} {args : Array Value} {below : List Frame} {meth : Method} {c : Code} {Q : State → Prop}
variable {cc : ByteArray} {D : va_G} {cl : List vw_C} {A : Nat → Prop} {cA : Nat → ClassId} {kv : Nat → Value} {X : Nat × (Nat → Int)} {n0 : Nat} {ad0 : Nat → Nat} {nL B1 B2 : Nat}
variable {pc : Nat} {L S : List aV} {kc ks : Nat} {h : aH}
theorem sg_get (hx : p.tables.exec = Jvm.exec) (hb : c.code = cc) {own ref C : String} {T : u_T} {N ci index : Nat} {Ts : List Cond} (hts : ∀ w ∈ Ts, w.before args s = true) (hin : ∀ w ∈ u_ws C T N, w ∈ Ts) (hown : s.vm.findClass own = some m.cls) (hK : va_K D cl (tysA cA) s) (hc : cl[ci]? = some (C, T, N)) (k0 : Nat) (hk : k0 < N) (hlink : (Cond.fieldLink own index ref (T k0).2.1 (T k0).2.2.1).before args s = true) (hsame : ∀ x, s.fieldFound? (T k0).1 (T k0).2.1 (T k0).2.2.1 = some x → s.fieldFound? ref (T k0).2.1 (T k0).2.2.1 = some x) {q : Nat} {fs : List aV} {v : aV} (hq : h.2.2 q = Sum.inr (ci, fs)) (hv : fs[k0]? = some v) (hdg : decode cc pc = .ok (.getfield index, 3)) (k : Wg p l e R s m args below meth c Q D cl A cA kv X n0 ad0 nL B1 B2 (pc + 3, L, v :: S, kc, ks, h)) : Wg p l e R s m args below meth c Q D cl A cA kv X n0 ad0 nL B1 B2 (pc, L, aR q :: S, kc, ks, h) := by
  intro b1 b2 hn ad H locs ls h1 h3 h4 h5 h6 h7
  have hlt : q < h.2.1 := h3.lt (ne_dead_o hq (List.getElem?_eq_some_iff.mp hv).1)
  have he : (wsl cA kv ad h)[q]? = some (ad q, .inr (ci, fs.map (adV kv ad))) := by rw [wsl_get hlt, hq]; rfl
  have hrv : rok h.2.1 v := by
    have h9 := h3.2.2.2.1 q
    rw [hq] at h9
    exact rokL_at h9 hv
  refine va_get (v := adV kv ad v) hx hb hts hin hown hK h3.1 q he hc k0 hk hlink hsame (by rw [List.getElem?_map, hv]; rfl) hdg ?_
  exact k b1 b2 hn ad H locs ls h1 h3 h4 h5 h6 (rkV hrv (rk1 h7))
theorem sg_put (hx : p.tables.exec = Jvm.exec) (hb : c.code = cc) {own ref C : String} {T : u_T} {N ci index : Nat} {Ts : List Cond} (hts : ∀ w ∈ Ts, w.before args s = true) (hin : ∀ w ∈ u_ws C T N, w ∈ Ts) (hown : s.vm.findClass own = some m.cls) (hK : va_K D cl (tysA cA) s) (hc : cl[ci]? = some (C, T, N)) (k0 : Nat) (hk : k0 < N) (hlink : (Cond.fieldLink own index ref (T k0).2.1 (T k0).2.2.1).before args s = true) (hsame : ∀ x, s.fieldFound? (T k0).1 (T k0).2.1 (T k0).2.2.1 = some x → s.fieldFound? ref (T k0).2.1 (T k0).2.2.1 = some x) (ty0 : Nat → FieldType) (hty : ∀ k, k < N → parseFieldDescriptor (T k).2.2.1 = some (ty0 k)) (hnm : ∀ a, a < N → ∀ b, b < N → a ≠ b → (T a).2.1 ≠ (T b).2.1) (hfin : (T k0).2.2.2 = false)  {q : Nat} {fs : List aV} {v : aV} (hq : h.2.2 q = Sum.inr (ci, fs)) (hf : fitB (ty0 k0) v = true) (hlt9 : k0 < fs.length) (hdg : decode cc pc = .ok (.putfield index, 3)) (k : Wg p l e R s m args below meth c Q D cl A cA kv X n0 ad0 nL B1 B2 (pc + 3, L, S, kc, ks, sw h q (Sum.inr (ci, fs.set k0 v)))) : Wg p l e R s m args below meth c Q D cl A cA kv X n0 ad0 nL B1 B2 (pc, L, v :: aR q :: S, kc, ks, h) := by
  intro b1 b2 hn ad H locs ls h1 h3 h4 h5 h6 h7
  have hlt : q < h.2.1 := h3.lt (ne_dead_o hq hlt9)
  have he : (wsl cA kv ad h)[q]? = some (ad q, .inr (ci, fs.map (adV kv ad))) := by rw [wsl_get hlt, hq]; rfl
  obtain ⟨f1, f2⟩ := fitB_ok (kv := kv) (ad := ad) hf
  have hrc : rokC h.2.1 (Sum.inr (ci, fs.set k0 v)) := by
    have h9 := h3.2.2.2.1 q
    rw [hq] at h9
    exact rokL_set k0 (rk0 h7) h9
  refine va_put (v := adV kv ad v) (ty := ty0 k0) hx hb hts hin ty0 hty hnm hown hK h3.1 h3.2.1 h4 q he hc k0 hk hlink hsame hfin (hty k0 hk) f1 f2 (by rw [List.length_map]; exact hlt9) hdg (fun H1 locs1 hP1 hD1 hS1 => ?_)
  have e9 : (.inr (ci, (fs.map (adV kv ad)).set k0 (adV kv ad v)) : va_E) = tcl cA kv ad (Sum.inr (ci, fs.set k0 v)) := by
    show _ = (.inr (ci, (fs.set k0 v).map (adV kv ad)) : va_E)
    rw [List.map_set]
  rw [e9] at hP1 hD1
  exact k b1 b2 hn ad H1 locs1 ls h1 (h3.sw hlt hrc hP1 hD1) hS1 h5 h6 (rk1 (rk1 h7))
theorem sg_putF (hx : p.tables.exec = Jvm.exec) (hb : c.code = cc) {own ref C : String} {T : u_T} {N ci index : Nat} {Ts : List Cond} (hts : ∀ w ∈ Ts, w.before args s = true) (hin : ∀ w ∈ u_ws C T N, w ∈ Ts) (hown : s.vm.findClass own = some m.cls) (hK : va_K D cl (tysA cA) s) (hc : cl[ci]? = some (C, T, N)) (k0 : Nat) (hk : k0 < N) (hlink : (Cond.fieldLink own index ref (T k0).2.1 (T k0).2.2.1).before args s = true) (hsame : ∀ x, s.fieldFound? (T k0).1 (T k0).2.1 (T k0).2.2.1 = some x → s.fieldFound? ref (T k0).2.1 (T k0).2.2.1 = some x) (ty0 : Nat → FieldType) (hty : ∀ k, k < N → parseFieldDescriptor (T k).2.2.1 = some (ty0 k)) (hnm : ∀ a, a < N → ∀ b, b < N → a ≠ b → (T a).2.1 ≠ (T b).2.1) (hfin : (T k0).2.2.2 = true) (hin2 : meth.name = "<init>") (hdecl : (T k0).1 = own) {q : Nat} {fs : List aV} {v : aV} (hq : h.2.2 q = Sum.inr (ci, fs)) (hf : fitB (ty0 k0) v = true) (hlt9 : k0 < fs.length) (hdg : decode cc pc = .ok (.putfield index, 3)) (k : Wg p l e R s m args below meth c Q D cl A cA kv X n0 ad0 nL B1 B2 (pc + 3, L, S, kc, ks, sw h q (Sum.inr (ci, fs.set k0 v)))) : Wg p l e R s m args below meth c Q D cl A cA kv X n0 ad0 nL B1 B2 (pc, L, v :: aR q :: S, kc, ks, h) := by
  intro b1 b2 hn ad H locs ls h1 h3 h4 h5 h6 h7
  have hlt : q < h.2.1 := h3.lt (ne_dead_o hq hlt9)
  have he : (wsl cA kv ad h)[q]? = some (ad q, .inr (ci, fs.map (adV kv ad))) := by rw [wsl_get hlt, hq]; rfl
  obtain ⟨f1, f2⟩ := fitB_ok (kv := kv) (ad := ad) hf
  have hrc : rokC h.2.1 (Sum.inr (ci, fs.set k0 v)) := by
    have h9 := h3.2.2.2.1 q
    rw [hq] at h9
    exact rokL_set k0 (rk0 h7) h9
  refine va_putF (v := adV kv ad v) (ty := ty0 k0) hx hb hts hin ty0 hty hnm hown hK h3.1 h3.2.1 h4 q he hc k0 hk hlink hsame hfin hin2 hdecl (hty k0 hk) f1 f2 (by rw [List.length_map]; exact hlt9) hdg (fun H1 locs1 hP1 hD1 hS1 => ?_)
  have e9 : (.inr (ci, (fs.map (adV kv ad)).set k0 (adV kv ad v)) : va_E) = tcl cA kv ad (Sum.inr (ci, fs.set k0 v)) := by
    show _ = (.inr (ci, (fs.set k0 v).map (adV kv ad)) : va_E)
    rw [List.map_set]
  rw [e9] at hP1 hD1
  exact k b1 b2 hn ad H1 locs1 ls h1 (h3.sw hlt hrc hP1 hD1) hS1 h5 h6 (rk1 (rk1 h7))
theorem sg_alen (hx : p.tables.exec = Jvm.exec) (hb : c.code = cc) (hK : va_K D cl (tysA cA) s) {q t n : Nat} {z : aArr} (ht : t < 5) (hq : h.2.2 q = Sum.inl (t, n, z)) (hdg : decode cc pc = .ok (.arraylength, 1)) (k : Wg p l e R s m args below meth c Q D cl A cA kv X n0 ad0 nL B1 B2 (pc + 1, L, aI n :: S, kc, ks, h)) : Wg p l e R s m args below meth c Q D cl A cA kv X n0 ad0 nL B1 B2 (pc, L, aR q :: S, kc, ks, h) := by
  intro b1 b2 hn ad H locs ls h1 h3 h4 h5 h6 h7
  have hlt : q < h.2.1 := h3.lt (ne_dead_a hq)
  have kk := k b1 b2 hn ad H locs ls h1 h3 h4 h5 h6 (rkI (rk1 h7))
  simp only [List.map_cons, adV, i32_nat] at kk
  obtain f | f | f := z
  · exact va_alen hx hb hK h3.1 q t (x := (n, .inl fun j => i32 (f j))) (by rw [wsl_get hlt, hq]; rfl) (tys_at cA ht) rfl hdg kk
  · exact va_alen hx hb hK h3.1 q t (x := (n, .inr (.inl f))) (by rw [wsl_get hlt, hq]; rfl) (tys_at cA ht) rfl hdg kk
  · exact va_alen hx hb hK h3.1 q t (x := (n, .inr (.inr (.inr (.inr fun j => (f j).map ad))))) (by rw [wsl_get hlt, hq]; rfl) (tys_at cA ht) rfl hdg kk
theorem sg_ald_i (hx : p.tables.exec = Jvm.exec) (hb : c.code = cc) (hK : va_K D cl (tysA cA) s) {q n : Nat} {f : Nat → Int} {x : Int} (hq : h.2.2 q = Sum.inl (0, n, Sum.inl f)) (x0 : 0 ≤ x) (x1 : x < n) (x2 : x < 2147483648) (hdg : decode cc pc = .ok (.iaload, 1)) (k : Wg p l e R s m args below meth c Q D cl A cA kv X n0 ad0 nL B1 B2 (pc + 1, L, aI (f x.toNat) :: S, kc, ks, h)) : Wg p l e R s m args below meth c Q D cl A cA kv X n0 ad0 nL B1 B2 (pc, L, aI x :: aR q :: S, kc, ks, h) := by
  intro b1 b2 hn ad H locs ls h1 h3 h4 h5 h6 h7
  have hlt : q < h.2.1 := h3.lt (ne_dead_a hq)
  refine va_iald hx hb hK h3.1 q 0 (n := n) (f := fun j => i32 (f j)) (by rw [wsl_get hlt, hq]; rfl) rfl (i32_in x0 x1 x2) hdg ?_
  rw [i32_cl x0 x2]
  exact k b1 b2 hn ad H locs ls h1 h3 h4 h5 h6 (rkI (rk1 (rk1 h7)))
theorem sg_ald_b (hx : p.tables.exec = Jvm.exec) (hb : c.code = cc) (hK : va_K D cl (tysA cA) s) {q n : Nat} {f : Nat → Int} {x : Int} (hq : h.2.2 q = Sum.inl (1, n, Sum.inl f)) (x0 : 0 ≤ x) (x1 : x < n) (x2 : x < 2147483648) (hdg : decode cc pc = .ok (.baload, 1)) (k : Wg p l e R s m args below meth c Q D cl A cA kv X n0 ad0 nL B1 B2 (pc + 1, L, aI (f x.toNat) :: S, kc, ks, h)) : Wg p l e R s m args below meth c Q D cl A cA kv X n0 ad0 nL B1 B2 (pc, L, aI x :: aR q :: S, kc, ks, h) := by
  intro b1 b2 hn ad H locs ls h1 h3 h4 h5 h6 h7
  have hlt : q < h.2.1 := h3.lt (ne_dead_a hq)
  refine va_bald hx hb hK h3.1 q 1 (n := n) (f := fun j => i32 (f j)) (by rw [wsl_get hlt, hq]; rfl) rfl (i32_in x0 x1 x2) hdg ?_
  rw [i32_cl x0 x2]
  exact k b1 b2 hn ad H locs ls h1 h3 h4 h5 h6 (rkI (rk1 (rk1 h7)))
theorem sg_ast_i (hx : p.tables.exec = Jvm.exec) (hb : c.code = cc) (hK : va_K D cl (tysA cA) s) {q n : Nat} {f : Nat → Int} {x v : Int} (hq : h.2.2 q = Sum.inl (0, n, Sum.inl f)) (x0 : 0 ≤ x) (x1 : x < n) (x2 : x < 2147483648) (hdg : decode cc pc = .ok (.iastore, 1)) (k : Wg p l e R s m args below meth c Q D cl A cA kv X n0 ad0 nL B1 B2 (pc + 1, L, S, kc, ks, sw h q (Sum.inl (0, n, Sum.inl (va_up f x.toNat (v)))))) : Wg p l e R s m args below meth c Q D cl A cA kv X n0 ad0 nL B1 B2 (pc, L, aI v :: aI x :: aR q :: S, kc, ks, h) := by
  intro b1 b2 hn ad H locs ls h1 h3 h4 h5 h6 h7
  have hlt : q < h.2.1 := h3.lt (ne_dead_a hq)
  refine va_iast hx hb hK h3.1 h3.2.1 h4 q 0 (n := n) (f := fun j => i32 (f j)) (by rw [wsl_get hlt, hq]; rfl) rfl (i32_in x0 x1 x2) hdg (fun H1 locs1 hP1 hD1 hS1 => ?_)
  rw [up_i32 x0 x2 (rfl)] at hP1 hD1
  exact k b1 b2 hn ad H1 locs1 ls h1 (h3.sw (c := Sum.inl (0, n, Sum.inl (va_up f x.toNat (v)))) hlt trivial hP1 hD1) hS1 h5 h6 (rk1 (rk1 (rk1 h7)))
theorem sg_ast_b (hx : p.tables.exec = Jvm.exec) (hb : c.code = cc) (hK : va_K D cl (tysA cA) s) {q n : Nat} {f : Nat → Int} {x v : Int} (hq : h.2.2 q = Sum.inl (1, n, Sum.inl f)) (x0 : 0 ≤ x) (x1 : x < n) (x2 : x < 2147483648) (hdg : decode cc pc = .ok (.bastore, 1)) (k : Wg p l e R s m args below meth c Q D cl A cA kv X n0 ad0 nL B1 B2 (pc + 1, L, S, kc, ks, sw h q (Sum.inl (1, n, Sum.inl (va_up f x.toNat (byI v)))))) : Wg p l e R s m args below meth c Q D cl A cA kv X n0 ad0 nL B1 B2 (pc, L, aI v :: aI x :: aR q :: S, kc, ks, h) := by
  intro b1 b2 hn ad H locs ls h1 h3 h4 h5 h6 h7
  have hlt : q < h.2.1 := h3.lt (ne_dead_a hq)
  refine va_bast hx hb hK h3.1 h3.2.1 h4 q 1 (n := n) (f := fun j => i32 (f j)) (by rw [wsl_get hlt, hq]; rfl) rfl (i32_in x0 x1 x2) hdg (fun H1 locs1 hP1 hD1 hS1 => ?_)
  rw [up_i32 x0 x2 (nar_byte v)] at hP1 hD1
  exact k b1 b2 hn ad H1 locs1 ls h1 (h3.sw (c := Sum.inl (1, n, Sum.inl (va_up f x.toNat (byI v)))) hlt trivial hP1 hD1) hS1 h5 h6 (rk1 (rk1 (rk1 h7)))
theorem sg_aald (hx : p.tables.exec = Jvm.exec) (hb : c.code = cc) (hK : va_K D cl (tysA cA) s) {q n r : Nat} {f : Nat → Option Nat} {x : Int} (hq : h.2.2 q = Sum.inl (4, n, Sum.inr (Sum.inr f))) (hr : f x.toNat = some r) (x0 : 0 ≤ x) (x1 : x < n) (x2 : x < 2147483648) (hdg : decode cc pc = .ok (.aaload, 1)) (k : Wg p l e R s m args below meth c Q D cl A cA kv X n0 ad0 nL B1 B2 (pc + 1, L, aR r :: S, kc, ks, h)) : Wg p l e R s m args below meth c Q D cl A cA kv X n0 ad0 nL B1 B2 (pc, L, aI x :: aR q :: S, kc, ks, h) := by
  intro b1 b2 hn ad H locs ls h1 h3 h4 h5 h6 h7
  have hlt : q < h.2.1 := h3.lt (ne_dead_a hq)
  have hrr : r < h.2.1 := by
    have h9 := h3.2.2.2.1 q
    rw [hq] at h9
    exact h9 _ _ hr
  refine va_aldq hx hb hK h3.1 q 4 (n := n) (f := fun j => (f j).map ad) (by rw [wsl_get hlt, hq]; rfl) rfl (i32_in x0 x1 x2) hdg ?_
  rw [i32_cl x0 x2, hr]
  exact k b1 b2 hn ad H locs ls h1 h3 h4 h5 h6 (rkV hrr (rk1 (rk1 h7)))
theorem sg_aast (hx : p.tables.exec = Jvm.exec) (hb : c.code = cc) (hK : va_K D cl (tysA cA) s) {T : u_T} {N ci : Nat} (hc : cl[ci]? = some ("BalloonPost$World", T, N)) {q n r : Nat} {fs : List aV} {f : Nat → Option Nat} {x : Int} (hq : h.2.2 q = Sum.inl (4, n, Sum.inr (Sum.inr f))) (hr : h.2.2 r = Sum.inr (ci, fs)) (hr0 : 0 < fs.length) (x0 : 0 ≤ x) (x1 : x < n) (x2 : x < 2147483648) (hdg : decode cc pc = .ok (.aastore, 1)) (k : Wg p l e R s m args below meth c Q D cl A cA kv X n0 ad0 nL B1 B2 (pc + 1, L, S, kc, ks, sw h q (Sum.inl (4, n, Sum.inr (Sum.inr (va_up f x.toNat (some r))))))) : Wg p l e R s m args below meth c Q D cl A cA kv X n0 ad0 nL B1 B2 (pc, L, aR r :: aI x :: aR q :: S, kc, ks, h) := by
  intro b1 b2 hn ad H locs ls h1 h3 h4 h5 h6 h7
  have hlt : q < h.2.1 := h3.lt (ne_dead_a hq)
  have hlr : r < h.2.1 := h3.lt (ne_dead_o hr hr0)
  refine va_astq hx hb hK h3.1 h3.2.1 h4 q 4 r ci (r := ("BalloonPost$World", T, N)) (n := n) (v := ad r) (vs := fs.map (adV kv ad)) (f := fun j => (f j).map ad) (by rw [wsl_get hlt, hq]; rfl) rfl (by rw [wsl_get hlr, hr]; rfl) hc (i32_in x0 x1 x2) hdg (fun H1 locs1 hP1 hD1 hS1 => ?_)
  have e9 : va_up (fun j => (f j).map ad) (i32 x).toNatClampNeg (some (ad r)) = fun j => (va_up f x.toNat (some r) j).map ad := by
    funext j
    rw [i32_cl x0 x2]
    unfold va_up
    split <;> rfl
  rw [e9] at hP1 hD1
  have hrc : rokC h.2.1 (Sum.inl (4, n, Sum.inr (Sum.inr (va_up f x.toNat (some r))))) := by
    intro j a hj
    have h9 := h3.2.2.2.1 q
    rw [hq] at h9
    unfold va_up at hj
    split at hj
    · cases hj
      exact hlr
    · exact h9 j a hj
  exact k b1 b2 hn ad H1 locs1 ls h1 (h3.sw hlt hrc hP1 hD1) hS1 h5 h6 (rk1 (rk1 (rk1 h7)))
theorem sg_new (hx : p.tables.exec = Jvm.exec) (hb : c.code = cc) {own C : String} {T : u_T} {N ci index : Nat} {Ts : List Cond} (hts : ∀ w ∈ Ts, w.before args s = true) (hin : ∀ w ∈ u_ws C T N, w ∈ Ts) (hty : ∀ k, k < N → parseFieldDescriptor (T k).2.2.1 = some (fty ci k)) (hlg : ∀ k, k < N → fty ci k ≠ .long ∧ fty ci k ≠ .float ∧ fty ci k ≠ .double) (hN : N = (ftyA ci).length) (hown : s.vm.findClass own = some m.cls) (hcl : (Cond.classLink own index C).before args s = true) (hinst : (Cond.instantiable C N).before args s = true) (hini : (Cond.initialized C).before args s = true) (hK : va_K D cl (tysA cA) s) (hA : ∀ q, s.heap.size ≤ q → A q) (hc : cl[ci]? = some (C, T, N)) (hb1 : kc + 1 ≤ B1) (hb2 : ks + (ftyA ci).length ≤ B2) (hR1 : B1 ≤ R.cells) (hR2 : B2 ≤ R.slots) (hdg : decode cc pc = .ok (.new index, 3)) (k : Wg p l e R s m args below meth c Q D cl A cA kv X n0 ad0 nL B1 B2 (pc + 3, L, aR h.2.1 :: S, kc + 1, ks + (ftyA ci).length, pw h (newF ci))) : Wg p l e R s m args below meth c Q D cl A cA kv X n0 ad0 nL B1 B2 (pc, L, S, kc, ks, h) := by
  intro b1 b2 hn ad H locs ls h1 h3 h4 h5 h6 h7
  subst hN
  refine va_new (fs := ((ftyA ci).map dfl).map (adV kv ad)) hx hb hts hin (fty ci) hty hown hcl hinst hini hK h3.1 h3.2.1 h4 hA hc (fun j hj => ?_) (Nat.le_trans hb1 hR1) (Nat.le_trans hb2 hR2) hdg (fun q9 H1 hP1 hD1 hS1 => ?_)
  · rw [dfl_ok (kv := kv) (ad := ad) (hlg j hj)]
    simp [vp_V, fty, hj]
  have kk := k (by simpa using hb1) (by simpa using hb2) (Nat.le_succ_of_le hn) (va_up ad h.2.1 q9) H1 locs ls (agr.tr hn h1 fresh_agr) (h3.pw (c := newF ci) (fun v hv => by obtain ⟨ty, -, rfl⟩ := List.mem_map.mp hv; exact rok_dfl ty) hP1 hD1) hS1 (h5.agr fresh_agr h6) (rokL_mono (Nat.le_succ _) h6) (rkV (Nat.lt_succ_self h.2.1) (rokL_mono (Nat.le_succ _) (h7)))
  simp only [List.map_cons] at kk
  rw [adL_agr fresh_agr (h7), show adV kv (va_up ad h.2.1 q9) (aR h.2.1) = .ref q9 from congrArg Value.ref up_at] at kk
  exact kk
theorem sg_newa_i (hx : p.tables.exec = Jvm.exec) (hb : c.code = cc) (harr : (Cond.arrayClass .int).before args s = true) (hK : va_K D cl (tysA cA) s) (hA : ∀ q, s.heap.size ≤ q → A q) {x : Int} (x0 : 0 ≤ x) (x1 : x < 65536) (hb1 : kc + 1 ≤ B1) (hb2 : ks + x.toNat ≤ B2) (hR1 : B1 ≤ R.cells) (hR2 : B2 ≤ R.slots) (hdg : decode cc pc = .ok (.newarray .int, 2)) (k : Wg p l e R s m args below meth c Q D cl A cA kv X n0 ad0 nL B1 B2 (pc + 2, L, aR h.2.1 :: S, kc + 1, ks + x.toNat, pw h (Sum.inl (0, x.toNat, Sum.inl fun _ => 0)))) : Wg p l e R s m args below meth c Q D cl A cA kv X n0 ad0 nL B1 B2 (pc, L, aI x :: S, kc, ks, h) := by
  intro b1 b2 hn ad H locs ls h1 h3 h4 h5 h6 h7
  refine va_newa (atype := .int) (ty := .int) (a0 := (x.toNat, .inl fun _ => 0)) (N' := x.toNat) hx hb harr rfl hK h3.1 h3.2.1 h4 hA (fun _ => rfl) (i32_nneg x0 (by omega)) (i32_cl x0 (by omega)) (by simp only [componentBytes]; omega) (Nat.le_trans hb1 hR1) (Nat.le_trans hb2 hR2) hdg (fun q9 cA9 H1 hK1 hP1 hD1 hS1 => ?_)
  have ec : cA9 = cA 0 := ra_same (hK1.2 5 (cA9, .int) rfl).2 (hK.2 0 (cA 0, .int) rfl).2
  subst ec
  have kk := k (by simpa using hb1) (by simpa using hb2) (Nat.le_succ_of_le hn) (va_up ad h.2.1 q9) H1 locs ls (agr.tr hn h1 fresh_agr) (h3.pw (c := Sum.inl (0, x.toNat, Sum.inl fun _ => 0)) trivial hP1 hD1) hS1 (h5.agr fresh_agr h6) (rokL_mono (Nat.le_succ _) h6) (rkV (Nat.lt_succ_self h.2.1) (rokL_mono (Nat.le_succ _) (rk1 h7)))
  simp only [List.map_cons] at kk
  rw [adL_agr fresh_agr (rk1 h7), show adV kv (va_up ad h.2.1 q9) (aR h.2.1) = .ref q9 from congrArg Value.ref up_at] at kk
  exact kk
theorem sg_newa_b (hx : p.tables.exec = Jvm.exec) (hb : c.code = cc) (harr : (Cond.arrayClass .byte).before args s = true) (hK : va_K D cl (tysA cA) s) (hA : ∀ q, s.heap.size ≤ q → A q) {x : Int} (x0 : 0 ≤ x) (x1 : x < 65536) (hb1 : kc + 1 ≤ B1) (hb2 : ks + x.toNat ≤ B2) (hR1 : B1 ≤ R.cells) (hR2 : B2 ≤ R.slots) (hdg : decode cc pc = .ok (.newarray .byte, 2)) (k : Wg p l e R s m args below meth c Q D cl A cA kv X n0 ad0 nL B1 B2 (pc + 2, L, aR h.2.1 :: S, kc + 1, ks + x.toNat, pw h (Sum.inl (1, x.toNat, Sum.inl fun _ => 0)))) : Wg p l e R s m args below meth c Q D cl A cA kv X n0 ad0 nL B1 B2 (pc, L, aI x :: S, kc, ks, h) := by
  intro b1 b2 hn ad H locs ls h1 h3 h4 h5 h6 h7
  refine va_newa (atype := .byte) (ty := .byte) (a0 := (x.toNat, .inl fun _ => 0)) (N' := x.toNat) hx hb harr rfl hK h3.1 h3.2.1 h4 hA (fun _ => rfl) (i32_nneg x0 (by omega)) (i32_cl x0 (by omega)) (by simp only [componentBytes]; omega) (Nat.le_trans hb1 hR1) (Nat.le_trans hb2 hR2) hdg (fun q9 cA9 H1 hK1 hP1 hD1 hS1 => ?_)
  have ec : cA9 = cA 1 := ra_same (hK1.2 5 (cA9, .byte) rfl).2 (hK.2 1 (cA 1, .byte) rfl).2
  subst ec
  have kk := k (by simpa using hb1) (by simpa using hb2) (Nat.le_succ_of_le hn) (va_up ad h.2.1 q9) H1 locs ls (agr.tr hn h1 fresh_agr) (h3.pw (c := Sum.inl (1, x.toNat, Sum.inl fun _ => 0)) trivial hP1 hD1) hS1 (h5.agr fresh_agr h6) (rokL_mono (Nat.le_succ _) h6) (rkV (Nat.lt_succ_self h.2.1) (rokL_mono (Nat.le_succ _) (rk1 h7)))
  simp only [List.map_cons] at kk
  rw [adL_agr fresh_agr (rk1 h7), show adV kv (va_up ad h.2.1 q9) (aR h.2.1) = .ref q9 from congrArg Value.ref up_at] at kk
  exact kk
theorem sg_newq (hx : p.tables.exec = Jvm.exec) (hb : c.code = cc) {own : String} {index : Nat} (hown : s.vm.findClass own = some m.cls) (hcl : (Cond.classLink own index "BalloonPost$World").before args s = true) (hover : va_AO "BalloonPost$World" s) (hK : va_K D cl (tysA cA) s) (hA : ∀ q, s.heap.size ≤ q → A q) {x : Int} (x0 : 0 ≤ x) (x1 : x < 65536) (hb1 : kc + 1 ≤ B1) (hb2 : ks + x.toNat ≤ B2) (hR1 : B1 ≤ R.cells) (hR2 : B2 ≤ R.slots) (hdg : decode cc pc = .ok (.anewarray index, 3)) (k : Wg p l e R s m args below meth c Q D cl A cA kv X n0 ad0 nL B1 B2 (pc + 3, L, aR h.2.1 :: S, kc + 1, ks + x.toNat, pw h (Sum.inl (4, x.toNat, Sum.inr (Sum.inr fun _ => none))))) : Wg p l e R s m args below meth c Q D cl A cA kv X n0 ad0 nL B1 B2 (pc, L, aI x :: S, kc, ks, h) := by
  intro b1 b2 hn ad H locs ls h1 h3 h4 h5 h6 h7
  refine va_newq (N' := x.toNat) hx hb hown hcl hover hK h3.1 h3.2.1 h4 hA (i32_nneg x0 (by omega)) (i32_cl x0 (by omega)) (by omega) (Nat.le_trans hb1 hR1) (Nat.le_trans hb2 hR2) hdg (fun q9 cA9 H1 hK1 hP1 hD1 hS1 => ?_)
  have ec : cA9 = cA 4 := ra_same (hK1.2 5 (cA9, .object "BalloonPost$World") rfl).2 (hK.2 4 (cA 4, .object "BalloonPost$World") rfl).2
  subst ec
  have kk := k (by simpa using hb1) (by simpa using hb2) (Nat.le_succ_of_le hn) (va_up ad h.2.1 q9) H1 locs ls (agr.tr hn h1 fresh_agr) (h3.pw (c := Sum.inl (4, x.toNat, Sum.inr (Sum.inr fun _ => none))) (fun _ _ z => by cases z) hP1 hD1) hS1 (h5.agr fresh_agr h6) (rokL_mono (Nat.le_succ _) h6) (rkV (Nat.lt_succ_self h.2.1) (rokL_mono (Nat.le_succ _) (rk1 h7)))
  simp only [List.map_cons] at kk
  rw [adL_agr fresh_agr (rk1 h7), show adV kv (va_up ad h.2.1 q9) (aR h.2.1) = .ref q9 from congrArg Value.ref up_at] at kk
  exact kk
theorem catL {kv : Nat → Value} (hkv : ∀ j, kv j = .null ∨ ∃ t, kv j = .ref t) {ad : Nat → Nat} {S : List aV} (h : S.length ≤ 4) : ((S.map (adV kv ad)).map fun v => v.category).sum ≤ 8 := by
  have key : ∀ S : List aV, ((S.map (adV kv ad)).map fun v => v.category).sum ≤ 2 * S.length := by
    intro S
    induction S with
    | nil => exact Nat.le_refl 0
    | cons v S ih =>
      have : (adV kv ad v).category ≤ 2 := by
        cases adV kv ad v <;> simp [Value.category]
      simp only [List.map_cons, List.sum_cons, List.length_cons]
      omega
  have := key S
  omega
theorem sg_objInit (hx : p.tables.exec = Jvm.exec) (hb : c.code = cc) (hkv : ∀ j, kv j = .null ∨ ∃ t, kv j = .ref t) {own : String} (hown : s.vm.findClass own = some m.cls) {idx : Nat} (hlink : (Cond.methodLink own idx Lib.objectInit).before args s = true) (hinst : (Cond.instanceMethod Lib.objectInit).before args s = true) (hcode : (Cond.code Lib.objectInit ⟨#[0xb1]⟩ 1 none).before args s = true) (hml : c.maxLocals = nL) (hfr : 3 ≤ R.frames) (hlo : 130 ≤ R.locals) {q : Nat} (hS4 : S.length ≤ 4) (hdg : decode cc pc = .ok (.invokespecial idx, 3)) (k : Wg p l e R s m args below meth c Q D cl A cA kv X n0 ad0 nL B1 B2 (pc + 3, L, S, kc, ks, h)) : Wg p l e R s m args below meth c Q D cl A cA kv X n0 ad0 nL B1 B2 (pc, L, aR q :: S, kc, ks, h) := by
  intro b1 b2 hn ad H locs ls h1 h3 h4 h5 h6 h7
  refine W.objInit hx hb hown hlink hinst hcode (g := F0 m pc ls ((aR q :: S).map (adV kv ad))) rfl (by rw [hml]; exact h5.2.1) (a := ad q) (rest := S.map (adV kv ad)) rfl hdg (by omega) ?_ ?_
  · have := catL hkv (ad := ad) hS4
    have h9 := lv_room (m := m) (pc := pc) (ls := ls) (rest := (aR q :: S).map (adV kv ad)) this
    omega
  · exact k b1 b2 hn ad H locs ls h1 h3 h4 h5 h6 (rk1 h7)
theorem sg_copy (hx : p.tables.exec = Jvm.exec) (hb : c.code = cc) (hkv : ∀ j, kv j = .null ∨ ∃ t, kv j = .ref t) {own : String} {index : Nat} (hown : s.vm.findClass own = some m.cls) (hlink : (Cond.methodLink own index arraycopyName).before args s = true) (hnat : (Cond.native arraycopyName).before args s = true) (hstat : (Cond.static arraycopyName).before args s = true) (hini : (Cond.initialized "java/lang/System").before args s = true) (hK : va_K D cl (tysA cA) s) (hml : c.maxLocals = nL) (hfr : 3 ≤ R.frames) (hlo : 130 ≤ R.locals) {n dp sp : Int} {q r m9 w9 : Nat} {f g : Nat → Int} (hr : h.2.2 r = Sum.inl (0, m9, Sum.inl f)) (hq : h.2.2 q = Sum.inl (0, w9, Sum.inl g)) (n9 : 0 ≤ n) (s0 : 0 ≤ sp) (d0 : 0 ≤ dp) (e1 : sp + n ≤ m9) (e2 : dp + n ≤ w9) (n1 : n < 1073741824) (s1 : sp < 1073741824) (d1 : dp < 1073741824) (hS4 : S.length ≤ 4) (hdg : decode cc pc = .ok (.invokestatic index, 3)) (k : Wg p l e R s m args below meth c Q D cl A cA kv X n0 ad0 nL B1 B2 (pc + 3, L, S, kc, ks, sw h q (Sum.inl (0, w9, Sum.inl (va_cpy f g sp.toNat dp.toNat n.toNat))))) : Wg p l e R s m args below meth c Q D cl A cA kv X n0 ad0 nL B1 B2 (pc, L, aI n :: aI dp :: aR q :: aI sp :: aR r :: S, kc, ks, h) := by
  intro b1 b2 hn ad H locs ls h1 h3 h4 h5 h6 h7
  have hlr : r < h.2.1 := h3.lt (ne_dead_a hr)
  have hlq : q < h.2.1 := h3.lt (ne_dead_a hq)
  have c1 := i32_cl n9 (by omega : n < 2147483648)
  have c2 := i32_cl s0 (by omega : sp < 2147483648)
  have c3 := i32_cl d0 (by omega : dp < 2147483648)
  have c9 := catL hkv (ad := ad) hS4
  refine va_copyi hx hb (by rw [hml, h5.2.1]) hown hlink hnat hstat hini hK h3.1 h3.2.1 h4 r q 0 0 (a0 := ad r) (a := ad q) (n0 := m9) (n1 := w9) (f := fun j => i32 (f j)) (g := fun j => i32 (g j)) (by rw [wsl_get hlr, hr]; rfl) (by rw [wsl_get hlq, hq]; rfl) rfl rfl rfl (i32_nneg s0 (by omega)) (i32_nneg d0 (by omega)) (i32_nneg n9 (by omega)) (by rw [c1, c2]; omega) (by rw [c1, c3]; omega) (fun _ _ => rfl) (by omega) ?_ hdg (fun H1 locs1 hP1 hD1 hS1 => ?_)
  · have : nativeFrameWords "java/lang/System" "arraycopy" 5 + 11 ≤ 100 := by decide +kernel
    omega
  · have e9 : va_cpy (fun j => i32 (f j)) (fun j => i32 (g j)) (i32 sp).toNatClampNeg (i32 dp).toNatClampNeg (i32 n).toNatClampNeg = fun j => i32 (va_cpy f g sp.toNat dp.toNat n.toNat j) := by
      funext j
      rw [c1, c2, c3]
      unfold va_cpy
      split <;> rfl
    rw [e9] at hP1 hD1
    exact k b1 b2 hn ad H1 locs1 ls h1 (h3.sw (c := Sum.inl (0, w9, Sum.inl (va_cpy f g sp.toNat dp.toNat n.toNat))) hlq trivial hP1 hD1) hS1 h5 h6 (rk1 (rk1 (rk1 (rk1 (rk1 h7)))))
end SH
