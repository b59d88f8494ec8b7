/-! THE CLAIM OUT OF ONE WALK OF THE LAW'S BODY. Your part is whole_start (and what it stands on); all else here is the same for every law, but numbers. -/
def R_law : String := "BalloonPostLaw"
def lw_P (b : Addr) (xs : List Int32) (args : Array Value) (s : State) : Prop := args = #[.ref b] ∧ s.IntsAt b xs ∧ xs.length ≤ 260 ∧ (Jvm.Cond.and given_1 narrow_1).before args s = true
def lw_Q (_ : Array Value) (s : State) (o : Outcome) (t : State) : Prop := o = .returned (some (.int 1)) ∧ Framed s o t [] 600086 7301441
def lw_Z (below : List Frame) (a : Array Value) (s : State) : State → Prop := fun t => ∃ o, t.status = .running ∧ Ended t below o ∧ lw_Q a s o t
/-- the law's own end, with 1 on the stack, nothing written that was there before, its room as the claim has it -/
theorem lw_ret {p : Program} {l : Launch} {e : Env} {s : State} {m : MethodId} {below : List Frame} {meth : Method} {c : Code} {b : Nat} (hx : p.tables.exec = Jvm.exec) (hb : c.code = code) (hr : meth.sig.returnType = ret) (hlocks : meth.locks = false) {pc : Nat} {H : Heap} {ls : Array Slot} (hdg : decode code pc = .ok (.ireturn, 1)) : W p l e room_1 s m #[Value.ref b] below meth c H [] 600086 7301441 (lw_Z below #[Value.ref b] s) (F0 m pc ls [.int 1]) := by
  intro T hT X
  obtain ⟨fs, hret, hrun, hended, hW, hframe⟩ := X.leave (v := some (.int 1)) (hlocks := hlocks) (fun h => by rw [hr] at h; cases h)
  have hmeth' : T.vm.method? m = some meth := X.method'
  refine ⟨T.setFrames fs, ?_, .returned (some (.int 1)), hrun, hended, rfl, ⟨_, rfl⟩, hW, hframe⟩
  jvm_step X.here [X.here.top, hx, hb, hdg, hmeth', hr, ret, narrow_b1]
  (try refine ⟨rfl, ?_⟩); (try refine ⟨rfl, ?_⟩)
  first | (intro acts; rw [hret _ acts rfl rfl rfl]) | rw [hret _ _ rfl rfl rfl]
  exact Steps.refl _
/-- what holds at the law's entry: the machine, the code, the tables' words (any of lw_tbl by 'hts w (by decide +kernel)'), the script of L ints xs at the cell b, what the Statement gives of the start (any of its parts by flat_of_before) -/
def lw_At (p : Program) (s : State) (m : MethodId) (meth : Method) (c : Code) (b L : Nat) (xs : Nat → Int32) : Prop :=
  p.tables.exec = Jvm.exec ∧ c.code = code ∧ meth.sig.returnType = ret ∧ c.maxLocals = 8 ∧ s.vm.findClass R_law = some m.cls ∧ (∀ w ∈ lw_tbl, w.before #[Value.ref b] s = true) ∧ va_X b L xs s s.heap ∧ b < s.heap.size ∧ meth.locks = false ∧ (Jvm.Cond.and given_1 narrow_1).before #[Value.ref b] s = true
/-! THE LAW'S RUN -/
def lawL : List aV := entL 387 [aC 0]
theorem w_law : mby 387 = code ∧ mnL 387 = 8 ∧ mrt 387 = some .boolean ∧ mhnd 387 = [] ∧ cn (ocl 387) = "BalloonPostLaw" ∧ (mnm 387).name = "law" ∧ mbud 387 = (600086, 7301441) ∧ room_1.frames = 13 ∧ room_1.cells = 600086 ∧ room_1.slots = 7301441 ∧ room_1.locals = 470 := by
  refine ⟨rfl, ?_, ?_, ?_, ?_, ?_, ?_, ?_, ?_, ?_, ?_⟩ <;> first | rfl | decide
theorem law_walk {p : Program} {l : Launch} {e : Env} {s : State} {m : MethodId} {below : List Frame} {meth : Method} {c : Code} {b Ln : Nat} {xs : Nat → Int32} (C0 : lw_At p s m meth c b Ln xs)
    {D : va_G} {cA : Nat → ClassId} {kv : Nat → Value} (hkv : ∀ j, kv j = .null ∨ ∃ t, kv j = .ref t) (hkv0 : kv 0 = .ref b) (hK : va_K D clA (tysA cA) s) (hCF : CF (fun q => s.heap.size ≤ q) kv (Ln, fun j => (xs j).toInt) s) (hNF : NF s)
    {d : Nat} (hd : d ≤ 10) {h' : aH} (hC : Calls ca_ cf_ ocl (d + 1) 387 [aC 0] ((Ln, fun j => (xs j).toInt), 0, fun _ => dead) (.inl (some (aI 1)), h')) :
    W p l e room_1 s m #[Value.ref b] below meth c s.heap [] 0 0 (lw_Z below #[Value.ref b] s) (entryFrame m ([Value.ref b] : List Value).toArray 8) := by
  obtain ⟨hx, hb, hr, hml, hown, htbl, hX, hbl, hlocks, hgv⟩ := C0
  obtain ⟨w1, w2, w3, w4, w5, w6, w7, w8, w9, w10, w11⟩ := w_law
  have hts : ∀ w ∈ WL, w.before #[Value.ref b] s = true := fun w hw => htbl w (WL_tbl hw).1
  have hB : BX p room_1 s m #[Value.ref b] meth c D (fun q => s.heap.size ≤ q) cA kv (Ln, fun j => (xs j).toInt) 387 := ⟨hx, by rw [w1]; exact hb, hkv, hts, by rw [w5]; exact hown, hK, hCF, hNF, fun _ h => h, fun e => absurd e (by rw [w6]; decide), by rw [w2]; exact hml, by rw [w8]; decide, by rw [w11]; decide, by rw [w7, w9]; exact Nat.le_refl _, by rw [w7, w10]; exact Nat.le_refl _⟩
  have hR9 : RmF room_1 d := ⟨by rw [w8]; omega, by rw [w11]; omega⟩
  have hstep : ∀ st, stE ca_ cf_ ocl (Calls ca_ cf_ ocl d) 387 (.inl (some (aI 1)), h') (code_ 387 st.1) st (Wg p l e room_1 s m #[Value.ref b] below meth c (lw_Z below #[Value.ref b] s) D clA (fun q => s.heap.size ≤ q) cA kv (Ln, fun j => (xs j).toInt) 0 (fun _ => 0) (mnL 387) (mbud 387).1 (mbud 387).2) → Wg p l e room_1 s m #[Value.ref b] below meth c (lw_Z below #[Value.ref b] s) D clA (fun q => s.heap.size ≤ q) cA kv (Ln, fun j => (xs j).toInt) 0 (fun _ => 0) (mnL 387) (mbud 387).1 (mbud 387).2 st := by
    intro st hst
    obtain ⟨pc, L, S, kc, ks, h1⟩ := st
    dsimp only at hst
    cases hc9 : code_ 387 pc with
    | none => rw [hc9] at hst; exact absurd hst (by simp [stE])
    | some e9 =>
      rw [hc9] at hst
      have hm := mt_ok (by decide) hc9
      obtain ⟨o, len, a, b9, c9⟩ := e9
      rcases mtE_dom hm with ho | ho
      · obtain ⟨s', hl', hk'⟩ := stE_P ho hst
        exact step_sound hB ho hm hl' hk'
      · simp only [opsE, List.mem_cons, List.not_mem_nil, or_false] at ho
        rcases ho with rfl | rfl | rfl
        · refine am_call hB (Or.inr ⟨w4, fun x h9 e9 => by cases e9⟩) (by decide) hR9 hm (am_all d) ?_ hst
          intro x ad' h' H' locs' kc' ks' ls' rest' ce q9 hr
          cases hr
        · rw [mtE_101, w3] at hm
          simp only [mret, Bool.and_eq_true] at hm
          have hdg := dq_ok hm.2
          rw [w1] at hdg
          simp only [stE] at hst
          split at hst
          · rename_i v
            obtain ⟨hf, hr9⟩ := hst
            cases hr9
            intro g1 g2 hn ad H locs ls i1 i3 i4 i5 i6 i7
            dsimp only at g1 g2 hn i3 i4 i5 i6 i7 ⊢
            rw [w7] at g1 g2
            refine W.widen g1 g2 ?_
            have hend : W p l e room_1 s m #[Value.ref b] below meth c H [] 600086 7301441 (lw_Z below #[Value.ref b] s) (F0 m pc ls [.int 1]) := lw_ret hx hb hr hlocks hdg
            exact W.forget (locs := []) i4.2.2 hend
          · exact absurd hst (by simp)
        · rw [mtE_102, w3] at hm
          simp at hm
  have h0 := hC _ hstep
  have e1 : ([Value.ref b] : List Value) = ([aC 0] : List aV).map (adV kv (fun _ => 0)) := by
    show _ = [kv 0]
    rw [hkv0]
  have e3 : entryFrame m ([Value.ref b] : List Value).toArray 8 = entryFrame m (([aC 0] : List aV).map (adV kv (fun _ => 0))).toArray (mnL 387) := by
    rw [w2, ← e1]
  rw [e3, lg_entry_eq]
  refine h0 (Nat.zero_le _) (Nat.zero_le _) (Nat.le_refl _) (fun _ => 0) s.heap [] _ agr.rf ?_ va_S.rf (ent_Lh hkv (by decide) (by rw [w2]; decide)) (ent_rok (fun v hv => by simp at hv; subst hv; trivial)) (fun v hv => by cases hv)
  refine ⟨fun k q hk => ?_, ⟨fun i j p q hi _ _ => ?_, fun k q hk => ?_⟩, fun a _ => rfl, fun a => ?_, rfl⟩
  · simp [wsl] at hk
  · simp [wsl] at hi
  · simp [wsl] at hk
  · show rokC 0 dead
    intro v hv
    cases hv
