/-! THE CLASS: the remembered Worlds; the whole class's cells (written by wip/whole/gen69.py) -/
def CH (h : aH) (ps : List (Nat → Int)) : Prop := ∃ lt : Nat, lt < 8 ∧ h.2.2 55 = .inr (1, [aR 56, aI ((lt : Nat) : Int), aI ((ps.length : Nat) : Int)]) ∧ (∃ f, h.2.2 56 = .inl (4, 8, .inr (.inr f)) ∧ ∀ i, i < 8 → f i = some (57 + 18 * i)) ∧ (∀ i, i < 8 → Ex h (57 + 18 * i)) ∧ ∀ q v, ps[q]? = some v → Rp h (57 + 18 * ((lt + 8 - q) % 8)) v
theorem v_12 {h : aH} (lt tt : Nat) (hl : lt < 8) (ht : tt ≤ 8) (hO : h.2.2 55 = .inr (1, [aR 56, aI ((lt : Nat) : Int), aI ((tt : Nat) : Int)])) {f : Nat → Option Nat} (hF : h.2.2 56 = .inl (4, 8, .inr (.inr f))) (hf : ∀ i, i < 8 → f i = some (57 + 18 * i)) {w : Nat → Int} (hR : Rp h 1 w) (hI : Inv0 w) (hX : ∀ i, i < 8 → Ex h (57 + 18 * i)) (m : Nat) (hm : m = (lt + 1) % 8) : ∃ h', Ct 3 12 [aR 55, aR 1] h (.inl none, h') ∧ h'.2.2 55 = .inr (1, [aR 56, aI ((m : Nat) : Int), aI (((if tt = 8 then 8 else tt + 1 : Nat)) : Int)]) ∧ Rp h' (57 + 18 * m) w ∧ (∀ a, ¬ a = 55 → (a < 57 + 18 * m ∨ 57 + 18 * m + 18 ≤ a) → h'.2.2 a = h.2.2 a) ∧ h'.1 = h.1 ∧ h'.2.1 = h.2.1 := by
  have hm8 : m < 8 := by omega
  have hmi : ((lt : Nat) : Int) + 1 = ((lt + 1 : Nat) : Int) := by omega
  obtain ⟨h2, d2, R2, F2⟩ := v_100 (h := (sw h 55 (.inr (1, [aR 56, aI ((m : Nat) : Int), aI ((tt : Nat) : Int)])))) (A := 1) (B := 57 + 18 * m) (hR.mv fun a h1 h2 => sw_ne (by omega)) hI ((hX m hm8).mv fun a h1 h2 => sw_ne (by omega)) (by omega)
  have r55 := (F2.1 55 (by omega)).trans (sw_at h 55 _)
  obtain ⟨fs, o1⟩ := (hX m hm8).o
  obtain ⟨gs, q1⟩ := hR.o
  have hmin : minI ((tt : Nat) + 1 : Int) 8 = (((if tt = 8 then 8 else tt + 1 : Nat)) : Int) := by unfold minI; split <;> split <;> omega
  refine ⟨sw h2 55 (.inr (1, [aR 56, aI ((m : Nat) : Int), aI (((if tt = 8 then 8 else tt + 1 : Nat)) : Int)])), Ct.of [aR 55, aR 1] rfl ?_, sw_at _ _ _, R2.mv fun a h1 h2 => sw_ne (by omega), fun a h1 h2 => (sw_ne h1).trans ((F2.1 a h2).trans (sw_ne h1)), F2.2.1, F2.2.2⟩
  refine r_aldR cd_12_0 rfl rfl ?_
  refine r_aldR cd_12_1 rfl rfl ?_
  refine r_get cd_12_2 rfl hO rfl ?_
  refine r_con (v := 1) cd_12_5 rfl (by decide) ?_
  refine r_add (v := ((lt + 1 : Nat) : Int)) cd_12_6 rfl (by omega) ?_
  refine r_con (v := 8) cd_12_7 rfl (by decide) ?_
  refine r_rem cd_12_9 rfl (by omega) (by omega) (by omega) (by omega) ?_
  rw [show (((lt + 1 : Nat) : Int)) % 8 = ((m : Nat) : Int) by omega]
  refine r_put (fs' := [aR 56, aI ((m : Nat) : Int), aI ((tt : Nat) : Int)]) cd_12_10 rfl hO rfl rfl ?_
  refine r_aldR cd_12_13 rfl rfl ?_
  refine r_get cd_12_14 rfl (sw_at _ _ _) rfl ?_
  refine r_aldR cd_12_17 rfl rfl ?_
  refine r_get cd_12_18 rfl (sw_at _ _ _) rfl ?_
  refine r_wld (i := m) cd_12_21 rfl ((sw_ne (by decide)).trans hF) rfl (by omega) rfl (hf m hm8) ?_
  refine r_aldR cd_12_22 rfl rfl ?_
  refine r_cV d2 cd_12_23 rfl rfl rfl (rc0 ((sw_ne (by omega)).trans o1) rfl) rfl rfl rfl ?_
  refine r_aldR cd_12_26 rfl rfl ?_
  refine r_aldR cd_12_27 rfl rfl ?_
  refine r_get cd_12_28 rfl r55 rfl ?_
  refine r_con (v := 1) cd_12_31 rfl (by decide) ?_
  refine r_add (v := ((tt : Nat) + 1 : Int)) cd_12_32 rfl (by rfl) ?_
  refine r_con (v := 8) cd_12_33 rfl (by decide) ?_
  refine r_cI (k_373 ((tt : Nat) + 1 : Int) ⟨by omega, by omega⟩ 8 ⟨by decide, by decide⟩) cd_12_35 rfl rfl rfl True.intro rfl rfl rfl ?_
  rw [hmin]
  refine r_put (fs' := [aR 56, aI ((m : Nat) : Int), aI (((if tt = 8 then 8 else tt + 1 : Nat)) : Int)]) cd_12_38 rfl r55 rfl rfl ?_
  exact r_void cd_12_41 rfl (rfl)
theorem v_13 {h : aH} (lt tt : Nat) (hl : lt < 8) (ht : tt ≤ 8) (hO : h.2.2 55 = .inr (1, [aR 56, aI ((lt : Nat) : Int), aI ((tt : Nat) : Int)])) {f : Nat → Option Nat} (hF : h.2.2 56 = .inl (4, 8, .inr (.inr f))) (hf : ∀ i, i < 8 → f i = some (57 + 18 * i)) {v : Nat → Int} (hR : Rp h (57 + 18 * lt) v) (hI : Inv0 v) (hX : Ex h 1) (m : Nat) (hm : m = (lt + 7) % 8) (t : Nat) (ht1 : tt = t + 1) : ∃ h', Ct 3 13 [aR 55, aR 1] h (.inl none, h') ∧ h'.2.2 55 = .inr (1, [aR 56, aI ((m : Nat) : Int), aI ((t : Nat) : Int)]) ∧ Rp h' 1 v ∧ (∀ a, ¬ a = 55 → (a < 1 ∨ 19 ≤ a) → h'.2.2 a = h.2.2 a) ∧ h'.1 = h.1 ∧ h'.2.1 = h.2.1 := by
  subst ht1
  obtain ⟨h2, d2, R2, F2⟩ := v_100 (h := h) (A := 57 + 18 * lt) (B := 1) hR hI hX (by omega)
  have r55 := (F2.1 55 (by omega)).trans hO
  obtain ⟨fs, o1⟩ := hR.o
  obtain ⟨gs, q1⟩ := hX.o
  refine ⟨sw h2 55 (.inr (1, [aR 56, aI ((m : Nat) : Int), aI ((t : Nat) : Int)])), Ct.of [aR 55, aR 1] rfl ?_, sw_at _ _ _, R2.mv fun a h1 h2 => sw_ne (by omega), fun a h1 h2 => (sw_ne h1).trans (F2.1 a (by omega)), F2.2.1, F2.2.2⟩
  refine r_aldR cd_13_0 rfl rfl ?_
  refine r_aldR cd_13_1 rfl rfl ?_
  refine r_get cd_13_2 rfl hO rfl ?_
  refine r_aldR cd_13_5 rfl rfl ?_
  refine r_get cd_13_6 rfl hO rfl ?_
  refine r_wld (i := lt) cd_13_9 rfl hF rfl (by omega) rfl (hf lt hl) ?_
  refine r_cV d2 cd_13_10 rfl rfl rfl (rc0 q1 rfl) rfl rfl rfl ?_
  refine r_aldR cd_13_13 rfl rfl ?_
  refine r_aldR cd_13_14 rfl rfl ?_
  refine r_get cd_13_15 rfl r55 rfl ?_
  refine r_con (v := 8) cd_13_18 rfl (by decide) ?_
  refine r_add (v := ((lt + 8 : Nat) : Int)) cd_13_20 rfl (by omega) ?_
  refine r_con (v := 1) cd_13_21 rfl (by decide) ?_
  refine r_sub (v := ((lt + 7 : Nat) : Int)) cd_13_22 rfl (by omega) ?_
  refine r_con (v := 8) cd_13_23 rfl (by decide) ?_
  refine r_rem cd_13_25 rfl (by omega) (by omega) (by omega) (by omega) ?_
  rw [show (((lt + 7 : Nat) : Int)) % 8 = ((m : Nat) : Int) by omega]
  refine r_put (fs' := [aR 56, aI ((m : Nat) : Int), aI ((t + 1 : Nat) : Int)]) cd_13_26 rfl r55 rfl rfl ?_
  refine r_aldR cd_13_29 rfl rfl ?_
  refine r_dup cd_13_30 rfl rfl ?_
  refine r_get cd_13_31 rfl (sw_at _ _ _) rfl ?_
  refine r_con (v := 1) cd_13_34 rfl (by decide) ?_
  refine r_sub (v := ((t : Nat) : Int)) cd_13_35 rfl (by omega) ?_
  refine r_put (fs' := [aR 56, aI ((m : Nat) : Int), aI ((t : Nat) : Int)]) cd_13_36 rfl (sw_at _ _ _) rfl rfl ?_
  rw [sw_sw]
  exact r_void cd_13_39 rfl (rfl)
theorem v_14 {h : aH} (lt tt : Int) (hO : h.2.2 55 = .inr (1, [aR 56, aI lt, aI tt])) : Ct 1 14 [aR 55] h (.inl none, sw h 55 (.inr (1, [aR 56, aI lt, aI 0]))) := by
  refine Ct.of [aR 55] rfl ?_
  refine r_aldR cd_14_0 rfl rfl ?_
  refine r_con (v := 0) cd_14_1 rfl (by decide) ?_
  refine r_put (fs' := [aR 56, aI lt, aI 0]) cd_14_2 rfl hO rfl rfl ?_
  exact r_void cd_14_5 rfl (rfl)
/-- the script's cells -/
def CScr (h : aH) (T : Nat) (bu : Nat → Int) (ek eo : Int) : Prop := (∃ dp ex, h.2.2 201 = SO dp ex ek eo) ∧ (∃ st nx kd vl, h.2.2 202 = TO ((T : Nat) : Int) st nx kd vl) ∧ (∃ tb, h.2.2 203 = .inl (1, 600, .inl tb) ∧ ∀ k, k < T → BT (bu k) (tb k)) ∧ Ex h 204 ∧ (∃ va, h.2.2 222 = .inl (0, 4, .inl va)) ∧ (∃ bd, h.2.2 223 = .inl (0, 2, .inl bd)) ∧ ∃ rd, h.2.2 224 = .inl (0, 2, .inl rd)
def kI (kp : Option (Nat → Int)) : Int := match kp with
  | none => 0
  | some _ => 1
def CK (h : aH) (kp : Option (Nat → Int)) : Prop := match kp with
  | none => Ex h 19
  | some v => Rp h 19 v
/-- the class's cells -/
def CR (h : aH) (w : Nat → Int) (ps : List (Nat → Int)) (kp : Option (Nat → Int)) (T : Nat) (bu : Nat → Int) (ek eo : Int) (rl : Nat) (rp : Nat → Int) : Prop := h.2.2 0 = .inr (7, [aR 1, aR 19, aR 37, aR 55, aR 201, aR 225, aI ((rl : Nat) : Int), aI (kI kp)]) ∧ Rp h 1 w ∧ CK h kp ∧ Ex h 37 ∧ CH h ps ∧ CScr h T bu ek eo ∧ ∃ rb, h.2.2 225 = .inl (1, 30, .inl rb) ∧ ∀ k, k < rl → rb k = rp k
theorem CH.mv {h h' : aH} {ps : List (Nat → Int)} (C : CH h ps) (e : ∀ a, 55 ≤ a → a < 201 → h'.2.2 a = h.2.2 a) : CH h' ps := by
  obtain ⟨lt, h1, h2, ⟨f, h3, h4⟩, h5, h6⟩ := C
  exact ⟨lt, h1, (e 55 (by omega) (by omega)).trans h2, ⟨f, (e 56 (by omega) (by omega)).trans h3, h4⟩, fun i hi => (h5 i hi).mv fun a g1 g2 => e a (by omega) (by omega), fun q v hq => (h6 q v hq).mv fun a g1 g2 => e a (by omega) (by omega)⟩
theorem CScr.mv {h h' : aH} {T : Nat} {bu : Nat → Int} {ek eo : Int} (C : CScr h T bu ek eo) (e : ∀ a, 201 ≤ a → a < 225 → h'.2.2 a = h.2.2 a) : CScr h' T bu ek eo := by
  obtain ⟨⟨a1, a2, h1⟩, ⟨b1, b2, b3, b4, h2⟩, ⟨tb, h3, h3'⟩, h4, ⟨va, h5⟩, ⟨bd, h6⟩, ⟨rd, h7⟩⟩ := C
  exact ⟨⟨a1, a2, (e _ (by omega) (by omega)).trans h1⟩, ⟨b1, b2, b3, b4, (e _ (by omega) (by omega)).trans h2⟩, ⟨tb, (e _ (by omega) (by omega)).trans h3, h3'⟩, h4.mv fun a g1 g2 => e a (by omega) (by omega), ⟨va, (e _ (by omega) (by omega)).trans h5⟩, ⟨bd, (e _ (by omega) (by omega)).trans h6⟩, ⟨rd, (e _ (by omega) (by omega)).trans h7⟩⟩
theorem CK.mv {h h' : aH} {kp : Option (Nat → Int)} (C : CK h kp) (e : ∀ a, 19 ≤ a → a < 37 → h'.2.2 a = h.2.2 a) : CK h' kp := by
  cases kp with
  | none => exact Ex.mv C fun a g1 g2 => e a (by omega) (by omega)
  | some v => exact Rp.mv C fun a g1 g2 => e a (by omega) (by omega)
theorem CR.mv {h h' : aH} {w : Nat → Int} {ps : List (Nat → Int)} {kp : Option (Nat → Int)} {T : Nat} {bu : Nat → Int} {ek eo : Int} {rl : Nat} {rp : Nat → Int} (C : CR h w ps kp T bu ek eo rl rp) (e : ∀ a, a < 226 → h'.2.2 a = h.2.2 a) : CR h' w ps kp T bu ek eo rl rp := by
  obtain ⟨h1, h2, h3, h4, h5, h6, ⟨rb, h7, h8⟩⟩ := C
  exact ⟨(e _ (by omega)).trans h1, h2.mv fun a g1 g2 => e a (by omega), h3.mv fun a g1 g2 => e a (by omega), h4.mv fun a g1 g2 => e a (by omega), h5.mv fun a g1 g2 => e a (by omega), h6.mv fun a g1 g2 => e a (by omega), ⟨rb, (e _ (by omega)).trans h7, h8⟩⟩
/-- the cells behind the class's are as before -/
def Fc (h h' : aH) : Prop := (∀ a, 226 ≤ a → h'.2.2 a = h.2.2 a) ∧ h'.1 = h.1 ∧ h'.2.1 = h.2.1
theorem Fc.rf {h : aH} : Fc h h := ⟨fun _ _ => rfl, rfl, rfl⟩
theorem Fc.tr {h h1 h2 : aH} (a : Fc h h1) (b : Fc h1 h2) : Fc h h2 := ⟨fun q x => (b.1 q x).trans (a.1 q x), b.2.1.trans a.2.1, b.2.2.trans a.2.2⟩
theorem Fc.sw {h h' : aH} {q : Nat} {c : aCell} (a : Fc h h') (h1 : q < 226) : Fc h (sw h' q c) := ⟨fun r hr => (sw_ne (by omega)).trans (a.1 r hr), a.2⟩
