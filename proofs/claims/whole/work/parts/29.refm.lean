/-! THE REFERENCE: words and numbers of a script (written by wip/whole/gen29.py) -/
/-! the mathematics of scripts -/
abbrev Er : Type := Int × Int
def bnd {α β : Type} (r : Er ⊕ α) (f : α → Er ⊕ β) : Er ⊕ β := match r with
  | .inl e => .inl e
  | .inr a => f a
def eqF (tx : Nat → Int) (o : Nat) (cs : List Int) : Nat → Nat → Bool
  | 0, _ => true
  | m + 1, k => decide (tx (o + k) = cs.getD k 0) && eqF tx o cs m (k + 1)
def saysB (tx : Nat → Int) (N i : Nat) (cs : List Int) : Bool := decide (tKnd tx N i = 2) && (decide ((tEnd tx N i : Int) - (tOff tx N i : Int) = (cs.length : Int)) && eqF tx (tOff tx N i) cs cs.length 0)
def numA (tx : Nat → Int) (N i : Nat) (lo hi : Int) : Er ⊕ (Nat × Nat) := if ¬ tKnd tx N i = 3 then .inl (1, ((tOff tx N i : Nat) : Int)) else if lo ≤ tVal tx N i ∧ tVal tx N i ≤ hi then .inr ((tVal tx N i).toNat, tEnd tx N i) else .inl (2, ((tOff tx N i : Nat) : Int))
def semA (tx : Nat → Int) (N i : Nat) (can : Bool) : Er ⊕ Nat := if ¬ tKnd tx N i = 1 then .inl (1, ((tOff tx N i : Nat) : Int)) else if can = true then .inr (tEnd tx N i) else .inl (3, ((tOff tx N i : Nat) : Int))
theorem numA_o {tx : Nat → Int} {N i : Nat} {lo hi : Int} {q j : Nat} (h : numA tx N i lo hi = .inr (q, j)) (h0 : 0 ≤ lo) : ((q : Nat) : Int) = tVal tx N i ∧ lo ≤ ((q : Nat) : Int) ∧ ((q : Nat) : Int) ≤ hi ∧ j = tEnd tx N i ∧ tKnd tx N i = 3 := by
  unfold numA at h
  split at h
  · cases h
  · split at h
    · rename_i h1 h2
      cases h
      refine ⟨by omega, by omega, by omega, rfl, Classical.not_not.mp h1⟩
    · cases h
theorem numA_e {tx : Nat → Int} {N i : Nat} {lo hi k o : Int} (h : numA tx N i lo hi = .inl (k, o)) : o = ((tOff tx N i : Nat) : Int) ∧ ((k = 1 ∧ ¬ tKnd tx N i = 3) ∨ (k = 2 ∧ tKnd tx N i = 3 ∧ ¬ (lo ≤ tVal tx N i ∧ tVal tx N i ≤ hi))) := by
  unfold numA at h
  split at h
  · rename_i h1
    cases h
    exact ⟨rfl, Or.inl ⟨rfl, h1⟩⟩
  · split at h
    · cases h
    · rename_i h1 h2
      cases h
      exact ⟨rfl, Or.inr ⟨rfl, Classical.not_not.mp h1, h2⟩⟩
theorem semA_o {tx : Nat → Int} {N i : Nat} {can : Bool} {j : Nat} (h : semA tx N i can = .inr j) : tKnd tx N i = 1 ∧ can = true ∧ j = tEnd tx N i := by
  unfold semA at h
  split at h
  · cases h
  · split at h
    · rename_i h1 h2
      cases h
      exact ⟨Classical.not_not.mp h1, h2, rfl⟩
    · cases h
theorem semA_e {tx : Nat → Int} {N i : Nat} {can : Bool} {k o : Int} (h : semA tx N i can = .inl (k, o)) : o = ((tOff tx N i : Nat) : Int) ∧ ((k = 1 ∧ ¬ tKnd tx N i = 1) ∨ (k = 3 ∧ tKnd tx N i = 1 ∧ can = false)) := by
  unfold semA at h
  split at h
  · rename_i h1
    cases h
    exact ⟨rfl, Or.inl ⟨rfl, h1⟩⟩
  · split at h
    · cases h
    · rename_i h1 h2
      cases h
      exact ⟨rfl, Or.inr ⟨rfl, Classical.not_not.mp h1, by simpa using h2⟩⟩
def RZ (h h' : aH) (s' w' nu' : Nat → Int) : Prop := h'.2.2 226 = .inr (8, Mo s') ∧ h'.2.2 227 = .inl (0, 211, .inl w') ∧ h'.2.2 235 = .inl (0, 4, .inl nu') ∧ (∀ a, ¬ a = 226 → ¬ a = 227 → ¬ a = 235 → h'.2.2 a = h.2.2 a) ∧ h'.1 = h.1 ∧ h'.2.1 = h.2.1
theorem RZ.tr {h h1 h2 : aH} {s1 w1 n1 s2 w2 n2 : Nat → Int} (a : RZ h h1 s1 w1 n1) (b : RZ h1 h2 s2 w2 n2) : RZ h h2 s2 w2 n2 := ⟨b.1, b.2.1, b.2.2.1, fun q x y z => (b.2.2.2.1 q x y z).trans (a.2.2.2.1 q x y z), b.2.2.2.2.1.trans a.2.2.2.2.1, b.2.2.2.2.2.trans a.2.2.2.2.2⟩
theorem RZ.rf {h : aH} {s w nu : Nat → Int} (h1 : h.2.2 226 = .inr (8, Mo s)) (h2 : h.2.2 227 = .inl (0, 211, .inl w)) (h3 : h.2.2 235 = .inl (0, 4, .inl nu)) : RZ h h s w nu := ⟨h1, h2, h3, fun _ _ _ _ => rfl, rfl, rfl⟩
theorem RZ.s {h h' : aH} {s w nu s' : Nat → Int} (r : RZ h h' s w nu) : RZ h (sw h' 226 (.inr (8, Mo s'))) s' w nu := ⟨sw_at _ _ _, (sw_ne (by decide)).trans r.2.1, (sw_ne (by decide)).trans r.2.2.1, fun a x y z => (sw_ne x).trans (r.2.2.2.1 a x y z), r.2.2.2.2.1, r.2.2.2.2.2⟩
theorem RZ.w {h h' : aH} {s w nu w' : Nat → Int} (r : RZ h h' s w nu) : RZ h (sw h' 227 (.inl (0, 211, .inl w'))) s w' nu := ⟨(sw_ne (by decide)).trans r.1, sw_at _ _ _, (sw_ne (by decide)).trans r.2.2.1, fun a x y z => (sw_ne y).trans (r.2.2.2.1 a x y z), r.2.2.2.2.1, r.2.2.2.2.2⟩
theorem RZ.n {h h' : aH} {s w nu nu' : Nat → Int} (r : RZ h h' s w nu) : RZ h (sw h' 235 (.inl (0, 4, .inl nu'))) s w nu' := ⟨(sw_ne (by decide)).trans r.1, (sw_ne (by decide)).trans r.2.1, sw_at _ _ _, fun a x y z => (sw_ne z).trans (r.2.2.2.1 a x y z), r.2.2.2.2.1, r.2.2.2.2.2⟩
def Fx (s s' : Nat → Int) : Prop := (∀ j, j < 11 ∨ (12 < j ∧ j < 16) ∨ 20 ≤ j → s' j = s j) ∧ (s' 11 = 0 → s 11 = 0 ∧ s' 12 = s 12)
theorem Fx.rf {s : Nat → Int} : Fx s s := ⟨fun _ _ => rfl, fun h => ⟨h, rfl⟩⟩
theorem Fx.tr {s u v : Nat → Int} (a : Fx s u) (b : Fx u v) : Fx s v := ⟨fun j hj => (b.1 j hj).trans (a.1 j hj), fun h => ⟨(a.2 (b.2 h).1).1, (b.2 h).2.trans (a.2 (b.2 h).1).2⟩⟩
theorem Fx.er {s : Nat → Int} {k : Int} (hk : ¬ k = 0 := by first | decide | omega) : Fx s (erS s k) := ⟨fun j hj => by unfold erS; rw [vu_ne (by omega), vu_ne (by omega)], fun h => absurd ((show erS s k 11 = k from (vu_ne (by decide)).trans (vu_at _ _ _)).symm.trans h) hk⟩
theorem Fx.nx {s s' : Nat → Int} (h : ∀ j, j < 16 ∨ 20 ≤ j → s' j = s j) : Fx s s' := ⟨fun j hj => h j (by omega), fun e => ⟨(h 11 (by omega)).symm.trans e, h 12 (by omega)⟩⟩
/-- at the token at i, no error so far -/
def PS (s tx : Nat → Int) (N i : Nat) : Prop := s 10 = ((N : Nat) : Int) ∧ s 11 = 0 ∧ TokAt s tx N i
def PE (h h' : aH) (s w : Nat → Int) (k o : Int) : Prop := ∃ s' nu', RZ h h' s' w nu' ∧ s' 11 = k ∧ s' 12 = o ∧ Fx s s'
theorem PE.er {h h' : aH} {s s1 w nu : Nat → Int} {k o : Int} (r : RZ h h' s1 w nu) (f : Fx s s1) (e : s1 17 = o) (hk : ¬ k = 0 := by first | decide | omega) : PE h (sw h' 226 (.inr (8, Mo (erS s1 k)))) s w k o := ⟨_, _, r.s, (vu_ne (by decide)).trans (vu_at _ _ _), by rw [← e]; exact vu_at _ _ _, f.tr (Fx.er hk)⟩
theorem PE.tr {h h1 h2 : aH} {s s1 w nu : Nat → Int} {k o : Int} (r : RZ h h1 s1 w nu) (f : Fx s s1) (p : PE h1 h2 s1 w k o) : PE h h2 s w k o := by
  obtain ⟨s', nu', a, b, c, d⟩ := p
  exact ⟨s', nu', r.tr a, b, c, f.tr d⟩
theorem lp_182 {h : aH} {s tx : Nat → Int} {N i : Nat} (hM : h.2.2 226 = .inr (8, Mo s)) (htx : h.2.2 233 = .inl (0, 600, .inl tx)) (hb : TxB tx) (hN6 : N ≤ 600) (hT : PS s tx N i) (hi : i ≤ N) (j : Nat) (g0 : 19 ≤ j) (g1 : j < 80) (hl : tOff tx N i + (sT j).length ≤ 600) : ∀ (m k : Nat), k + m = (sT j).length → RU 5 182 (.inl (some (aI (bz (eqF tx (tOff tx N i) (sT j) m k)))), h) (28, [aR 226, aC j, aI ((k : Nat) : Int)], [], 0, 0, h) := by
  have hln := sT_len g0 g1
  intro m
  induction m with
  | zero =>
    intro k hm
    refine r_ild cd_182_28 rfl rfl ?_
    refine r_aldC cd_182_29 rfl rfl ?_
    refine r_cI (c_378 j g0 g1) cd_182_30 rfl rfl rfl ⟨g0, g1⟩ rfl rfl rfl ?_
    refine r_ic64 cd_182_33 rfl ⟨by omega, by omega⟩ ⟨by omega, by omega⟩ (fun n1 => ?_) (fun n1 => ?_)
    · exact absurd n1 (by omega)
    · refine r_con (v := 1) cd_182_63 rfl (by decide) ?_
      exact r_ret cd_182_64 (Or.inr rfl) (rfl)
  | succ m ih =>
    intro k hm
    refine r_ild cd_182_28 rfl rfl ?_
    refine r_aldC cd_182_29 rfl rfl ?_
    refine r_cI (c_378 j g0 g1) cd_182_30 rfl rfl rfl ⟨g0, g1⟩ rfl rfl rfl ?_
    refine r_ic64 cd_182_33 rfl ⟨by omega, by omega⟩ ⟨by omega, by omega⟩ (fun n1 => ?_) (fun n1 => ?_)
    · refine r_aldR cd_182_36 rfl rfl ?_
      refine r_get cd_182_37 rfl hM rfl ?_
      refine r_aldR cd_182_40 rfl rfl ?_
      refine r_get (v := aI ((tOff tx N i : Nat) : Int)) cd_182_41 rfl hM (by rw [← hT.2.2.2.1]; rfl) ?_
      refine r_ild cd_182_44 rfl rfl ?_
      refine r_add (v := ((tOff tx N i + k : Nat) : Int)) cd_182_45 rfl (by omega) ?_
      refine r_arr (i := tOff tx N i + k) cd_182_46 rfl htx rfl (by omega) rfl ?_
      refine r_aldC cd_182_47 rfl rfl ?_
      refine r_ild cd_182_48 rfl rfl ?_
      refine r_cI (c_380 j k g0 g1 (by omega)) cd_182_49 rfl rfl rfl ⟨g0, g1⟩ rfl rfl rfl ?_
      refine r_ic61 cd_182_52 rfl ⟨by have := hb (tOff tx N i + k); omega, by have := hb (tOff tx N i + k); omega⟩ ⟨by have := (sT_ch (k := k) g0 g1).1; omega, by have := (sT_ch (k := k) g0 g1).2; omega⟩ (fun n2 => ?_) (fun n2 => ?_)
      · refine r_inc (v := ((k + 1 : Nat) : Int)) cd_182_57 rfl rfl rfl (by omega) (L' := [aR 226, aC j, aI ((k + 1 : Nat) : Int)]) rfl ?_
        refine r_goto cd_182_60 ?_
        refine RU.res ?_ (ih (k + 1) (by omega))
        rw [show eqF tx (tOff tx N i) (sT j) (m + 1) k = eqF tx (tOff tx N i) (sT j) m (k + 1) by simp [eqF, n1, n2]]
      · refine r_con (v := 0) cd_182_55 rfl (by decide) ?_
        exact r_ret cd_182_56 (Or.inl rfl) (rB (by rw [eqF, decide_eq_false n2]; rfl))
    · exact absurd n1 (by omega)
theorem c_182 {h : aH} {s tx : Nat → Int} {N i : Nat} (hM : h.2.2 226 = .inr (8, Mo s)) (htx : h.2.2 233 = .inl (0, 600, .inl tx)) (hb : TxB tx) (hN6 : N ≤ 600) (hT : PS s tx N i) (hi : i ≤ N) (j : Nat) (g0 : 19 ≤ j) (g1 : j < 80) : Ct 5 182 [aR 226, aC j] h (.inl (some (aI (bz (saysB tx N i (sT j))))), h) := by
  have hob := tOff_b (tx := tx) (N := N) hi
  have heb := tEnd_b (tx := tx) (N := N) hi
  have hln := sT_len g0 g1
  refine Ct.of [aR 226, aC j, aU] rfl ?_
  refine r_aldR cd_182_0 rfl rfl ?_
  refine r_get (v := aI (tKnd tx N i)) cd_182_1 rfl hM (by rw [← hT.2.2.1]; rfl) ?_
  refine r_con (v := 2) cd_182_4 rfl (by decide) ?_
  refine r_ic62 cd_182_5 rfl (inR_of (tKnd_b (tx := tx) (N := N) (i := i)) (by decide) (by decide)) ⟨by omega, by omega⟩ (fun n1 => ?_) (fun n1 => ?_)
  · refine r_aldR cd_182_8 rfl rfl ?_
    refine r_get (v := aI ((tEnd tx N i : Nat) : Int)) cd_182_9 rfl hM (by rw [← hT.2.2.2.2.1]; rfl) ?_
    refine r_aldR cd_182_12 rfl rfl ?_
    refine r_get (v := aI ((tOff tx N i : Nat) : Int)) cd_182_13 rfl hM (by rw [← hT.2.2.2.1]; rfl) ?_
    refine r_sub (v := ((tEnd tx N i : Nat) : Int) - ((tOff tx N i : Nat) : Int)) cd_182_16 rfl (by rfl) ?_
    refine r_aldC cd_182_17 rfl rfl ?_
    refine r_cI (c_378 j g0 g1) cd_182_18 rfl rfl rfl ⟨g0, g1⟩ rfl rfl rfl ?_
    refine r_ic61 cd_182_21 rfl ⟨by omega, by omega⟩ ⟨by omega, by omega⟩ (fun n2 => ?_) (fun n2 => ?_)
    · refine r_con (v := 0) cd_182_26 rfl (by decide) ?_
      refine r_ist cd_182_27 rfl rfl (L' := [aR 226, aC j, aI 0]) rfl ?_
      refine RU.res ?_ (lp_182 hM htx hb hN6 hT hi j g0 g1 (by omega) (sT j).length 0 (by omega))
      simp [saysB, n1, n2]
    · refine r_con (v := 0) cd_182_24 rfl (by decide) ?_
      exact r_ret cd_182_25 (Or.inl rfl) (rB (by simp [saysB, bz, n1, n2]))
  · refine r_con (v := 0) cd_182_24 rfl (by decide) ?_
    exact r_ret cd_182_25 (Or.inl rfl) (rB (by simp [saysB, bz, n1]))
theorem c_183 {h : aH} {s : Nat → Int} (hM : h.2.2 226 = .inr (8, Mo s)) (h11 : s 11 = 0) (k : Int) : Ct 1 183 [aR 226, aI k] h (.inl (some (aI 0)), sw h 226 (.inr (8, Mo (erS s k)))) := by
  refine Ct.of [aR 226, aI k] rfl ?_
  refine r_aldR cd_183_0 rfl rfl ?_
  refine r_get (v := aI 0) cd_183_1 rfl hM (by rw [← h11]; rfl) ?_
  refine r_if52 cd_183_4 rfl ⟨by omega, by omega⟩ (fun n1 => ?_) (fun n1 => ?_)
  · refine r_aldR cd_183_7 rfl rfl ?_
    refine r_ild cd_183_8 rfl rfl ?_
    refine r_put (fs' := Mo (va_up s 11 k)) cd_183_9 rfl hM rfl rfl ?_
    refine r_aldR cd_183_12 rfl rfl ?_
    refine r_aldR cd_183_13 rfl rfl ?_
    refine r_get (v := aI (s 17)) cd_183_14 rfl (sw_at _ _ _) (rfl) ?_
    refine r_put (fs' := Mo (va_up (va_up s 11 k) 12 (s 17))) cd_183_17 rfl (sw_at _ _ _) rfl rfl ?_
    rw [sw_sw]
    refine r_con (v := 0) cd_183_20 rfl (by decide) ?_
    exact r_ret cd_183_21 (Or.inl rfl) (rfl)
  · exact absurd n1 (by decide)
theorem c_185o {h : aH} {s : Nat → Int} (hM : h.2.2 226 = .inr (8, Mo s)) (h11 : s 11 = 0) (k : Int) (hk : inR k) (h16 : inR (s 16)) (g : s 16 = k) : Ct 2 185 [aR 226, aI k] h (.inl (some (aI 1)), h) := by
  refine Ct.of [aR 226, aI k] rfl ?_
  refine r_aldR cd_185_0 rfl rfl ?_
  refine r_get (v := aI (s 16)) cd_185_1 rfl hM (rfl) ?_
  refine r_ild cd_185_4 rfl rfl ?_
  refine r_ic61 cd_185_5 rfl h16 hk (fun n1 => ?_) (fun n1 => ?_)
  · refine r_con (v := 1) cd_185_16 rfl (by decide) ?_
    refine r_goto cd_185_17 ?_
    exact r_ret cd_185_21 (Or.inr rfl) (rfl)
  · exact absurd g n1
theorem c_185e {h : aH} {s : Nat → Int} (hM : h.2.2 226 = .inr (8, Mo s)) (h11 : s 11 = 0) (k : Int) (hk : inR k) (h16 : inR (s 16)) (g : ¬ s 16 = k) : Ct 2 185 [aR 226, aI k] h (.inl (some (aI 0)), sw h 226 (.inr (8, Mo (erS s 1)))) := by
  refine Ct.of [aR 226, aI k] rfl ?_
  refine r_aldR cd_185_0 rfl rfl ?_
  refine r_get (v := aI (s 16)) cd_185_1 rfl hM (rfl) ?_
  refine r_ild cd_185_4 rfl rfl ?_
  refine r_ic61 cd_185_5 rfl h16 hk (fun n1 => ?_) (fun n1 => ?_)
  · exact absurd n1 g
  · refine r_aldR cd_185_8 rfl rfl ?_
    refine r_con (v := 1) cd_185_9 rfl (by decide) ?_
    refine r_cI (c_183 hM h11 1) cd_185_10 rfl rfl rfl (rc0 hM rfl) rfl rfl rfl ?_
    refine r_if51 cd_185_13 rfl ⟨by omega, by omega⟩ (fun n2 => ?_) (fun n2 => ?_)
    · refine r_con (v := 0) cd_185_20 rfl (by decide) ?_
      exact r_ret cd_185_21 (Or.inl rfl) (rfl)
    · exact absurd n2 (by decide)
theorem c_194o {h : aH} {s tx : Nat → Int} {N i : Nat} (hM : h.2.2 226 = .inr (8, Mo s)) (htx : h.2.2 233 = .inl (0, 600, .inl tx)) (hb : TxB tx) (hN6 : N ≤ 600) (hT : PS s tx N i) (hi : i ≤ N) {can : Bool} {j : Nat} (hA : semA tx N i can = .inr j) : Ct 3 194 [aR 226, aI (bz can)] h (.inl (some (aI 1)), h) := by
  obtain ⟨a1, a2, a3⟩ := semA_o hA
  subst a2
  refine Ct.of [aR 226, aI 1] rfl ?_
  refine r_aldR cd_194_0 rfl rfl ?_
  refine r_con (v := 1) cd_194_1 rfl (by decide) ?_
  refine r_cI (c_185o hM hT.2.1 1 ⟨by omega, by omega⟩ (by rw [hT.2.2.1]; exact inR_of tKnd_b (by decide) (by decide)) (by rw [hT.2.2.1]; exact a1)) cd_194_2 rfl rfl rfl (rc0 hM rfl) rfl rfl rfl ?_
  refine r_if51 cd_194_5 rfl ⟨by omega, by omega⟩ (fun n1 => ?_) (fun n1 => ?_)
  · exact absurd n1 (by decide)
  · refine r_ild cd_194_8 rfl rfl ?_
    refine r_if52 cd_194_9 rfl ⟨by omega, by omega⟩ (fun n2 => ?_) (fun n2 => ?_)
    · exact absurd n2 (by decide)
    · refine r_con (v := 1) cd_194_20 rfl (by decide) ?_
      refine r_goto cd_194_21 ?_
      exact r_ret cd_194_25 (Or.inr rfl) (rfl)
theorem c_194e {h : aH} {s tx : Nat → Int} {N i : Nat} (hM : h.2.2 226 = .inr (8, Mo s)) (htx : h.2.2 233 = .inl (0, 600, .inl tx)) (hb : TxB tx) (hN6 : N ≤ 600) (hT : PS s tx N i) (hi : i ≤ N) {w nu : Nat → Int} (hw : h.2.2 227 = .inl (0, 211, .inl w)) (hnu : h.2.2 235 = .inl (0, 4, .inl nu)) {can : Bool} {k o : Int} (hA : semA tx N i can = .inl (k, o)) : ∃ h', Ct 3 194 [aR 226, aI (bz can)] h (.inl (some (aI 0)), h') ∧ PE h h' s w k o := by
  obtain ⟨a1, a2⟩ := semA_e hA
  refine ⟨sw h 226 (.inr (8, Mo (erS s k))), ?_, PE.er (RZ.rf hM hw hnu) Fx.rf (by rw [hT.2.2.2.1, a1])⟩
  rcases a2 with ⟨a2, a3⟩ | ⟨a2, a3, a4⟩
  · subst a2
    refine Ct.of [aR 226, aI (bz can)] rfl ?_
    refine r_aldR cd_194_0 rfl rfl ?_
    refine r_con (v := 1) cd_194_1 rfl (by decide) ?_
    refine r_cI (c_185e hM hT.2.1 1 ⟨by omega, by omega⟩ (by rw [hT.2.2.1]; exact inR_of tKnd_b (by decide) (by decide)) (by rw [hT.2.2.1]; exact a3)) cd_194_2 rfl rfl rfl (rc0 hM rfl) rfl rfl rfl ?_
    refine r_if51 cd_194_5 rfl ⟨by omega, by omega⟩ (fun n1 => ?_) (fun n1 => ?_)
    · refine r_con (v := 0) cd_194_24 rfl (by decide) ?_
      exact r_ret cd_194_25 (Or.inl rfl) (rfl)
    · exact absurd n1 (by decide)
  · subst a2
    subst a4
    refine Ct.of [aR 226, aI 0] rfl ?_
    refine r_aldR cd_194_0 rfl rfl ?_
    refine r_con (v := 1) cd_194_1 rfl (by decide) ?_
    refine r_cI (c_185o hM hT.2.1 1 ⟨by omega, by omega⟩ (by rw [hT.2.2.1]; exact inR_of tKnd_b (by decide) (by decide)) (by rw [hT.2.2.1]; exact a3)) cd_194_2 rfl rfl rfl (rc0 hM rfl) rfl rfl rfl ?_
    refine r_if51 cd_194_5 rfl ⟨by omega, by omega⟩ (fun n1 => ?_) (fun n1 => ?_)
    · exact absurd n1 (by decide)
    · refine r_ild cd_194_8 rfl rfl ?_
      refine r_if52 cd_194_9 rfl ⟨by omega, by omega⟩ (fun n2 => ?_) (fun n2 => ?_)
      · refine r_aldR cd_194_12 rfl rfl ?_
        refine r_con (v := 3) cd_194_13 rfl (by decide) ?_
        refine r_cI (c_183 hM hT.2.1 3) cd_194_14 rfl rfl rfl (rc0 hM rfl) rfl rfl rfl ?_
        refine r_if51 cd_194_17 rfl ⟨by omega, by omega⟩ (fun n3 => ?_) (fun n3 => ?_)
        · refine r_con (v := 0) cd_194_24 rfl (by decide) ?_
          exact r_ret cd_194_25 (Or.inl rfl) (rfl)
        · exact absurd n3 (by decide)
      · exact absurd n2 (by decide)
theorem vaG_in {tx : Nat → Int} (hb : TxB tx) {o : Nat} : ∀ {m : Nat}, m ≤ 3 → -100000 ≤ itF (vaG tx) o m 0 ∧ itF (vaG tx) o m 0 ≤ 100000 := by
  intro m hm
  have h1 := hb o
  have h2 := hb (o + 1)
  have h3 := hb (o + 1 + 1)
  have : m = 0 ∨ m = 1 ∨ m = 2 ∨ m = 3 := by omega
  rcases this with rfl | rfl | rfl | rfl
  · show -100000 ≤ (0 : Int) ∧ (0 : Int) ≤ 100000
    omega
  · show -100000 ≤ 10 * 0 + tx o - 48 ∧ 10 * 0 + tx o - 48 ≤ 100000
    omega
  · show -100000 ≤ 10 * (10 * 0 + tx o - 48) + tx (o + 1) - 48 ∧ 10 * (10 * 0 + tx o - 48) + tx (o + 1) - 48 ≤ 100000
    omega
  · show -100000 ≤ 10 * (10 * (10 * 0 + tx o - 48) + tx (o + 1) - 48) + tx (o + 1 + 1) - 48 ∧ 10 * (10 * (10 * 0 + tx o - 48) + tx (o + 1) - 48) + tx (o + 1 + 1) - 48 ≤ 100000
    omega
theorem tVal_in {tx : Nat → Int} (hb : TxB tx) {N i : Nat} (hk : tKnd tx N i = 3) : inR (tVal tx N i) := by
  have h : tEnd tx N i - tOff tx N i ≤ 3 := by
    unfold tKnd at hk
    split at hk
    · omega
    · split at hk
      · omega
      · rename_i h1 h2
        rw [hk] at h2
        simp at h2
        omega
  have := vaG_in hb (o := tOff tx N i) h
  unfold tVal
  exact ⟨by omega, by omega⟩
theorem c_184o {h : aH} {s tx : Nat → Int} {N i : Nat} (hM : h.2.2 226 = .inr (8, Mo s)) (htx : h.2.2 233 = .inl (0, 600, .inl tx)) (hb : TxB tx) (hN6 : N ≤ 600) (hT : PS s tx N i) (hi : i ≤ N) {w nu : Nat → Int} (hw : h.2.2 227 = .inl (0, 211, .inl w)) (hnu : h.2.2 235 = .inl (0, 4, .inl nu)) (q : Nat) (hq : q < 4) (lo : Int) (hlo : inR lo) (hi9 : Int) (hhi : inR hi9) (h0 : 0 ≤ lo) {v j : Nat} (hA : numA tx N i lo hi9 = .inr (v, j)) : ∃ h' s', Ct 3 184 [aR 226, aI ((q : Nat) : Int), aI lo, aI hi9] h (.inl (some (aI 1)), h') ∧ RZ h h' s' w (va_up nu q ((v : Nat) : Int)) ∧ PS s' tx N j ∧ j ≤ N ∧ Fx s s' := by
  obtain ⟨a1, a2, a3, a4, a5⟩ := numA_o hA h0
  have hvr := tVal_in hb a5
  have heb := tEnd_b (tx := tx) (N := N) hi
  subst a4
  obtain ⟨s', hn1, hn2, hn3⟩ := c_179 (h := sw h 235 (.inl (0, 4, .inl (va_up nu q (tVal tx N i))))) (s := s) (tx := tx) (N := N) (i := tEnd tx N i) ((sw_ne (by decide)).trans hM) ((sw_ne (by decide)).trans htx) hb hT.1 hN6 hT.2.2.2.2.1 heb.2.1
  rw [a1]
  refine ⟨_, s', Ct.of [aR 226, aI ((q : Nat) : Int), aI lo, aI hi9] rfl ?_, (RZ.rf hM hw hnu).n.s, ⟨(hn3 10 (by omega)).trans hT.1, (hn3 11 (by omega)).trans hT.2.1, hn2⟩, heb.2.1, Fx.nx hn3⟩
  refine r_aldR cd_184_0 rfl rfl ?_
  refine r_con (v := 3) cd_184_1 rfl (by decide) ?_
  refine r_cI (c_185o hM hT.2.1 3 ⟨by omega, by omega⟩ (by rw [hT.2.2.1]; exact inR_of tKnd_b (by decide) (by decide)) (by rw [hT.2.2.1]; exact a5)) cd_184_2 rfl rfl rfl (rc0 hM rfl) rfl rfl rfl ?_
  refine r_if52 cd_184_5 rfl ⟨by omega, by omega⟩ (fun n1 => ?_) (fun n1 => ?_)
  · exact absurd n1 (by decide)
  · refine r_aldR cd_184_10 rfl rfl ?_
    refine r_get (v := aI (tVal tx N i)) cd_184_11 rfl hM (by rw [← (hT.2.2.2.2.2 a5)]; rfl) ?_
    refine r_ild cd_184_14 rfl rfl ?_
    refine r_ild cd_184_15 rfl rfl ?_
    refine r_cI (c_186 (tVal tx N i) hvr lo hlo hi9 hhi) cd_184_16 rfl rfl rfl True.intro rfl rfl rfl ?_
    refine r_if52b cd_184_19 rfl (fun n2 => ?_) (fun n2 => ?_)
    · exact Bool.noConfusion (n2.symm.trans (inB_iff.mpr ⟨by omega, by omega⟩))
    · refine r_aldR cd_184_28 rfl rfl ?_
      refine r_get cd_184_29 rfl hM rfl ?_
      refine r_ild cd_184_32 rfl rfl ?_
      refine r_aldR cd_184_33 rfl rfl ?_
      refine r_get (v := aI (tVal tx N i)) cd_184_34 rfl hM (by rw [← (hT.2.2.2.2.2 a5)]; rfl) ?_
      refine r_arsI (i := q) cd_184_37 rfl rfl hnu rfl (by omega) rfl ?_
      refine r_aldR cd_184_38 rfl rfl ?_
      refine r_cV hn1 cd_184_39 rfl rfl rfl (rc0 ((sw_ne (by decide)).trans hM) rfl) rfl rfl rfl ?_
      refine r_con (v := 1) cd_184_42 rfl (by decide) ?_
      exact r_ret cd_184_43 (Or.inr rfl) (rfl)
theorem c_184e {h : aH} {s tx : Nat → Int} {N i : Nat} (hM : h.2.2 226 = .inr (8, Mo s)) (htx : h.2.2 233 = .inl (0, 600, .inl tx)) (hb : TxB tx) (hN6 : N ≤ 600) (hT : PS s tx N i) (hi : i ≤ N) {w nu : Nat → Int} (hw : h.2.2 227 = .inl (0, 211, .inl w)) (hnu : h.2.2 235 = .inl (0, 4, .inl nu)) (q : Nat) (hq : q < 4) (lo : Int) (hlo : inR lo) (hi9 : Int) (hhi : inR hi9) (h0 : 0 ≤ lo) {k o : Int} (hA : numA tx N i lo hi9 = .inl (k, o)) : ∃ h', Ct 3 184 [aR 226, aI ((q : Nat) : Int), aI lo, aI hi9] h (.inl (some (aI 0)), h') ∧ PE h h' s w k o := by
  obtain ⟨a1, a2⟩ := numA_e hA
  refine ⟨sw h 226 (.inr (8, Mo (erS s k))), ?_, PE.er (RZ.rf hM hw hnu) Fx.rf (by rw [hT.2.2.2.1, a1])⟩
  rcases a2 with ⟨a2, a3⟩ | ⟨a2, a5, a4⟩
  · subst a2
    refine Ct.of [aR 226, aI ((q : Nat) : Int), aI lo, aI hi9] rfl ?_
    refine r_aldR cd_184_0 rfl rfl ?_
    refine r_con (v := 3) cd_184_1 rfl (by decide) ?_
    refine r_cI (c_185e hM hT.2.1 3 ⟨by omega, by omega⟩ (by rw [hT.2.2.1]; exact inR_of tKnd_b (by decide) (by decide)) (by rw [hT.2.2.1]; exact a3)) cd_184_2 rfl rfl rfl (rc0 hM rfl) rfl rfl rfl ?_
    refine r_if52 cd_184_5 rfl ⟨by omega, by omega⟩ (fun n1 => ?_) (fun n1 => ?_)
    · refine r_con (v := 0) cd_184_8 rfl (by decide) ?_
      exact r_ret cd_184_9 (Or.inl rfl) (rfl)
    · exact absurd n1 (by decide)
  · subst a2
    have hvr := tVal_in hb a5
    refine Ct.of [aR 226, aI ((q : Nat) : Int), aI lo, aI hi9] rfl ?_
    refine r_aldR cd_184_0 rfl rfl ?_
    refine r_con (v := 3) cd_184_1 rfl (by decide) ?_
    refine r_cI (c_185o hM hT.2.1 3 ⟨by omega, by omega⟩ (by rw [hT.2.2.1]; exact inR_of tKnd_b (by decide) (by decide)) (by rw [hT.2.2.1]; exact a5)) cd_184_2 rfl rfl rfl (rc0 hM rfl) rfl rfl rfl ?_
    refine r_if52 cd_184_5 rfl ⟨by omega, by omega⟩ (fun n1 => ?_) (fun n1 => ?_)
    · exact absurd n1 (by decide)
    · refine r_aldR cd_184_10 rfl rfl ?_
      refine r_get (v := aI (tVal tx N i)) cd_184_11 rfl hM (by rw [← (hT.2.2.2.2.2 a5)]; rfl) ?_
      refine r_ild cd_184_14 rfl rfl ?_
      refine r_ild cd_184_15 rfl rfl ?_
      refine r_cI (c_186 (tVal tx N i) hvr lo hlo hi9 hhi) cd_184_16 rfl rfl rfl True.intro rfl rfl rfl ?_
      refine r_if52b cd_184_19 rfl (fun n2 => ?_) (fun n2 => ?_)
      · refine r_aldR cd_184_22 rfl rfl ?_
        refine r_con (v := 2) cd_184_23 rfl (by decide) ?_
        refine r_cI (c_183 hM hT.2.1 2) cd_184_24 rfl rfl rfl (rc0 hM rfl) rfl rfl rfl ?_
        exact r_ret cd_184_27 (Or.inl rfl) (rfl)
      · exact absurd (inB_iff.mp n2) a4
theorem c_193o {h : aH} {s tx : Nat → Int} {N i : Nat} (hM : h.2.2 226 = .inr (8, Mo s)) (htx : h.2.2 233 = .inl (0, 600, .inl tx)) (hb : TxB tx) (hN6 : N ≤ 600) (hT : PS s tx N i) (hi : i ≤ N) {w nu : Nat → Int} (hw : h.2.2 227 = .inl (0, 211, .inl w)) (hnu : h.2.2 235 = .inl (0, 4, .inl nu)) (hI : Inv0 w) (q : Nat) (hq : q < 4) {v j : Nat} (hA : numA tx N i 0 (w 0 - 1) = .inr (v, j)) : ∃ h' s', Ct 4 193 [aR 226, aI ((q : Nat) : Int)] h (.inl (some (aI 1)), h') ∧ RZ h h' s' w (va_up nu q ((v : Nat) : Int)) ∧ PS s' tx N j ∧ j ≤ N ∧ Fx s s' := by
  have hbn := hI.bNe
  have hpn := hI.pNe
  have x0 := hI.len
  have x1 := hI.hour
  have x2 := hI.gas
  have x3 := hI.leak
  have x4 := hI.gn
  have x5 := hI.bn
  have x6 := hI.pn
  obtain ⟨h9, s9, hc9, hr9⟩ := c_184o hM htx hb hN6 hT hi hw hnu q hq 0 ⟨by omega, by omega⟩ (w 0 - 1) ⟨by omega, by omega⟩ (by omega) hA
  refine ⟨h9, s9, Ct.of [aR 226, aI ((q : Nat) : Int)] rfl ?_, hr9⟩
  refine r_aldR cd_193_0 rfl rfl ?_
  refine r_ild cd_193_1 rfl rfl ?_
  refine r_con (v := 0) cd_193_2 rfl (by decide) ?_
  refine r_aldR cd_193_3 rfl rfl ?_
  refine r_get cd_193_4 rfl hM rfl ?_
  refine r_con (v := 0) cd_193_7 rfl (by decide) ?_
  refine r_arr (i := 0) cd_193_8 rfl hw rfl (by omega) rfl ?_
  refine r_con (v := 1) cd_193_9 rfl (by decide) ?_
  refine r_sub (v := (w 0) - 1) cd_193_10 rfl (by rfl) ?_
  refine r_cI hc9 cd_193_11 rfl rfl rfl (rc0 hM rfl) rfl rfl rfl ?_
  exact r_ret cd_193_14 (Or.inr rfl) (rfl)
theorem c_193e {h : aH} {s tx : Nat → Int} {N i : Nat} (hM : h.2.2 226 = .inr (8, Mo s)) (htx : h.2.2 233 = .inl (0, 600, .inl tx)) (hb : TxB tx) (hN6 : N ≤ 600) (hT : PS s tx N i) (hi : i ≤ N) {w nu : Nat → Int} (hw : h.2.2 227 = .inl (0, 211, .inl w)) (hnu : h.2.2 235 = .inl (0, 4, .inl nu)) (hI : Inv0 w) (q : Nat) (hq : q < 4) {k o : Int} (hA : numA tx N i 0 (w 0 - 1) = .inl (k, o)) : ∃ h', Ct 4 193 [aR 226, aI ((q : Nat) : Int)] h (.inl (some (aI 0)), h') ∧ PE h h' s w k o := by
  have hbn := hI.bNe
  have hpn := hI.pNe
  have x0 := hI.len
  have x1 := hI.hour
  have x2 := hI.gas
  have x3 := hI.leak
  have x4 := hI.gn
  have x5 := hI.bn
  have x6 := hI.pn
  obtain ⟨h9, hc9, hr9⟩ := c_184e hM htx hb hN6 hT hi hw hnu q hq 0 ⟨by omega, by omega⟩ (w 0 - 1) ⟨by omega, by omega⟩ (by omega) hA
  refine ⟨h9, Ct.of [aR 226, aI ((q : Nat) : Int)] rfl ?_, hr9⟩
  refine r_aldR cd_193_0 rfl rfl ?_
  refine r_ild cd_193_1 rfl rfl ?_
  refine r_con (v := 0) cd_193_2 rfl (by decide) ?_
  refine r_aldR cd_193_3 rfl rfl ?_
  refine r_get cd_193_4 rfl hM rfl ?_
  refine r_con (v := 0) cd_193_7 rfl (by decide) ?_
  refine r_arr (i := 0) cd_193_8 rfl hw rfl (by omega) rfl ?_
  refine r_con (v := 1) cd_193_9 rfl (by decide) ?_
  refine r_sub (v := (w 0) - 1) cd_193_10 rfl (by rfl) ?_
  refine r_cI hc9 cd_193_11 rfl rfl rfl (rc0 hM rfl) rfl rfl rfl ?_
  exact r_ret cd_193_14 (Or.inl rfl) (rfl)
theorem c_207o {h : aH} {s tx : Nat → Int} {N i : Nat} (hM : h.2.2 226 = .inr (8, Mo s)) (htx : h.2.2 233 = .inl (0, 600, .inl tx)) (hb : TxB tx) (hN6 : N ≤ 600) (hT : PS s tx N i) (hi : i ≤ N) {w nu : Nat → Int} (hw : h.2.2 227 = .inl (0, 211, .inl w)) (hnu : h.2.2 235 = .inl (0, 4, .inl nu)) (hI : Inv0 w) (q : Nat) (hq : q < 4) {v j : Nat} (hA : numA tx N i 0 (w 5 - 1) = .inr (v, j)) : ∃ h' s', Ct 4 207 [aR 226, aI ((q : Nat) : Int)] h (.inl (some (aI 1)), h') ∧ RZ h h' s' w (va_up nu q ((v : Nat) : Int)) ∧ PS s' tx N j ∧ j ≤ N ∧ Fx s s' := by
  have hbn := hI.bNe
  have hpn := hI.pNe
  have x0 := hI.len
  have x1 := hI.hour
  have x2 := hI.gas
  have x3 := hI.leak
  have x4 := hI.gn
  have x5 := hI.bn
  have x6 := hI.pn
  obtain ⟨h9, s9, hc9, hr9⟩ := c_184o hM htx hb hN6 hT hi hw hnu q hq 0 ⟨by omega, by omega⟩ (w 5 - 1) ⟨by omega, by omega⟩ (by omega) hA
  refine ⟨h9, s9, Ct.of [aR 226, aI ((q : Nat) : Int)] rfl ?_, hr9⟩
  refine r_aldR cd_207_0 rfl rfl ?_
  refine r_ild cd_207_1 rfl rfl ?_
  refine r_con (v := 0) cd_207_2 rfl (by decide) ?_
  refine r_aldR cd_207_3 rfl rfl ?_
  refine r_get cd_207_4 rfl hM rfl ?_
  refine r_con (v := 5) cd_207_7 rfl (by decide) ?_
  refine r_arr (i := 5) cd_207_8 rfl hw rfl (by omega) rfl ?_
  refine r_con (v := 1) cd_207_9 rfl (by decide) ?_
  refine r_sub (v := (w 5) - 1) cd_207_10 rfl (by rfl) ?_
  refine r_cI hc9 cd_207_11 rfl rfl rfl (rc0 hM rfl) rfl rfl rfl ?_
  exact r_ret cd_207_14 (Or.inr rfl) (rfl)
theorem c_207e {h : aH} {s tx : Nat → Int} {N i : Nat} (hM : h.2.2 226 = .inr (8, Mo s)) (htx : h.2.2 233 = .inl (0, 600, .inl tx)) (hb : TxB tx) (hN6 : N ≤ 600) (hT : PS s tx N i) (hi : i ≤ N) {w nu : Nat → Int} (hw : h.2.2 227 = .inl (0, 211, .inl w)) (hnu : h.2.2 235 = .inl (0, 4, .inl nu)) (hI : Inv0 w) (q : Nat) (hq : q < 4) {k o : Int} (hA : numA tx N i 0 (w 5 - 1) = .inl (k, o)) : ∃ h', Ct 4 207 [aR 226, aI ((q : Nat) : Int)] h (.inl (some (aI 0)), h') ∧ PE h h' s w k o := by
  have hbn := hI.bNe
  have hpn := hI.pNe
  have x0 := hI.len
  have x1 := hI.hour
  have x2 := hI.gas
  have x3 := hI.leak
  have x4 := hI.gn
  have x5 := hI.bn
  have x6 := hI.pn
  obtain ⟨h9, hc9, hr9⟩ := c_184e hM htx hb hN6 hT hi hw hnu q hq 0 ⟨by omega, by omega⟩ (w 5 - 1) ⟨by omega, by omega⟩ (by omega) hA
  refine ⟨h9, Ct.of [aR 226, aI ((q : Nat) : Int)] rfl ?_, hr9⟩
  refine r_aldR cd_207_0 rfl rfl ?_
  refine r_ild cd_207_1 rfl rfl ?_
  refine r_con (v := 0) cd_207_2 rfl (by decide) ?_
  refine r_aldR cd_207_3 rfl rfl ?_
  refine r_get cd_207_4 rfl hM rfl ?_
  refine r_con (v := 5) cd_207_7 rfl (by decide) ?_
  refine r_arr (i := 5) cd_207_8 rfl hw rfl (by omega) rfl ?_
  refine r_con (v := 1) cd_207_9 rfl (by decide) ?_
  refine r_sub (v := (w 5) - 1) cd_207_10 rfl (by rfl) ?_
  refine r_cI hc9 cd_207_11 rfl rfl rfl (rc0 hM rfl) rfl rfl rfl ?_
  exact r_ret cd_207_14 (Or.inl rfl) (rfl)
theorem c_206o {h : aH} {s tx : Nat → Int} {N i : Nat} (hM : h.2.2 226 = .inr (8, Mo s)) (htx : h.2.2 233 = .inl (0, 600, .inl tx)) (hb : TxB tx) (hN6 : N ≤ 600) (hT : PS s tx N i) (hi : i ≤ N) {w nu : Nat → Int} (hw : h.2.2 227 = .inl (0, 211, .inl w)) (hnu : h.2.2 235 = .inl (0, 4, .inl nu)) (hI : Inv0 w) (q : Nat) (hq : q < 4) {v j : Nat} (hA : numA tx N i 0 (w 6 - 1) = .inr (v, j)) : ∃ h' s', Ct 4 206 [aR 226, aI ((q : Nat) : Int)] h (.inl (some (aI 1)), h') ∧ RZ h h' s' w (va_up nu q ((v : Nat) : Int)) ∧ PS s' tx N j ∧ j ≤ N ∧ Fx s s' := by
  have hbn := hI.bNe
  have hpn := hI.pNe
  have x0 := hI.len
  have x1 := hI.hour
  have x2 := hI.gas
  have x3 := hI.leak
  have x4 := hI.gn
  have x5 := hI.bn
  have x6 := hI.pn
  obtain ⟨h9, s9, hc9, hr9⟩ := c_184o hM htx hb hN6 hT hi hw hnu q hq 0 ⟨by omega, by omega⟩ (w 6 - 1) ⟨by omega, by omega⟩ (by omega) hA
  refine ⟨h9, s9, Ct.of [aR 226, aI ((q : Nat) : Int)] rfl ?_, hr9⟩
  refine r_aldR cd_206_0 rfl rfl ?_
  refine r_ild cd_206_1 rfl rfl ?_
  refine r_con (v := 0) cd_206_2 rfl (by decide) ?_
  refine r_aldR cd_206_3 rfl rfl ?_
  refine r_get cd_206_4 rfl hM rfl ?_
  refine r_con (v := 6) cd_206_7 rfl (by decide) ?_
  refine r_arr (i := 6) cd_206_9 rfl hw rfl (by omega) rfl ?_
  refine r_con (v := 1) cd_206_10 rfl (by decide) ?_
  refine r_sub (v := (w 6) - 1) cd_206_11 rfl (by rfl) ?_
  refine r_cI hc9 cd_206_12 rfl rfl rfl (rc0 hM rfl) rfl rfl rfl ?_
  exact r_ret cd_206_15 (Or.inr rfl) (rfl)
theorem c_206e {h : aH} {s tx : Nat → Int} {N i : Nat} (hM : h.2.2 226 = .inr (8, Mo s)) (htx : h.2.2 233 = .inl (0, 600, .inl tx)) (hb : TxB tx) (hN6 : N ≤ 600) (hT : PS s tx N i) (hi : i ≤ N) {w nu : Nat → Int} (hw : h.2.2 227 = .inl (0, 211, .inl w)) (hnu : h.2.2 235 = .inl (0, 4, .inl nu)) (hI : Inv0 w) (q : Nat) (hq : q < 4) {k o : Int} (hA : numA tx N i 0 (w 6 - 1) = .inl (k, o)) : ∃ h', Ct 4 206 [aR 226, aI ((q : Nat) : Int)] h (.inl (some (aI 0)), h') ∧ PE h h' s w k o := by
  have hbn := hI.bNe
  have hpn := hI.pNe
  have x0 := hI.len
  have x1 := hI.hour
  have x2 := hI.gas
  have x3 := hI.leak
  have x4 := hI.gn
  have x5 := hI.bn
  have x6 := hI.pn
  obtain ⟨h9, hc9, hr9⟩ := c_184e hM htx hb hN6 hT hi hw hnu q hq 0 ⟨by omega, by omega⟩ (w 6 - 1) ⟨by omega, by omega⟩ (by omega) hA
  refine ⟨h9, Ct.of [aR 226, aI ((q : Nat) : Int)] rfl ?_, hr9⟩
  refine r_aldR cd_206_0 rfl rfl ?_
  refine r_ild cd_206_1 rfl rfl ?_
  refine r_con (v := 0) cd_206_2 rfl (by decide) ?_
  refine r_aldR cd_206_3 rfl rfl ?_
  refine r_get cd_206_4 rfl hM rfl ?_
  refine r_con (v := 6) cd_206_7 rfl (by decide) ?_
  refine r_arr (i := 6) cd_206_9 rfl hw rfl (by omega) rfl ?_
  refine r_con (v := 1) cd_206_10 rfl (by decide) ?_
  refine r_sub (v := (w 6) - 1) cd_206_11 rfl (by rfl) ?_
  refine r_cI hc9 cd_206_12 rfl rfl rfl (rc0 hM rfl) rfl rfl rfl ?_
  exact r_ret cd_206_15 (Or.inl rfl) (rfl)
