/-! THE REFERENCE: telling a text, the constructor (written by wip/whole/gen38.py) -/
/-- an allocation, told like a write -/
def pz (h : aH) (q : Nat) (c : aCell) : aH := (h.1, q + 1, va_up h.2.2 q c)
theorem pw_eq {h : aH} {q : Nat} {c : aCell} (e : h.2.1 = q) : pw h c = pz h q c := by subst e; rfl
theorem pz_at (h : aH) (q : Nat) (c : aCell) : (pz h q c).2.2 q = c := vu_at _ _ _
theorem pz_ne {h : aH} {q : Nat} {c : aCell} {b : Nat} (e : ¬ b = q) : (pz h q c).2.2 b = h.2.2 b := vu_ne e
def tlF (l : List Int) (N : Nat) : Nat → Nat → (Nat → Int) → (Nat → Int)
  | _, 0, d => d
  | k, m + 1, d => tlF l N (k + 1) m (va_up d (N + k) (l.getD k 0))
theorem tlF_at {l : List Int} {N : Nat} : ∀ {m k : Nat} {d : Nat → Int} {j : Nat}, tlF l N k m d j = if N + k ≤ j ∧ j < N + k + m then l.getD (j - N) 0 else d j
  | 0, k, d, j => by
    rw [if_neg (by omega)]
    rfl
  | m + 1, k, d, j => by
    show tlF l N (k + 1) m _ j = _
    rw [tlF_at]
    by_cases h1 : N + (k + 1) ≤ j ∧ j < N + (k + 1) + m
    · rw [if_pos h1, if_pos (by omega)]
    · rw [if_neg h1]
      by_cases h2 : j = N + k
      · rw [if_pos (by omega), h2, vu_at, show N + k - N = k by omega]
      · rw [vu_ne h2, if_neg (by omega)]
/-- behind telling: the object and the text alone are others -/
def RT (h h' : aH) (s' tx' : Nat → Int) : Prop := h'.2.2 226 = .inr (8, Mo s') ∧ h'.2.2 233 = .inl (0, 600, .inl tx') ∧ (∀ a, ¬ a = 226 → ¬ a = 233 → h'.2.2 a = h.2.2 a) ∧ h'.1 = h.1 ∧ h'.2.1 = h.2.1
theorem RT.tr {h h1 h2 : aH} {s1 b1 s2 b2 : Nat → Int} (a : RT h h1 s1 b1) (b : RT h1 h2 s2 b2) : RT h h2 s2 b2 := ⟨b.1, b.2.1, fun q x y => (b.2.2.1 q x y).trans (a.2.2.1 q x y), b.2.2.2.1.trans a.2.2.2.1, b.2.2.2.2.trans a.2.2.2.2⟩
theorem RT.rf {h : aH} {s tx : Nat → Int} (h1 : h.2.2 226 = .inr (8, Mo s)) (h2 : h.2.2 233 = .inl (0, 600, .inl tx)) : RT h h s tx := ⟨h1, h2, fun _ _ _ => rfl, rfl, rfl⟩
theorem RT.s {h h' : aH} {s bu s' : Nat → Int} (r : RT h h' s bu) : RT h (sw h' 226 (.inr (8, Mo s'))) s' bu := ⟨sw_at _ _ _, (sw_ne (by decide)).trans r.2.1, fun a x y => (sw_ne x).trans (r.2.2.1 a x y), r.2.2.2.1, r.2.2.2.2⟩
theorem RT.b {h h' : aH} {s bu bu' : Nat → Int} (r : RT h h' s bu) : RT h (sw h' 233 (.inl (0, 600, .inl bu'))) s bu' := ⟨(sw_ne (by decide)).trans r.1, sw_at _ _ _, fun a x y => (sw_ne y).trans (r.2.2.1 a x y), r.2.2.2.1, r.2.2.2.2⟩
theorem lp_177 (j : Nat) (g0 : 19 ≤ j) (g1 : j < 80) (N : Nat) (hN : N + (sT j).length ≤ 600) : ∀ (m k : Nat) {h : aH} {s tx : Nat → Int}, h.2.2 226 = .inr (8, Mo s) → h.2.2 233 = .inl (0, 600, .inl tx) → s 10 = ((N + k : Nat) : Int) → k + m = (sT j).length → ∃ h' s', (∀ res, RU 5 177 res (40, [aR 226, aC j, aI ((k + m : Nat) : Int)], [], 0, 0, h') → RU 5 177 res (2, [aR 226, aC j, aI ((k : Nat) : Int)], [], 0, 0, h)) ∧ RT h h' s' (tlF (sT j) N k m tx) ∧ s' 10 = ((N + k + m : Nat) : Int) ∧ ∀ i, ¬ i = 10 → s' i = s i := by
  have hln := sT_len g0 g1
  intro m
  induction m with
  | zero =>
    intro k h s tx hM htx h10 hm
    refine ⟨h, s, fun res hk => ?_, RT.rf hM htx, h10, fun _ _ => rfl⟩
    refine r_ild cd_177_2 rfl rfl ?_
    refine r_aldC cd_177_3 rfl rfl ?_
    refine r_cI (c_378 j g0 g1) cd_177_4 rfl rfl rfl ⟨g0, g1⟩ rfl rfl rfl ?_
    refine r_ic64 cd_177_7 rfl ⟨by omega, by omega⟩ ⟨by omega, by omega⟩ (fun n1 => ?_) (fun n1 => ?_)
    · exact absurd n1 (by omega)
    · exact hk
  | succ m ih =>
    intro k h s tx hM htx h10 hm
    obtain ⟨h1, s1, c1, r1, e1, f1⟩ := ih (k + 1) (h := (sw (sw h 233 (.inl (0, 600, .inl (va_up tx (N + k) ((sT j).getD k 0))))) 226 (.inr (8, Mo (va_up s 10 ((N + k + 1 : Nat) : Int)))))) (s := va_up s 10 ((N + k + 1 : Nat) : Int)) (sw_at _ _ _) ((sw_ne (by decide)).trans (sw_at _ _ _)) ((vu_at _ _ _).trans (by omega)) (by omega)
    refine ⟨h1, s1, fun res hk => ?_, RT.tr (RT.rf hM htx).b.s r1, e1.trans (by omega), fun i hi => (f1 i hi).trans (vu_ne hi)⟩
    rw [show k + (m + 1) = k + 1 + m by omega] at hk
    have hc1 := c1 res hk
    refine r_ild cd_177_2 rfl rfl ?_
    refine r_aldC cd_177_3 rfl rfl ?_
    refine r_cI (c_378 j g0 g1) cd_177_4 rfl rfl rfl ⟨g0, g1⟩ rfl rfl rfl ?_
    refine r_ic64 cd_177_7 rfl ⟨by omega, by omega⟩ ⟨by omega, by omega⟩ (fun n1 => ?_) (fun n1 => ?_)
    · refine r_aldR cd_177_10 rfl rfl ?_
      refine r_get cd_177_11 rfl hM rfl ?_
      refine r_aldR cd_177_14 rfl rfl ?_
      refine r_get (v := aI ((N + k : Nat) : Int)) cd_177_15 rfl hM (by rw [← h10]; rfl) ?_
      refine r_aldC cd_177_18 rfl rfl ?_
      refine r_ild cd_177_19 rfl rfl ?_
      refine r_cI (c_380 j k g0 g1 (by omega)) cd_177_20 rfl rfl rfl ⟨g0, g1⟩ rfl rfl rfl ?_
      refine r_arsI (i := N + k) cd_177_23 rfl rfl htx rfl (by omega) rfl ?_
      refine r_aldR cd_177_24 rfl rfl ?_
      refine r_dup cd_177_25 rfl rfl ?_
      refine r_get (v := aI ((N + k : Nat) : Int)) cd_177_26 rfl ((sw_ne (by decide)).trans hM) (by rw [← h10]; rfl) ?_
      refine r_con (v := 1) cd_177_29 rfl (by decide) ?_
      refine r_add (v := ((N + k + 1 : Nat) : Int)) cd_177_30 rfl (by omega) ?_
      refine r_put (fs' := Mo (va_up s 10 ((N + k + 1 : Nat) : Int))) cd_177_31 rfl ((sw_ne (by decide)).trans hM) rfl rfl ?_
      refine r_inc (v := ((k + 1 : Nat) : Int)) cd_177_34 rfl rfl rfl (by omega) (L' := [aR 226, aC j, aI ((k + 1 : Nat) : Int)]) rfl ?_
      refine r_goto cd_177_37 ?_
      exact hc1
    · exact absurd n1 (by omega)
theorem c_177 {h : aH} {s tx : Nat → Int} (hM : h.2.2 226 = .inr (8, Mo s)) (htx : h.2.2 233 = .inl (0, 600, .inl tx)) (j : Nat) (g0 : 19 ≤ j) (g1 : j < 80) (N : Nat) (h10 : s 10 = ((N : Nat) : Int)) (hN : N + (sT j).length ≤ 600) : ∃ h' s', Ct 5 177 [aR 226, aC j] h (.inl none, h') ∧ RT h h' s' (tlF (sT j) N 0 (sT j).length tx) ∧ s' 10 = ((N + (sT j).length : Nat) : Int) ∧ ∀ i, ¬ i = 10 → s' i = s i := by
  obtain ⟨h1, s1, c1, r1, e1, f1⟩ := lp_177 j g0 g1 N hN (sT j).length 0 hM htx h10 (by omega)
  refine ⟨h1, s1, Ct.of [aR 226, aC j, aU] rfl ?_, r1, e1, f1⟩
  refine r_con (v := 0) cd_177_0 rfl (by decide) ?_
  refine r_ist cd_177_1 rfl rfl (L' := [aR 226, aC j, aI 0]) rfl ?_
  refine c1 _ ?_
  exact r_void cd_177_40 rfl (rfl)
