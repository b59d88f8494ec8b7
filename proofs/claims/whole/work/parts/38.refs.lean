/-! THE REFERENCE: telling a text, the constructor (written by wip/whole/gen38.py) -/
/-- an allocation, told like a write -/
def pz (h : aH) (q : Nat) (c : aCell) : aH := (h.1, q + 1, va_up h.2.2 q c)
theorem pw_eq {h : aH} {q : Nat} {c : aCell} (e : h.2.1 = q) : pw h c = pz h q c := by subst e; rfl
theorem pz_f1 {h : aH} {q : Nat} {c : aCell} : (pz h q c).1 = h.1 := rfl
theorem pz_f2 {h : aH} {q : Nat} {c : aCell} : (pz h q c).2.1 = q + 1 := rfl
theorem sw_f1 {h : aH} {q : Nat} {c : aCell} : (sw h q c).1 = h.1 := rfl
theorem sw_f2 {h : aH} {q : Nat} {c : aCell} : (sw h q c).2.1 = h.2.1 := rfl
theorem pz_at (h : aH) (q : Nat) (c : aCell) : (pz h q c).2.2 q = c := vu_at _ _ _
theorem pz_ne {h : aH} {q : Nat} {c : aCell} {b : Nat} (e : ¬ b = q) : (pz h q c).2.2 b = h.2.2 b := vu_ne e
def tlF (l : List Int) (N : Nat) : Nat → Nat → (Nat → Int) → (Nat → Int)
  | _, 0, d => d
  | k, m + 1, d => tlF l N (k + 1) m (va_up d (N + k) (l.getD k 0))
theorem tlF_at {l : List Int} {N : Nat} : ∀ {m k : Nat} {d : Nat → Int} {j : Nat}, tlF l N k m d j = if N + k ≤ j ∧ j < N + k + m then l.getD (j - N) 0 else d j
  | 0, k, d, j => by
    rw [if_neg (by omega)]
    rfl
  | m + 1, k, d, j => by
    show tlF l N (k + 1) m _ j = _
    rw [tlF_at]
    by_cases h1 : N + (k + 1) ≤ j ∧ j < N + (k + 1) + m
    · rw [if_pos h1, if_pos (by omega)]
    · rw [if_neg h1]
      by_cases h2 : j = N + k
      · rw [if_pos (by omega), h2, vu_at, show N + k - N = k by omega]
      · rw [vu_ne h2, if_neg (by omega)]
/-- behind telling: the object and the text alone are others -/
def RT (h h' : aH) (s' tx' : Nat → Int) : Prop := h'.2.2 226 = .inr (8, Mo s') ∧ h'.2.2 233 = .inl (0, 600, .inl tx') ∧ (∀ a, ¬ a = 226 → ¬ a = 233 → h'.2.2 a = h.2.2 a) ∧ h'.1 = h.1 ∧ h'.2.1 = h.2.1
theorem RT.tr {h h1 h2 : aH} {s1 b1 s2 b2 : Nat → Int} (a : RT h h1 s1 b1) (b : RT h1 h2 s2 b2) : RT h h2 s2 b2 := ⟨b.1, b.2.1, fun q x y => (b.2.2.1 q x y).trans (a.2.2.1 q x y), b.2.2.2.1.trans a.2.2.2.1, b.2.2.2.2.trans a.2.2.2.2⟩
theorem RT.rf {h : aH} {s tx : Nat → Int} (h1 : h.2.2 226 = .inr (8, Mo s)) (h2 : h.2.2 233 = .inl (0, 600, .inl tx)) : RT h h s tx := ⟨h1, h2, fun _ _ _ => rfl, rfl, rfl⟩
theorem RT.s {h h' : aH} {s bu s' : Nat → Int} (r : RT h h' s bu) : RT h (sw h' 226 (.inr (8, Mo s'))) s' bu := ⟨sw_at _ _ _, (sw_ne (by decide)).trans r.2.1, fun a x y => (sw_ne x).trans (r.2.2.1 a x y), r.2.2.2.1, r.2.2.2.2⟩
theorem RT.b {h h' : aH} {s bu bu' : Nat → Int} (r : RT h h' s bu) : RT h (sw h' 233 (.inl (0, 600, .inl bu'))) s bu' := ⟨(sw_ne (by decide)).trans r.1, sw_at _ _ _, fun a x y => (sw_ne y).trans (r.2.2.1 a x y), r.2.2.2.1, r.2.2.2.2⟩
theorem lp_177 (j : Nat) (g0 : 19 ≤ j) (g1 : j < 80) (N : Nat) (hN : N + (sT j).length ≤ 600) : ∀ (m k : Nat) {h : aH} {s tx : Nat → Int}, h.2.2 226 = .inr (8, Mo s) → h.2.2 233 = .inl (0, 600, .inl tx) → s 10 = ((N + k : Nat) : Int) → k + m = (sT j).length → ∃ h' s', (∀ res, RU 5 177 res (40, [aR 226, aC j, aI ((k + m : Nat) : Int)], [], 0, 0, h') → RU 5 177 res (2, [aR 226, aC j, aI ((k : Nat) : Int)], [], 0, 0, h)) ∧ RT h h' s' (tlF (sT j) N k m tx) ∧ s' 10 = ((N + k + m : Nat) : Int) ∧ ∀ i, ¬ i = 10 → s' i = s i := by
  have hln := sT_len g0 g1
  intro m
  induction m with
  | zero =>
    intro k h s tx hM htx h10 hm
    refine ⟨h, s, fun res hk => ?_, RT.rf hM htx, h10, fun _ _ => rfl⟩
    refine r_ild cd_177_2 rfl rfl ?_
    refine r_aldC cd_177_3 rfl rfl ?_
    refine r_cI (c_378 j g0 g1) cd_177_4 rfl rfl rfl ⟨g0, g1⟩ rfl rfl rfl ?_
    refine r_ic64 cd_177_7 rfl ⟨by omega, by omega⟩ ⟨by omega, by omega⟩ (fun n1 => ?_) (fun n1 => ?_)
    · exact absurd n1 (by omega)
    · exact hk
  | succ m ih =>
    intro k h s tx hM htx h10 hm
    obtain ⟨h1, s1, c1, r1, e1, f1⟩ := ih (k + 1) (h := (sw (sw h 233 (.inl (0, 600, .inl (va_up tx (N + k) ((sT j).getD k 0))))) 226 (.inr (8, Mo (va_up s 10 ((N + k + 1 : Nat) : Int)))))) (s := va_up s 10 ((N + k + 1 : Nat) : Int)) (sw_at _ _ _) ((sw_ne (by decide)).trans (sw_at _ _ _)) ((vu_at _ _ _).trans (by omega)) (by omega)
    refine ⟨h1, s1, fun res hk => ?_, RT.tr (RT.rf hM htx).b.s r1, e1.trans (by omega), fun i hi => (f1 i hi).trans (vu_ne hi)⟩
    rw [show k + (m + 1) = k + 1 + m by omega] at hk
    have hc1 := c1 res hk
    refine r_ild cd_177_2 rfl rfl ?_
    refine r_aldC cd_177_3 rfl rfl ?_
    refine r_cI (c_378 j g0 g1) cd_177_4 rfl rfl rfl ⟨g0, g1⟩ rfl rfl rfl ?_
    refine r_ic64 cd_177_7 rfl ⟨by omega, by omega⟩ ⟨by omega, by omega⟩ (fun n1 => ?_) (fun n1 => ?_)
    · refine r_aldR cd_177_10 rfl rfl ?_
      refine r_get cd_177_11 rfl hM rfl ?_
      refine r_aldR cd_177_14 rfl rfl ?_
      refine r_get (v := aI ((N + k : Nat) : Int)) cd_177_15 rfl hM (by rw [← h10]; rfl) ?_
      refine r_aldC cd_177_18 rfl rfl ?_
      refine r_ild cd_177_19 rfl rfl ?_
      refine r_cI (c_380 j k g0 g1 (by omega)) cd_177_20 rfl rfl rfl ⟨g0, g1⟩ rfl rfl rfl ?_
      refine r_arsI (i := N + k) cd_177_23 rfl rfl htx rfl (by omega) rfl ?_
      refine r_aldR cd_177_24 rfl rfl ?_
      refine r_dup cd_177_25 rfl rfl ?_
      refine r_get (v := aI ((N + k : Nat) : Int)) cd_177_26 rfl ((sw_ne (by decide)).trans hM) (by rw [← h10]; rfl) ?_
      refine r_con (v := 1) cd_177_29 rfl (by decide) ?_
      refine r_add (v := ((N + k + 1 : Nat) : Int)) cd_177_30 rfl (by omega) ?_
      refine r_put (fs' := Mo (va_up s 10 ((N + k + 1 : Nat) : Int))) cd_177_31 rfl ((sw_ne (by decide)).trans hM) rfl rfl ?_
      refine r_inc (v := ((k + 1 : Nat) : Int)) cd_177_34 rfl rfl rfl (by omega) (L' := [aR 226, aC j, aI ((k + 1 : Nat) : Int)]) rfl ?_
      refine r_goto cd_177_37 ?_
      exact hc1
    · exact absurd n1 (by omega)
theorem c_177 {h : aH} {s tx : Nat → Int} (hM : h.2.2 226 = .inr (8, Mo s)) (htx : h.2.2 233 = .inl (0, 600, .inl tx)) (j : Nat) (g0 : 19 ≤ j) (g1 : j < 80) (N : Nat) (h10 : s 10 = ((N : Nat) : Int)) (hN : N + (sT j).length ≤ 600) : ∃ h' s', Ct 5 177 [aR 226, aC j] h (.inl none, h') ∧ RT h h' s' (tlF (sT j) N 0 (sT j).length tx) ∧ s' 10 = ((N + (sT j).length : Nat) : Int) ∧ ∀ i, ¬ i = 10 → s' i = s i := by
  obtain ⟨h1, s1, c1, r1, e1, f1⟩ := lp_177 j g0 g1 N hN (sT j).length 0 hM htx h10 (by omega)
  refine ⟨h1, s1, Ct.of [aR 226, aC j, aU] rfl ?_, r1, e1, f1⟩
  refine r_con (v := 0) cd_177_0 rfl (by decide) ?_
  refine r_ist cd_177_1 rfl rfl (L' := [aR 226, aC j, aI 0]) rfl ?_
  refine c1 _ ?_
  exact r_void cd_177_40 rfl (rfl)
theorem fi_len : (sT 32).length = 127 ∧ (sT 33).length = 113 := by decide +kernel
def wOf (r : Rs) : Nat → Int := match r with
  | .inl _ => fun _ => 0
  | .inr a => a.2.1
theorem isR_o {r : Rs} (h : isR r = true) : ∃ j ey, r = .inr (j, wOf r, ey) := by
  cases r with
  | inl e => cases h
  | inr a => exact ⟨a.1, a.2.2, rfl⟩
theorem good_of {tx : Nat → Int} {N : Nat} {j ey : Nat} {u : Nat → Int} (h : parA tx N = .inr (j, u, ey)) : Inv u := by
  have g := good_par (tx := tx) (N := N)
  rw [h] at g
  exact g.2.2.1
def fiW : Nat → Int := wOf (parA fiT fiN)
theorem fi_ok : ∃ j ey, parA fiT fiN = .inr (j, fiW, ey) := isR_o first_ok
theorem fi_inv : Inv fiW := by
  obtain ⟨j, ey, h⟩ := fi_ok
  exact good_of h
theorem app_l {l1 l2 : List Int} {k : Nat} (h : k < l1.length) : (l1 ++ l2).getD k 0 = l1.getD k 0 := by
  rw [List.getD_eq_getElem?_getD, List.getElem?_append_left h, ← List.getD_eq_getElem?_getD]
theorem app_r {l1 l2 : List Int} {k : Nat} (h : ¬ k < l1.length) : (l1 ++ l2).getD k 0 = l2.getD (k - l1.length) 0 := by
  rw [List.getD_eq_getElem?_getD, List.getElem?_append_right (by omega), ← List.getD_eq_getElem?_getD]
theorem fi_b : TxB fiT := fun k => by
  unfold fiT
  by_cases h : k < (sT 32).length
  · rw [app_l h]
    have := sT_ch (j := 32) (k := k) (by decide) (by decide)
    omega
  · rw [app_r h]
    have := sT_ch (j := 33) (k := k - (sT 32).length) (by decide) (by decide)
    omega
theorem fi_tl : tlF (sT 33) (sT 32).length 0 (sT 33).length (tlF (sT 32) 0 0 (sT 32).length fun _ => 0) = fiT := by
  funext k
  rw [tlF_at, tlF_at]
  unfold fiT
  by_cases h : k < (sT 32).length
  · rw [if_neg (by omega), if_pos (by omega), app_l h, Nat.sub_zero]
  · rw [app_r h]
    by_cases h2 : k < (sT 32).length + (sT 33).length
    · rw [if_pos (by omega)]
    · rw [if_neg (by omega), if_neg (by omega), List.getD_eq_getElem?_getD, List.getElem?_eq_none (by omega)]
      rfl
theorem i_178 {h : aH} {s w nu tx : Nat → Int} {N : Nat} (hM : h.2.2 226 = .inr (8, Mo s)) (htx : h.2.2 233 = .inl (0, 600, .inl tx)) (hb : TxB tx) (hN6 : N ≤ 600) (h10 : s 10 = ((N : Nat) : Int)) (hw : h.2.2 227 = .inl (0, 211, .inl w)) (hnu : h.2.2 235 = .inl (0, 4, .inl nu)) (hz : TZ w) {j ey : Nat} {u : Nat → Int} (hp : parA tx N = .inr (j, u, ey)) : ∃ h' s' nu', Ct 16 178 [aR 226] h (.inl (some (aI 1)), h') ∧ RZ h h' s' u nu' ∧ s' 11 = 0 ∧ s' 12 = -1 ∧ Fz s s' := by
  have hQ := q_178 hM htx hb hN6 h10 hw hnu hz
  rw [hp] at hQ
  exact hQ
theorem c_176 {h : aH} (hM : h.2.2 226 = newF 8) (hq : h.2.1 = 227) : ∃ h' s' nu', Ct 17 176 [aR 226] h (.inl none, h') ∧ h'.2.2 226 = .inr (8, Mo s') ∧ h'.2.2 227 = .inl (0, 211, .inl fiW) ∧ h'.2.2 228 = .inl (0, 211, .inl fun _ => 0) ∧ h'.2.2 229 = .inl (0, 211, .inl fun _ => 0) ∧ h'.2.2 230 = .inl (0, 1688, .inl fun _ => 0) ∧ h'.2.2 231 = .inl (0, 211, .inl fun _ => 0) ∧ h'.2.2 232 = .inl (0, 600, .inl fun _ => 0) ∧ h'.2.2 233 = .inl (0, 600, .inl fiT) ∧ h'.2.2 234 = .inl (2, 30, .inl fun _ => 0) ∧ h'.2.2 235 = .inl (0, 4, .inl nu') ∧ (∀ a, a < 226 → h'.2.2 a = h.2.2 a) ∧ h'.1 = h.1 ∧ h'.2.1 = 236 ∧ s' 5 = 0 ∧ s' 6 = 0 ∧ s' 9 = 0 ∧ s' 11 = 0 ∧ s' 12 = -1 ∧ s' 14 = 0 ∧ s' 15 = 0 := by
  have hA : ∃ H : aH, (∀ res, RU 17 176 res (87, [aR 226], [], 9, 3766, H) → RU 17 176 res (0, [aR 226], [], 0, 0, h)) ∧ H.2.2 226 = .inr (8, Mo (fun k : Nat => if k = 12 then (-1 : Int) else 0)) ∧ H.2.2 227 = .inl (0, 211, .inl fun _ => 0) ∧ H.2.2 228 = .inl (0, 211, .inl fun _ => 0) ∧ H.2.2 229 = .inl (0, 211, .inl fun _ => 0) ∧ H.2.2 230 = .inl (0, 1688, .inl fun _ => 0) ∧ H.2.2 231 = .inl (0, 211, .inl fun _ => 0) ∧ H.2.2 232 = .inl (0, 600, .inl fun _ => 0) ∧ H.2.2 233 = .inl (0, 600, .inl fun _ => 0) ∧ H.2.2 234 = .inl (2, 30, .inl fun _ => 0) ∧ H.2.2 235 = .inl (0, 4, .inl fun _ => 0) ∧ (∀ a, a < 226 → H.2.2 a = h.2.2 a) ∧ H.1 = h.1 ∧ H.2.1 = 236 := by
    apply Exists.intro
    apply And.intro
    · intro res hk
      refine r_aldR cd_176_0 rfl rfl ?_
      refine r_oini cd_176_1 rfl rfl ?_
      refine r_aldR cd_176_4 rfl rfl ?_
      refine r_con (v := 211) cd_176_5 rfl (by decide) ?_
      refine r_newa (q := 227) (i := 211) cd_176_8 rfl rfl rfl hq rfl rfl rfl ?_
      rw [pw_eq (q := 227) hq]
      refine r_put (fs' := [aR 227, aN, aN, aN, aN, aI 0, aI 0, aN, aN, aI 0, aI 0, aI 0, aI 0, aN, aI 0, aI 0, aI 0, aI 0, aI 0, aI 0, aI 0, aN]) cd_176_10 rfl ((pz_ne (by decide)).trans hM) rfl rfl ?_
      refine r_aldR cd_176_13 rfl rfl ?_
      refine r_con (v := 211) cd_176_14 rfl (by decide) ?_
      refine r_newa (q := 228) (i := 211) cd_176_17 rfl rfl rfl (sw_f2.trans pz_f2) rfl rfl rfl ?_
      rw [pw_eq (q := 228) (sw_f2.trans pz_f2)]
      refine r_put (fs' := [aR 227, aR 228, aN, aN, aN, aI 0, aI 0, aN, aN, aI 0, aI 0, aI 0, aI 0, aN, aI 0, aI 0, aI 0, aI 0, aI 0, aI 0, aI 0, aN]) cd_176_19 rfl ((pz_ne (by decide)).trans (sw_at _ _ _)) rfl rfl ?_
      refine r_aldR cd_176_22 rfl rfl ?_
      refine r_con (v := 211) cd_176_23 rfl (by decide) ?_
      refine r_newa (q := 229) (i := 211) cd_176_26 rfl rfl rfl (sw_f2.trans pz_f2) rfl rfl rfl ?_
      rw [pw_eq (q := 229) (sw_f2.trans pz_f2)]
      refine r_put (fs' := [aR 227, aR 228, aR 229, aN, aN, aI 0, aI 0, aN, aN, aI 0, aI 0, aI 0, aI 0, aN, aI 0, aI 0, aI 0, aI 0, aI 0, aI 0, aI 0, aN]) cd_176_28 rfl ((pz_ne (by decide)).trans (sw_at _ _ _)) rfl rfl ?_
      refine r_aldR cd_176_31 rfl rfl ?_
      refine r_con (v := 1688) cd_176_32 rfl (by decide) ?_
      refine r_newa (q := 230) (i := 1688) cd_176_35 rfl rfl rfl (sw_f2.trans pz_f2) rfl rfl rfl ?_
      rw [pw_eq (q := 230) (sw_f2.trans pz_f2)]
      refine r_put (fs' := [aR 227, aR 228, aR 229, aR 230, aN, aI 0, aI 0, aN, aN, aI 0, aI 0, aI 0, aI 0, aN, aI 0, aI 0, aI 0, aI 0, aI 0, aI 0, aI 0, aN]) cd_176_37 rfl ((pz_ne (by decide)).trans (sw_at _ _ _)) rfl rfl ?_
      refine r_aldR cd_176_40 rfl rfl ?_
      refine r_con (v := 211) cd_176_41 rfl (by decide) ?_
      refine r_newa (q := 231) (i := 211) cd_176_44 rfl rfl rfl (sw_f2.trans pz_f2) rfl rfl rfl ?_
      rw [pw_eq (q := 231) (sw_f2.trans pz_f2)]
      refine r_put (fs' := [aR 227, aR 228, aR 229, aR 230, aR 231, aI 0, aI 0, aN, aN, aI 0, aI 0, aI 0, aI 0, aN, aI 0, aI 0, aI 0, aI 0, aI 0, aI 0, aI 0, aN]) cd_176_46 rfl ((pz_ne (by decide)).trans (sw_at _ _ _)) rfl rfl ?_
      refine r_aldR cd_176_49 rfl rfl ?_
      refine r_con (v := 600) cd_176_50 rfl (by decide) ?_
      refine r_newa (q := 232) (i := 600) cd_176_53 rfl rfl rfl (sw_f2.trans pz_f2) rfl rfl rfl ?_
      rw [pw_eq (q := 232) (sw_f2.trans pz_f2)]
      refine r_put (fs' := [aR 227, aR 228, aR 229, aR 230, aR 231, aI 0, aI 0, aR 232, aN, aI 0, aI 0, aI 0, aI 0, aN, aI 0, aI 0, aI 0, aI 0, aI 0, aI 0, aI 0, aN]) cd_176_55 rfl ((pz_ne (by decide)).trans (sw_at _ _ _)) rfl rfl ?_
      refine r_aldR cd_176_58 rfl rfl ?_
      refine r_con (v := 600) cd_176_59 rfl (by decide) ?_
      refine r_newa (q := 233) (i := 600) cd_176_62 rfl rfl rfl (sw_f2.trans pz_f2) rfl rfl rfl ?_
      rw [pw_eq (q := 233) (sw_f2.trans pz_f2)]
      refine r_put (fs' := [aR 227, aR 228, aR 229, aR 230, aR 231, aI 0, aI 0, aR 232, aR 233, aI 0, aI 0, aI 0, aI 0, aN, aI 0, aI 0, aI 0, aI 0, aI 0, aI 0, aI 0, aN]) cd_176_64 rfl ((pz_ne (by decide)).trans (sw_at _ _ _)) rfl rfl ?_
      refine r_aldR cd_176_67 rfl rfl ?_
      refine r_con (v := (-1)) cd_176_68 rfl (by decide) ?_
      refine r_put (fs' := [aR 227, aR 228, aR 229, aR 230, aR 231, aI 0, aI 0, aR 232, aR 233, aI 0, aI 0, aI 0, aI (-1), aN, aI 0, aI 0, aI 0, aI 0, aI 0, aI 0, aI 0, aN]) cd_176_69 rfl (sw_at _ _ _) rfl rfl ?_
      refine r_aldR cd_176_72 rfl rfl ?_
      refine r_con (v := 30) cd_176_73 rfl (by decide) ?_
      refine r_newa (q := 234) (i := 30) cd_176_75 rfl rfl rfl (sw_f2.trans (sw_f2.trans pz_f2)) rfl rfl rfl ?_
      rw [pw_eq (q := 234) (sw_f2.trans (sw_f2.trans pz_f2))]
      refine r_put (fs' := [aR 227, aR 228, aR 229, aR 230, aR 231, aI 0, aI 0, aR 232, aR 233, aI 0, aI 0, aI 0, aI (-1), aR 234, aI 0, aI 0, aI 0, aI 0, aI 0, aI 0, aI 0, aN]) cd_176_77 rfl ((pz_ne (by decide)).trans (sw_at _ _ _)) rfl rfl ?_
      refine r_aldR cd_176_80 rfl rfl ?_
      refine r_con (v := 4) cd_176_81 rfl (by decide) ?_
      refine r_newa (q := 235) (i := 4) cd_176_82 rfl rfl rfl (sw_f2.trans pz_f2) rfl rfl rfl ?_
      rw [pw_eq (q := 235) (sw_f2.trans pz_f2)]
      refine r_put (fs' := [aR 227, aR 228, aR 229, aR 230, aR 231, aI 0, aI 0, aR 232, aR 233, aI 0, aI 0, aI 0, aI (-1), aR 234, aI 0, aI 0, aI 0, aI 0, aI 0, aI 0, aI 0, aR 235]) cd_176_84 rfl ((pz_ne (by decide)).trans (sw_at _ _ _)) rfl rfl ?_
      exact hk
    · exact ⟨(sw_at _ _ _), ((sw_ne (by decide)).trans ((pz_ne (by decide)).trans ((sw_ne (by decide)).trans ((pz_ne (by decide)).trans ((sw_ne (by decide)).trans ((sw_ne (by decide)).trans ((pz_ne (by decide)).trans ((sw_ne (by decide)).trans ((pz_ne (by decide)).trans ((sw_ne (by decide)).trans ((pz_ne (by decide)).trans ((sw_ne (by decide)).trans ((pz_ne (by decide)).trans ((sw_ne (by decide)).trans ((pz_ne (by decide)).trans ((sw_ne (by decide)).trans ((pz_ne (by decide)).trans ((sw_ne (by decide)).trans (pz_at _ _ _))))))))))))))))))), ((sw_ne (by decide)).trans ((pz_ne (by decide)).trans ((sw_ne (by decide)).trans ((pz_ne (by decide)).trans ((sw_ne (by decide)).trans ((sw_ne (by decide)).trans ((pz_ne (by decide)).trans ((sw_ne (by decide)).trans ((pz_ne (by decide)).trans ((sw_ne (by decide)).trans ((pz_ne (by decide)).trans ((sw_ne (by decide)).trans ((pz_ne (by decide)).trans ((sw_ne (by decide)).trans ((pz_ne (by decide)).trans ((sw_ne (by decide)).trans (pz_at _ _ _))))))))))))))))), ((sw_ne (by decide)).trans ((pz_ne (by decide)).trans ((sw_ne (by decide)).trans ((pz_ne (by decide)).trans ((sw_ne (by decide)).trans ((sw_ne (by decide)).trans ((pz_ne (by decide)).trans ((sw_ne (by decide)).trans ((pz_ne (by decide)).trans ((sw_ne (by decide)).trans ((pz_ne (by decide)).trans ((sw_ne (by decide)).trans ((pz_ne (by decide)).trans ((sw_ne (by decide)).trans (pz_at _ _ _))))))))))))))), ((sw_ne (by decide)).trans ((pz_ne (by decide)).trans ((sw_ne (by decide)).trans ((pz_ne (by decide)).trans ((sw_ne (by decide)).trans ((sw_ne (by decide)).trans ((pz_ne (by decide)).trans ((sw_ne (by decide)).trans ((pz_ne (by decide)).trans ((sw_ne (by decide)).trans ((pz_ne (by decide)).trans ((sw_ne (by decide)).trans (pz_at _ _ _))))))))))))), ((sw_ne (by decide)).trans ((pz_ne (by decide)).trans ((sw_ne (by decide)).trans ((pz_ne (by decide)).trans ((sw_ne (by decide)).trans ((sw_ne (by decide)).trans ((pz_ne (by decide)).trans ((sw_ne (by decide)).trans ((pz_ne (by decide)).trans ((sw_ne (by decide)).trans (pz_at _ _ _))))))))))), ((sw_ne (by decide)).trans ((pz_ne (by decide)).trans ((sw_ne (by decide)).trans ((pz_ne (by decide)).trans ((sw_ne (by decide)).trans ((sw_ne (by decide)).trans ((pz_ne (by decide)).trans ((sw_ne (by decide)).trans (pz_at _ _ _))))))))), ((sw_ne (by decide)).trans ((pz_ne (by decide)).trans ((sw_ne (by decide)).trans ((pz_ne (by decide)).trans ((sw_ne (by decide)).trans ((sw_ne (by decide)).trans (pz_at _ _ _))))))), ((sw_ne (by decide)).trans ((pz_ne (by decide)).trans ((sw_ne (by decide)).trans (pz_at _ _ _)))), ((sw_ne (by decide)).trans (pz_at _ _ _)), fun a ha => (sw_ne (by omega)).trans ((pz_ne (by omega)).trans ((sw_ne (by omega)).trans ((pz_ne (by omega)).trans ((sw_ne (by omega)).trans ((sw_ne (by omega)).trans ((pz_ne (by omega)).trans ((sw_ne (by omega)).trans ((pz_ne (by omega)).trans ((sw_ne (by omega)).trans ((pz_ne (by omega)).trans ((sw_ne (by omega)).trans ((pz_ne (by omega)).trans ((sw_ne (by omega)).trans ((pz_ne (by omega)).trans ((sw_ne (by omega)).trans ((pz_ne (by omega)).trans ((sw_ne (by omega)).trans ((pz_ne (by omega)).trans (rfl))))))))))))))))))), by simp only [sw_f1, pz_f1], (sw_f2.trans pz_f2)⟩
  obtain ⟨H, hH, b26, b27, b28, b29, b30, b31, b32, b33, b34, b35, bfr, b1, b2⟩ := hA
  have fl := fi_len
  obtain ⟨h1, s1, c1, r1, e1, f1⟩ := c_177 b26 b33 32 (by decide) (by decide) 0 rfl (by omega)
  obtain ⟨h2, s2, c2, r2, e2, f2⟩ := c_177 r1.1 r1.2.1 33 (by decide) (by decide) (sT 32).length (e1.trans (by omega)) (by omega)
  rw [fi_tl] at r2
  have r3 := r1.tr r2
  have g27 := (r3.2.2.1 227 (by decide) (by decide)).trans b27
  have g35 := (r3.2.2.1 235 (by decide) (by decide)).trans b35
  have hN : fiN ≤ 600 := by unfold fiN; omega
  obtain ⟨j, ey, hp⟩ := fi_ok
  obtain ⟨h6, s6, nu6, c6, z6, e61, e62, f6⟩ := i_178 r3.1 r3.2.1 fi_b hN (e2.trans rfl) g27 g35 (fun _ _ => rfl) hp
  have ff : ∀ j, j < 10 ∨ (12 < j ∧ j < 16) → s6 j = (fun k : Nat => if k = 12 then (-1 : Int) else 0) j := fun j hj => (f6 j (by omega)).trans ((f2 j (by omega)).trans (f1 j (by omega)))
  have fr : ∀ a, ¬ a = 226 → ¬ a = 227 → ¬ a = 233 → ¬ a = 235 → h6.2.2 a = H.2.2 a := fun a x1 x2 x3 x4 => (z6.2.2.2.1 a x1 x2 x4).trans (r3.2.2.1 a x1 x3)
  refine ⟨sw h6 226 (.inr (8, Mo (va_up s6 15 0))), va_up s6 15 0, nu6, Ct.of [aR 226] rfl (hH _ ?_), sw_at _ _ _, (sw_ne (by decide)).trans z6.2.1, (sw_ne (by decide)).trans ((fr 228 (by decide) (by decide) (by decide) (by decide)).trans b28), (sw_ne (by decide)).trans ((fr 229 (by decide) (by decide) (by decide) (by decide)).trans b29), (sw_ne (by decide)).trans ((fr 230 (by decide) (by decide) (by decide) (by decide)).trans b30), (sw_ne (by decide)).trans ((fr 231 (by decide) (by decide) (by decide) (by decide)).trans b31), (sw_ne (by decide)).trans ((fr 232 (by decide) (by decide) (by decide) (by decide)).trans b32), (sw_ne (by decide)).trans ((z6.2.2.2.1 233 (by decide) (by decide) (by decide)).trans r3.2.1), (sw_ne (by decide)).trans ((fr 234 (by decide) (by decide) (by decide) (by decide)).trans b34), (sw_ne (by decide)).trans z6.2.2.1, fun a ha => (sw_ne (by omega)).trans ((fr a (by omega) (by omega) (by omega) (by omega)).trans (bfr a ha)), z6.2.2.2.2.1.trans (r3.2.2.2.1.trans b1), z6.2.2.2.2.2.trans (r3.2.2.2.2.trans b2), (vu_ne (by decide)).trans ((ff 5 (by omega)).trans rfl), (vu_ne (by decide)).trans ((ff 6 (by omega)).trans rfl), (vu_ne (by decide)).trans ((ff 9 (by omega)).trans rfl), (vu_ne (by decide)).trans e61, (vu_ne (by decide)).trans e62, (vu_ne (by decide)).trans ((ff 14 (by omega)).trans rfl), vu_at _ _ _⟩
  refine r_aldR cd_176_87 rfl rfl ?_
  refine r_cst cd_176_88 rfl ?_
  refine r_cV c1 cd_176_90 rfl rfl rfl (rc0 b26 rfl) rfl rfl rfl ?_
  refine r_aldR cd_176_93 rfl rfl ?_
  refine r_cst cd_176_94 rfl ?_
  refine r_cV c2 cd_176_96 rfl rfl rfl (rc0 r1.1 rfl) rfl rfl rfl ?_
  refine r_aldR cd_176_99 rfl rfl ?_
  refine r_cI c6 cd_176_100 rfl rfl rfl (rc0 r3.1 rfl) rfl rfl rfl ?_
  refine r_pop cd_176_103 rfl rfl ?_
  refine r_aldR cd_176_104 rfl rfl ?_
  refine r_con (v := 0) cd_176_105 rfl (by decide) ?_
  refine r_put (fs' := Mo (va_up s6 15 0)) cd_176_106 rfl z6.1 rfl rfl ?_
  exact r_void cd_176_109 rfl (rfl)
