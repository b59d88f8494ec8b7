/-! THE CLASS: the gap, signs, violations (written by wip/whole/gen52.py) -/
theorem k_374v {h : aH} (x : Int) : Ct 1 374 [aI x] h (.inl (some (aI (absV x))), h) := by
  refine Ct.of [aI x] rfl ?_
  refine r_ild cd_374_0 rfl rfl ?_
  refine r_if54w cd_374_1 rfl (fun n1 => ?_) (fun n1 => ?_)
  · refine r_ild cd_374_4 rfl rfl ?_
    refine r_neg (v := -x) cd_374_5 rfl (by rfl) ?_
    refine r_goto cd_374_6 ?_
    exact r_ret cd_374_10 True.intro (rI (by unfold absV; rw [if_pos n1]))
  · refine r_ild cd_374_9 rfl rfl ?_
    exact r_ret cd_374_10 True.intro (rI (by unfold absV; rw [if_neg n1]))
theorem by_ok : (List.range 128).all (fun x => decide (byI ((x : Nat) : Int) = (x : Int))) = true := by decide +kernel
theorem by_id {x : Int} (h1 : 0 ≤ x) (h2 : x < 128) : byI x = x := by
  have h := List.all_eq_true.mp by_ok x.toNat (List.mem_range.mpr (by omega))
  rw [show ((x.toNat : Nat) : Int) = x by omega] at h
  exact of_decide_eq_true h
theorem itF_acc {g : Nat → Int → Int} {f : Nat → Int} (hg : ∀ p a, g p a = a + f p) : ∀ {m i : Nat} {a : Int}, itF g i m a = a + itF g i m 0
  | 0, _, a => by
    show a = a + 0
    omega
  | m + 1, i, a => by
    rw [itF_last, itF_last, hg, hg, itF_acc hg (m := m) (a := a)]
    omega
theorem viol_e {w : Nat → Int} : viol w = itF (ovrG w) 0 (nB w) 0 + itF (dbsG w) 0 (nP w) 0 + absV (w 9 - lftS w - w 10) := by
  unfold viol
  rw [itF_acc (g := dbsG w) (f := fun p => dbl w p) (fun _ _ => rfl) (a := itF (ovrG w) 0 (nB w) (absV (w 9 - lftS w - w 10))), itF_acc (g := ovrG w) (f := fun b => if ¬ 0 < spare w b ∨ 4 < knots w b then 1 else 0) (fun _ _ => rfl) (a := absV (w 9 - lftS w - w 10))]
  omega
theorem k_102 {h : aH} {B : Nat} {w : Nat → Int} (hR : Rp h B w) (hI : Inv0 w)  : Ct 2 102 [aR B] h (.inl (some (aI (absV (w 9 - lftS w - w 10)))), h) := by
  obtain ⟨c, ⟨o0, o1, o2, o3, o4, o5, o6, o7, o8, o9, o10, o11, o12, o13, o14, o15, o16, o17⟩, a0, a1, a2, a3, a4, a5, a6, a7, a8, a9, a10, a11, a12, a13, a14⟩ := id hR
  have hbn := hI.bNe
  have hpn := hI.pNe
  have x0 := hI.len
  have x1 := hI.hour
  have x2 := hI.gas
  have x3 := hI.leak
  have x4 := hI.gn
  have x5 := hI.bn
  have x6 := hI.pn
  refine Ct.of [aR B] rfl ?_
  refine r_aldR cd_102_0 rfl rfl ?_
  refine r_get cd_102_1 rfl o0 rfl ?_
  refine r_aldR cd_102_4 rfl rfl ?_
  refine r_get cd_102_5 rfl o0 rfl ?_
  refine r_add (v := w 9) cd_102_8 rfl (by exact a14) ?_
  refine r_aldR cd_102_9 rfl rfl ?_
  refine r_get cd_102_10 rfl o0 rfl ?_
  refine r_cI (k_9 hR hI ) cd_102_13 rfl rfl rfl (rc0 o5 rfl) rfl rfl rfl ?_
  refine r_sub (v := (w 9) - (lftS w)) cd_102_16 rfl (by rfl) ?_
  refine r_aldR cd_102_17 rfl rfl ?_
  refine r_get cd_102_18 rfl o0 rfl ?_
  refine r_sub (v := ((w 9) - (lftS w)) - (w 10)) cd_102_21 rfl (by rfl) ?_
  refine r_cI (k_374v (((w 9) - (lftS w)) - (w 10))) cd_102_22 rfl rfl rfl True.intro rfl rfl rfl ?_
  exact r_ret cd_102_25 True.intro (rfl)
