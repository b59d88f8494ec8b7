/-! THE CLASS: the gap, signs, violations (written by wip/whole/gen52.py) -/
theorem k_374v {h : aH} (x : Int) : Ct 1 374 [aI x] h (.inl (some (aI (absV x))), h) := by
  refine Ct.of [aI x] rfl ?_
  refine r_ild cd_374_0 rfl rfl ?_
  refine r_if54w cd_374_1 rfl (fun n1 => ?_) (fun n1 => ?_)
  · refine r_ild cd_374_4 rfl rfl ?_
    refine r_neg (v := -x) cd_374_5 rfl (by rfl) ?_
    refine r_goto cd_374_6 ?_
    exact r_ret cd_374_10 True.intro (rI (by unfold absV; rw [if_pos n1]))
  · refine r_ild cd_374_9 rfl rfl ?_
    exact r_ret cd_374_10 True.intro (rI (by unfold absV; rw [if_neg n1]))
theorem set_0 {f : Nat → Bool} {n : Nat} (hn : n ≤ 16) : setF f n = 0 ↔ fiF f 0 n = -1 := by
  rw [set_val hn]
  constructor
  · intro h
    have h0 : valN f n = 0 := by omega
    rcases fiF_spec (f := f) (m := n) (i := 0) with ⟨h1, -⟩ | ⟨p, -, h2, -, h4, -⟩
    · exact h1
    · have h5 := val_tb (f := f) (k := p) (n := n)
      rw [h0, h4, decide_eq_true (by omega : p < n)] at h5
      simp at h5
  · intro h
    rcases fiF_spec (f := f) (m := n) (i := 0) with ⟨-, h1⟩ | ⟨p, -, h2, h3, -, -⟩
    · have h0 : valN f n = 0 := Nat.eq_of_testBit_eq fun k => by
        rw [val_tb, Nat.zero_testBit]
        by_cases e : k < n
        · rw [h1 k (by omega) (by omega)]; simp
        · simp [e]
      rw [h0]; rfl
    · omega
theorem set_in {f : Nat → Bool} {n : Nat} (hn : n ≤ 16) : inR (setF f n) := by
  have h1 : valN f n < 2 ^ n := val_lt
  have h2 : 2 ^ n ≤ 65536 := Nat.pow_le_pow_right (n := 2) (by decide) hn
  rw [set_val hn]
  exact ⟨by omega, by omega⟩
theorem by_ok : (List.range 128).all (fun x => decide (byI ((x : Nat) : Int) = (x : Int))) = true := by decide +kernel
theorem by_id {x : Int} (h1 : 0 ≤ x) (h2 : x < 128) : byI x = x := by
  have h := List.all_eq_true.mp by_ok x.toNat (List.mem_range.mpr (by omega))
  rw [show ((x.toNat : Nat) : Int) = x by omega] at h
  exact of_decide_eq_true h
theorem itF_acc {g : Nat → Int → Int} {f : Nat → Int} (hg : ∀ p a, g p a = a + f p) : ∀ {m i : Nat} {a : Int}, itF g i m a = a + itF g i m 0
  | 0, _, a => by
    show a = a + 0
    omega
  | m + 1, i, a => by
    rw [itF_last, itF_last, hg, hg, itF_acc hg (m := m) (a := a)]
    omega
theorem viol_e {w : Nat → Int} : viol w = itF (ovrG w) 0 (nB w) 0 + itF (dbsG w) 0 (nP w) 0 + absV (w 9 - lftS w - w 10) := by
  unfold viol
  rw [itF_acc (g := dbsG w) (f := fun p => dbl w p) (fun _ _ => rfl) (a := itF (ovrG w) 0 (nB w) (absV (w 9 - lftS w - w 10))), itF_acc (g := ovrG w) (f := fun b => if ¬ 0 < spare w b ∨ 4 < knots w b then 1 else 0) (fun _ _ => rfl) (a := absV (w 9 - lftS w - w 10))]
  omega
theorem k_102 {h : aH} {B : Nat} {w : Nat → Int} (hR : Rp h B w) (hI : Inv0 w)  : Ct 2 102 [aR B] h (.inl (some (aI (absV (w 9 - lftS w - w 10)))), h) := by
  obtain ⟨c, ⟨o0, o1, o2, o3, o4, o5, o6, o7, o8, o9, o10, o11, o12, o13, o14, o15, o16, o17⟩, a0, a1, a2, a3, a4, a5, a6, a7, a8, a9, a10, a11, a12, a13, a14⟩ := id hR
  have hbn := hI.bNe
  have hpn := hI.pNe
  have x0 := hI.len
  have x1 := hI.hour
  have x2 := hI.gas
  have x3 := hI.leak
  have x4 := hI.gn
  have x5 := hI.bn
  have x6 := hI.pn
  refine Ct.of [aR B] rfl ?_
  refine r_aldR cd_102_0 rfl rfl ?_
  refine r_get cd_102_1 rfl o0 rfl ?_
  refine r_aldR cd_102_4 rfl rfl ?_
  refine r_get cd_102_5 rfl o0 rfl ?_
  refine r_add (v := w 9) cd_102_8 rfl (by exact a14) ?_
  refine r_aldR cd_102_9 rfl rfl ?_
  refine r_get cd_102_10 rfl o0 rfl ?_
  refine r_cI (k_9 hR hI ) cd_102_13 rfl rfl rfl (rc0 o5 rfl) rfl rfl rfl ?_
  refine r_sub (v := (w 9) - (lftS w)) cd_102_16 rfl (by rfl) ?_
  refine r_aldR cd_102_17 rfl rfl ?_
  refine r_get cd_102_18 rfl o0 rfl ?_
  refine r_sub (v := ((w 9) - (lftS w)) - (w 10)) cd_102_21 rfl (by rfl) ?_
  refine r_cI (k_374v (((w 9) - (lftS w)) - (w 10))) cd_102_22 rfl rfl rfl True.intro rfl rfl rfl ?_
  exact r_ret cd_102_25 True.intro (rfl)
theorem k_103 {h : aH} {B : Nat} {w : Nat → Int} (hR : Rp h B w) (hI : Inv0 w) (x : Nat) (g0 : x < 30) : Ct 2 103 [aR B, aI ((x : Nat) : Int)] h (.inl (some (aI (markI w x))), h) := by
  obtain ⟨c, ⟨o0, o1, o2, o3, o4, o5, o6, o7, o8, o9, o10, o11, o12, o13, o14, o15, o16, o17⟩, a0, a1, a2, a3, a4, a5, a6, a7, a8, a9, a10, a11, a12, a13, a14⟩ := id hR
  have hbn := hI.bNe
  have hpn := hI.pNe
  have x0 := hI.len
  have x1 := hI.hour
  have x2 := hI.gas
  have x3 := hI.leak
  have x4 := hI.gn
  have x5 := hI.bn
  have x6 := hI.pn
  have hs0 := set_0 (f := fun p => lies w p ((x : Nat) : Int)) hpn.2
  have hsr : inR (setF (fun p => lies w p ((x : Nat) : Int)) (nP w)) := set_in hpn.2
  have hba := baAt_c (x := ((x : Nat) : Int)) hI
  refine Ct.of [aR B, aI ((x : Nat) : Int), aU] rfl ?_
  refine r_aldR cd_103_0 rfl rfl ?_
  refine r_get cd_103_1 rfl o0 rfl ?_
  refine r_ild cd_103_4 rfl rfl ?_
  refine r_cI (k_10 hR hI ((x : Nat) : Int) ⟨by omega, by omega⟩) cd_103_5 rfl rfl rfl (rc0 o5 rfl) rfl rfl rfl ?_
  refine r_ist cd_103_8 rfl rfl (L' := [aR B, aI ((x : Nat) : Int), aI (baAt w ((x : Nat) : Int))]) rfl ?_
  refine r_ild cd_103_9 rfl rfl ?_
  refine r_con (v := (-1)) cd_103_10 rfl (by decide) ?_
  refine r_ic61 cd_103_11 rfl (inR_of (baAt_c hI) (by decide) (by decide)) ⟨by omega, by omega⟩ (fun n1 => ?_) (fun n1 => ?_)
  · refine r_aldR cd_103_20 rfl rfl ?_
    refine r_get cd_103_21 rfl o0 rfl ?_
    refine r_ild cd_103_24 rfl rfl ?_
    refine r_cI (k_32 hR hI ((x : Nat) : Int) ⟨by omega, by omega⟩) cd_103_25 rfl rfl rfl (rc0 o10 rfl) rfl rfl rfl ?_
    refine r_if51 cd_103_28 rfl hsr (fun n2 => ?_) (fun n2 => ?_)
    · refine r_aldR cd_103_34 rfl rfl ?_
      refine r_get cd_103_35 rfl o0 rfl ?_
      refine r_get cd_103_38 rfl o1 rfl ?_
      refine r_ild cd_103_41 rfl rfl ?_
      refine r_arr (i := x) cd_103_42 rfl o3 rfl (by omega) rfl ?_
      rw [a1 (x) (by omega)]
      refine r_if56 cd_103_43 rfl (inR_of (hI.trees (x) (by omega)) (by decide) (by decide)) (fun n3 => ?_) (fun n3 => ?_)
      · refine r_con (v := 116) cd_103_46 rfl (by decide) ?_
        exact r_ret cd_103_48 ⟨by decide, by decide⟩ (rI (by unfold markI; rw [if_neg (fun e => e n1), if_neg (fun e => e (hs0.mp n2)), if_pos (by omega)]))
      · refine r_aldR cd_103_49 rfl rfl ?_
        refine r_get cd_103_50 rfl o0 rfl ?_
        refine r_get cd_103_53 rfl o1 rfl ?_
        refine r_ild cd_103_56 rfl rfl ?_
        refine r_arr (i := x) cd_103_57 rfl o2 rfl (by omega) rfl ?_
        rw [a0 (x) (by omega)]
        refine r_if56 cd_103_58 rfl (inR_of (hI.roofs (x) (by omega)) (by decide) (by decide)) (fun n4 => ?_) (fun n4 => ?_)
        · refine r_con (v := 114) cd_103_61 rfl (by decide) ?_
          refine r_goto cd_103_63 ?_
          exact r_ret cd_103_68 ⟨by decide, by decide⟩ (rI (by unfold markI; rw [if_neg (fun e => e n1), if_neg (fun e => e (hs0.mp n2)), if_neg (by omega), if_pos (by omega)]))
        · refine r_con (v := 46) cd_103_66 rfl (by decide) ?_
          exact r_ret cd_103_68 ⟨by decide, by decide⟩ (rI (by unfold markI; rw [if_neg (fun e => e n1), if_neg (fun e => e (hs0.mp n2)), if_neg (by omega), if_neg (by omega)]))
    · refine r_con (v := 112) cd_103_31 rfl (by decide) ?_
      exact r_ret cd_103_33 ⟨by decide, by decide⟩ (rI (by unfold markI; rw [if_neg (fun e => e n1), if_pos (show ¬ paAt w ((x : Nat) : Int) = -1 from fun e => n2 (hs0.mpr e))]))
  · refine r_con (v := 48) cd_103_14 rfl (by decide) ?_
    refine r_ild cd_103_16 rfl rfl ?_
    refine r_add (v := 48 + baAt w ((x : Nat) : Int)) cd_103_17 rfl (by rfl) ?_
    refine r_i2b cd_103_18 rfl ?_
    rw [show byI (48 + baAt w ((x : Nat) : Int)) = 48 + baAt w ((x : Nat) : Int) from by_id (by omega) (by omega)]
    exact r_ret cd_103_19 ⟨by omega, by omega⟩ (rI (by unfold markI; rw [if_pos n1]))
