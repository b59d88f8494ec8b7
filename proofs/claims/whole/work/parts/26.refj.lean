/-! THE REFERENCE: changes carried out (written by wip/whole/gen26.py) -/
theorem b_270 {h : aH} {s w : Nat → Int} (hM : h.2.2 226 = .inr (8, Mo s)) (hw : h.2.2 227 = .inl (0, 211, .inl w)) (hI : Inv0 w) (x : Int) (hx : inR x) (z : Int) (hz : inR z) (g9 : ¬ tFil w x z = 0) : Ct 3 270 [aR 226, aI x, aI z] h (.inl (some (aI 0)), sw h 226 (.inr (8, Mo (va_up s 15 (tFil w x z))))) := by
  refine Ct.of [aR 226, aI x, aI z, aU, aU] rfl ?_
  have hbn := hI.bNe
  have hpn := hI.pNe
  have x0 := hI.len
  have x1 := hI.hour
  have x2 := hI.gas
  have x3 := hI.leak
  have x4 := hI.gn
  have x5 := hI.bn
  have x6 := hI.pn
  refine r_aldR cd_270_0 rfl rfl ?_
  refine r_ild cd_270_1 rfl rfl ?_
  refine r_cI (c_265 hM hw hI x hx) cd_270_2 rfl rfl rfl (rc0 hM rfl) rfl rfl rfl ?_
  refine r_ist cd_270_5 rfl rfl (L' := [aR 226, aI x, aI z, aI (bz (isBa w x)), aU]) rfl ?_
  refine r_ild cd_270_6 rfl rfl ?_
  refine r_con (v := 1) cd_270_7 rfl (by decide) ?_
  refine r_con (v := 29) cd_270_8 rfl (by decide) ?_
  refine r_cI (c_186 z hz 1 ⟨by omega, by omega⟩ 29 ⟨by omega, by omega⟩) cd_270_10 rfl rfl rfl True.intro rfl rfl rfl ?_
  refine r_if52b cd_270_13 rfl (fun n1 => ?_) (fun n1 => ?_)
  · refine r_con (v := 1) cd_270_16 rfl (by decide) ?_
    refine r_goto cd_270_17 ?_
    refine r_ist cd_270_21 rfl rfl (L' := [aR 226, aI x, aI z, aI (bz (isBa w x)), aI 1]) rfl ?_
    refine r_aldR cd_270_23 rfl rfl ?_
    refine r_ild cd_270_24 rfl rfl ?_
    refine r_if52b cd_270_25 rfl (fun n2 => ?_) (fun n2 => ?_)
    · refine r_con (v := 1) cd_270_28 rfl (by decide) ?_
      refine r_goto cd_270_29 ?_
      refine r_ild cd_270_33 rfl rfl ?_
      refine r_ild cd_270_35 rfl rfl ?_
      refine r_if51b cd_270_36 rfl (fun n3 => ?_) (fun n3 => ?_)
      · refine r_con (v := 0) cd_270_57 rfl (by decide) ?_
        refine r_cI (c_261 hM true true false) cd_270_58 rfl rfl rfl (rc0 hM rfl) rfl rfl rfl ?_
        refine r_if51b cd_270_61 rfl (fun n4 => ?_) (fun n4 => ?_)
        · exact absurd n4 (by decide)
        · refine r_con (v := 0) cd_270_64 rfl (by decide) ?_
          exact r_ret cd_270_65 True.intro (by first | (simp [tFil, bz, n1, n2, n3]; done) | (simp_all [tFil, bz]; done))
      · exact Bool.noConfusion (n3.symm.trans n2)
    · have e_x := isBa_iff.mp n2
      obtain ⟨qx, rfl⟩ : ∃ qx : Nat, x = (qx : Int) := ⟨x.toNat, by omega⟩
      refine r_con (v := 0) cd_270_32 rfl (by decide) ?_
      refine r_ild cd_270_33 rfl rfl ?_
      refine r_ild cd_270_35 rfl rfl ?_
      refine r_if51b cd_270_36 rfl (fun n5 => ?_) (fun n5 => ?_)
      · exact Bool.noConfusion (n5.symm.trans n2)
      · refine r_ild cd_270_39 rfl rfl ?_
        refine r_if52 cd_270_41 rfl ⟨by omega, by omega⟩ (fun n6 => ?_) (fun n6 => ?_)
        · exact absurd n6 (by decide)
        · refine r_con (v := 0) cd_270_57 rfl (by decide) ?_
          refine r_cI (c_261 hM false true false) cd_270_58 rfl rfl rfl (rc0 hM rfl) rfl rfl rfl ?_
          refine r_if51b cd_270_61 rfl (fun n7 => ?_) (fun n7 => ?_)
          · exact absurd n7 (by decide)
          · refine r_con (v := 0) cd_270_64 rfl (by decide) ?_
            exact r_ret cd_270_65 True.intro (by first | (simp [tFil, bz, n1, n2, n5]; done) | (simp_all [tFil, bz]; done))
  · have e_z := inB_iff.mp n1
    refine r_con (v := 0) cd_270_20 rfl (by decide) ?_
    refine r_ist cd_270_21 rfl rfl (L' := [aR 226, aI x, aI z, aI (bz (isBa w x)), aI 0]) rfl ?_
    refine r_aldR cd_270_23 rfl rfl ?_
    refine r_ild cd_270_24 rfl rfl ?_
    refine r_if52b cd_270_25 rfl (fun n8 => ?_) (fun n8 => ?_)
    · refine r_con (v := 1) cd_270_28 rfl (by decide) ?_
      refine r_goto cd_270_29 ?_
      refine r_ild cd_270_33 rfl rfl ?_
      refine r_ild cd_270_35 rfl rfl ?_
      refine r_if51b cd_270_36 rfl (fun n9 => ?_) (fun n9 => ?_)
      · refine r_con (v := 0) cd_270_57 rfl (by decide) ?_
        refine r_cI (c_261 hM true false false) cd_270_58 rfl rfl rfl (rc0 hM rfl) rfl rfl rfl ?_
        refine r_if51b cd_270_61 rfl (fun n10 => ?_) (fun n10 => ?_)
        · exact absurd n10 (by decide)
        · refine r_con (v := 0) cd_270_64 rfl (by decide) ?_
          exact r_ret cd_270_65 True.intro (by first | (simp [tFil, bz, n1, n8, n9]; done) | (simp_all [tFil, bz]; done))
      · exact Bool.noConfusion (n9.symm.trans n8)
    · have e_x := isBa_iff.mp n8
      obtain ⟨qx, rfl⟩ : ∃ qx : Nat, x = (qx : Int) := ⟨x.toNat, by omega⟩
      refine r_con (v := 0) cd_270_32 rfl (by decide) ?_
      refine r_ild cd_270_33 rfl rfl ?_
      refine r_ild cd_270_35 rfl rfl ?_
      refine r_if51b cd_270_36 rfl (fun n11 => ?_) (fun n11 => ?_)
      · exact Bool.noConfusion (n11.symm.trans n8)
      · refine r_ild cd_270_39 rfl rfl ?_
        refine r_if52 cd_270_41 rfl ⟨by omega, by omega⟩ (fun n12 => ?_) (fun n12 => ?_)
        · refine r_aldR cd_270_44 rfl rfl ?_
          refine r_ild cd_270_45 rfl rfl ?_
          refine r_ild cd_270_46 rfl rfl ?_
          refine r_cI (c_231 hM hw hI qx z hz (by omega) (by omega) (by omega)) cd_270_47 rfl rfl rfl (rc0 hM rfl) rfl rfl rfl ?_
          refine r_if52b cd_270_50 rfl (fun n13 => ?_) (fun n13 => ?_)
          · refine r_con (v := 1) cd_270_53 rfl (by decide) ?_
            refine r_goto cd_270_54 ?_
            refine r_cI (c_261 hM false false true) cd_270_58 rfl rfl rfl (rc0 hM rfl) rfl rfl rfl ?_
            refine r_if51b cd_270_61 rfl (fun n14 => ?_) (fun n14 => ?_)
            · exact absurd n14 (by decide)
            · refine r_con (v := 0) cd_270_64 rfl (by decide) ?_
              exact r_ret cd_270_65 True.intro (by first | (simp [tFil, bz, n1, n8, n11, n13]; done) | (simp_all [tFil, bz]; done))
          · refine r_con (v := 0) cd_270_57 rfl (by decide) ?_
            refine r_cI (c_261 hM false false false) cd_270_58 rfl rfl rfl (rc0 hM rfl) rfl rfl rfl ?_
            show RU _ _ _ (_, _, _, _, _, sw _ 226 (.inr (8, Mo (va_up s 15 0))))
            exact absurd (by simp [tFil, n1, n8, n11, n13]) g9
        · exact absurd n12 (by decide)
theorem foundP_b {w : Nat → Int} (x n : Int) : -1 ≤ foundP w x n ∧ foundP w x n < (nP w : Int) := by
  have h := numbd_b (w := w) n
  unfold foundP
  split
  · omega
  · split <;> omega
theorem b_272 {h : aH} {s w : Nat → Int} (hM : h.2.2 226 = .inr (8, Mo s)) (hw : h.2.2 227 = .inl (0, 211, .inl w)) (hI : Inv0 w) (x : Int) (hx : inR x) (z : Int) (hz : inR z) (g9 : ¬ tClm w x z = 0) : Ct 4 272 [aR 226, aI x, aI z] h (.inl (some (aI 0)), sw h 226 (.inr (8, Mo (va_up s 15 (tClm w x z))))) := by
  refine Ct.of [aR 226, aI x, aI z, aU] rfl ?_
  have hbn := hI.bNe
  have hpn := hI.pNe
  have x0 := hI.len
  have x1 := hI.hour
  have x2 := hI.gas
  have x3 := hI.leak
  have x4 := hI.gn
  have x5 := hI.bn
  have x6 := hI.pn
  refine r_aldR cd_272_0 rfl rfl ?_
  refine r_ild cd_272_1 rfl rfl ?_
  refine r_cI (c_244 hM hw hI x hx) cd_272_2 rfl rfl rfl (rc0 hM rfl) rfl rfl rfl ?_
  refine r_ist cd_272_5 rfl rfl (L' := [aR 226, aI x, aI z, aI (bz (isPl w x))]) rfl ?_
  refine r_aldR cd_272_6 rfl rfl ?_
  refine r_ild cd_272_7 rfl rfl ?_
  refine r_if52b cd_272_8 rfl (fun n1 => ?_) (fun n1 => ?_)
  · refine r_con (v := 1) cd_272_11 rfl (by decide) ?_
    refine r_goto cd_272_12 ?_
    refine r_ild cd_272_16 rfl rfl ?_
    refine r_if51b cd_272_17 rfl (fun n2 => ?_) (fun n2 => ?_)
    · refine r_con (v := 0) cd_272_34 rfl (by decide) ?_
      refine r_cI (c_255 hM true false) cd_272_35 rfl rfl rfl (rc0 hM rfl) rfl rfl rfl ?_
      refine r_if51b cd_272_38 rfl (fun n3 => ?_) (fun n3 => ?_)
      · exact absurd n3 (by decide)
      · refine r_con (v := 0) cd_272_41 rfl (by decide) ?_
        exact r_ret cd_272_42 True.intro (by first | (simp [tClm, bz, n1, n2]; done) | (simp_all [tClm, bz]; done))
    · exact Bool.noConfusion (n2.symm.trans n1)
  · refine r_con (v := 0) cd_272_15 rfl (by decide) ?_
    refine r_ild cd_272_16 rfl rfl ?_
    refine r_if51b cd_272_17 rfl (fun n4 => ?_) (fun n4 => ?_)
    · exact Bool.noConfusion (n4.symm.trans n1)
    · refine r_aldR cd_272_20 rfl rfl ?_
      refine r_ild cd_272_21 rfl rfl ?_
      refine r_ild cd_272_22 rfl rfl ?_
      refine r_cI (c_235 hM hw hI x hx z hz) cd_272_23 rfl rfl rfl (rc0 hM rfl) rfl rfl rfl ?_
      refine r_con (v := (-1)) cd_272_26 rfl (by decide) ?_
      refine r_ic62 cd_272_27 rfl ⟨by have := foundP_b (w := w) x z; omega, by have := foundP_b (w := w) x z; omega⟩ ⟨by omega, by omega⟩ (fun n5 => ?_) (fun n5 => ?_)
      · refine r_con (v := 1) cd_272_30 rfl (by decide) ?_
        refine r_goto cd_272_31 ?_
        refine r_cI (c_255 hM false true) cd_272_35 rfl rfl rfl (rc0 hM rfl) rfl rfl rfl ?_
        refine r_if51b cd_272_38 rfl (fun n6 => ?_) (fun n6 => ?_)
        · exact absurd n6 (by decide)
        · refine r_con (v := 0) cd_272_41 rfl (by decide) ?_
          exact r_ret cd_272_42 True.intro (by first | (simp [tClm, bz, n1, n4, n5]; done) | (simp_all [tClm, bz]; done))
      · refine r_con (v := 0) cd_272_34 rfl (by decide) ?_
        refine r_cI (c_255 hM false false) cd_272_35 rfl rfl rfl (rc0 hM rfl) rfl rfl rfl ?_
        show RU _ _ _ (_, _, _, _, _, sw _ 226 (.inr (8, Mo (va_up s 15 0))))
        exact absurd (by simp [tClm, n1, n4, n5]) g9
theorem whyT_0 {w : Nat → Int} {p b : Nat} (h : whyT w p b = 0) : pa w p 4 = 0 ∧ bo w b 3 = 0 ∧ pa w p 5 = bo w b 0 ∧ ¬ knots w b = 4 ∧ pa w p 0 < spare w b := by
  unfold whyT at h
  repeat' split at h
  all_goals first | omega | (simp_all; done)
theorem whyL_0 {w : Nat → Int} {b : Nat} (h : whyL w b = 0) : bo w b 3 = 0 ∧ w (53 + (bo w b 0).toNat) < hOf w b := by
  unfold whyL at h
  repeat' split at h
  all_goals first | omega | (simp_all; done)
theorem canU_iff {w : Nat → Int} {p : Nat} : canU w p = true ↔ pa w p 4 = 1 ∧ bo w (pa w p 5).toNat 3 = 0 := by unfold canU; simp
theorem g_256 {h : aH} {s w b0 P : Nat → Int} (hM : h.2.2 226 = .inr (8, Mo s)) (hw : h.2.2 227 = .inl (0, 211, .inl w)) (hb : h.2.2 228 = .inl (0, 211, .inl b0)) (hP : h.2.2 230 = .inl (0, 1688, .inl P)) (hI : Inv0 w) (pm : Nat) (hp5 : s 5 = (pm : Int)) (hpm : pm ≤ 8) (k : Nat) (v : Int)  (g0 : k < 211) : ∃ s' P', Ct 2 256 [aR 226, aI ((k : Nat) : Int), aI v] h (.inl (some (aI (w k))), sw (sw (sw (sw h 228 (.inl (0, 211, .inl (cpF w 0 0 0 211 b0)))) 227 (.inl (0, 211, .inl (va_up w k v)))) 230 (.inl (0, 1688, .inl P'))) 226 (.inr (8, Mo s'))) ∧ RmP s pm P (cpF w 0 0 0 211 b0) s' P' := by
  have hbn := hI.bNe
  have hpn := hI.pNe
  have x0 := hI.len
  have x1 := hI.hour
  have x2 := hI.gas
  have x3 := hI.leak
  have x4 := hI.gn
  have x5 := hI.bn
  have x6 := hI.pn
  obtain ⟨s9, P9, hrem, hrp⟩ := c_253 (h := (sw (sw h 228 (.inl (0, 211, .inl (cpF w 0 0 0 211 b0)))) 227 (.inl (0, 211, .inl (va_up w k v))))) (s := s) (b := cpF w 0 0 0 211 b0) (P := P) (w k) ((sw_ne (by decide)).trans ((sw_ne (by decide)).trans hM)) ((sw_ne (by decide)).trans (sw_at _ _ _)) ((sw_ne (by decide)).trans ((sw_ne (by decide)).trans hP)) pm hp5 hpm
  refine ⟨s9, P9, Ct.of [aR 226, aI ((k : Nat) : Int), aI v, aU] rfl ?_, hrp⟩
  refine r_aldR cd_256_0 rfl rfl ?_
  refine r_cV (c_252 hM hw hb) cd_256_1 rfl rfl rfl (rc0 hM rfl) rfl rfl rfl ?_
  refine r_aldR cd_256_4 rfl rfl ?_
  refine r_get cd_256_5 rfl ((sw_ne (by decide)).trans hM) rfl ?_
  refine r_ild cd_256_8 rfl rfl ?_
  refine r_arr (i := k) cd_256_9 rfl ((sw_ne (by decide)).trans hw) rfl (by omega) rfl ?_
  refine r_ist cd_256_10 rfl rfl (L' := [aR 226, aI ((k : Nat) : Int), aI v, aI (w k)]) rfl ?_
  refine r_aldR cd_256_11 rfl rfl ?_
  refine r_get cd_256_12 rfl ((sw_ne (by decide)).trans hM) rfl ?_
  refine r_ild cd_256_15 rfl rfl ?_
  refine r_ild cd_256_16 rfl rfl ?_
  refine r_arsI (i := k) cd_256_17 rfl rfl ((sw_ne (by decide)).trans hw) rfl (by omega) rfl ?_
  refine r_aldR cd_256_18 rfl rfl ?_
  refine r_ild cd_256_19 rfl rfl ?_
  refine r_cI hrem cd_256_20 rfl rfl rfl (rc0 ((sw_ne (by decide)).trans ((sw_ne (by decide)).trans hM)) rfl) rfl rfl rfl ?_
  exact r_ret cd_256_23 True.intro (rfl)
theorem g_254 {h : aH} {s w b0 P : Nat → Int} (hM : h.2.2 226 = .inr (8, Mo s)) (hw : h.2.2 227 = .inl (0, 211, .inl w)) (hb : h.2.2 228 = .inl (0, 211, .inl b0)) (hP : h.2.2 230 = .inl (0, 1688, .inl P)) (hI : Inv0 w) (pm : Nat) (hp5 : s 5 = (pm : Int)) (hpm : pm ≤ 8) (x : Nat) (v : Int) (hv : inR v)  (g0 : (x : Int) < w 0) (g1 : 0 ≤ v) (g2 : v ≤ 9) : ∃ s' P', Ct 3 254 [aR 226, aI ((x : Nat) : Int), aI v] h (.inl (some (aI (w (23 + x)))), sw (sw (sw (sw (sw h 226 (.inr (8, Mo (va_up s 15 0)))) 228 (.inl (0, 211, .inl (cpF w 0 0 0 211 b0)))) 227 (.inl (0, 211, .inl (va_up w (23 + x) v)))) 230 (.inl (0, 1688, .inl P'))) 226 (.inr (8, Mo s'))) ∧ RmP (va_up s 15 0) pm P (cpF w 0 0 0 211 b0) s' P' := by
  have hbn := hI.bNe
  have hpn := hI.pNe
  have x0 := hI.len
  have x1 := hI.hour
  have x2 := hI.gas
  have x3 := hI.leak
  have x4 := hI.gn
  have x5 := hI.bn
  have x6 := hI.pn
  have e1 : isPl w ((x : Nat) : Int) = true := isPl_iff.mpr (by omega)
  have e2 : inB v 0 9 = true := inB_iff.mpr (by omega)
  obtain ⟨s9, P9, hset, hrp⟩ := g_256 (h := sw h 226 (.inr (8, Mo (va_up s 15 0)))) (s := va_up s 15 0) (w := w) (b0 := b0) (P := P) (sw_at _ _ _) ((sw_ne (by decide)).trans hw) ((sw_ne (by decide)).trans hb) ((sw_ne (by decide)).trans hP) hI pm ((vu_ne (by decide)).trans hp5) hpm (23 + x) (v) (by omega)
  refine ⟨s9, P9, Ct.of [aR 226, aI ((x : Nat) : Int), aI v] rfl ?_, hrp⟩
  refine r_aldR cd_254_0 rfl rfl ?_
  refine r_aldR cd_254_1 rfl rfl ?_
  refine r_ild cd_254_2 rfl rfl ?_
  refine r_cI (c_244 hM hw hI ((x : Nat) : Int) ⟨by omega, by omega⟩) cd_254_3 rfl rfl rfl (rc0 hM rfl) rfl rfl rfl ?_
  refine r_if52b cd_254_6 rfl (fun n1 => ?_) (fun n1 => ?_)
  · exact Bool.noConfusion (n1.symm.trans e1)
  · refine r_con (v := 0) cd_254_13 rfl (by decide) ?_
    refine r_ild cd_254_14 rfl rfl ?_
    refine r_con (v := 0) cd_254_15 rfl (by decide) ?_
    refine r_con (v := 9) cd_254_16 rfl (by decide) ?_
    refine r_cI (c_186 v hv 0 ⟨by omega, by omega⟩ 9 ⟨by omega, by omega⟩) cd_254_18 rfl rfl rfl True.intro rfl rfl rfl ?_
    refine r_if52b cd_254_21 rfl (fun n2 => ?_) (fun n2 => ?_)
    · exact Bool.noConfusion (n2.symm.trans e2)
    · refine r_con (v := 0) cd_254_28 rfl (by decide) ?_
      refine r_cI (c_255 hM false false) cd_254_29 rfl rfl rfl (rc0 hM rfl) rfl rfl rfl ?_
      show RU _ _ _ (_, _, _, _, _, sw _ 226 (.inr (8, Mo (va_up s 15 0))))
      refine r_if51b cd_254_32 rfl (fun n3 => ?_) (fun n3 => ?_)
      · refine r_aldR cd_254_39 rfl rfl ?_
        refine r_con (v := 23) cd_254_40 rfl (by decide) ?_
        refine r_ild cd_254_42 rfl rfl ?_
        refine r_add (v := ((23 + x : Nat) : Int)) cd_254_43 rfl (by omega) ?_
        refine r_ild cd_254_44 rfl rfl ?_
        refine r_cI hset cd_254_45 rfl rfl rfl (rc0 (sw_at _ _ _) rfl) rfl rfl rfl ?_
        exact r_ret cd_254_48 True.intro (rfl)
      · exact absurd n3 (by decide)
theorem g_257 {h : aH} {s w b0 P : Nat → Int} (hM : h.2.2 226 = .inr (8, Mo s)) (hw : h.2.2 227 = .inl (0, 211, .inl w)) (hb : h.2.2 228 = .inl (0, 211, .inl b0)) (hP : h.2.2 230 = .inl (0, 1688, .inl P)) (hI : Inv0 w) (pm : Nat) (hp5 : s 5 = (pm : Int)) (hpm : pm ≤ 8) (x : Nat) (v : Int) (hv : inR v)  (g0 : (x : Int) < w 0) (g1 : 0 ≤ v) (g2 : v ≤ 9) : ∃ s' P', Ct 3 257 [aR 226, aI ((x : Nat) : Int), aI v] h (.inl (some (aI (w (53 + x)))), sw (sw (sw (sw (sw h 226 (.inr (8, Mo (va_up s 15 0)))) 228 (.inl (0, 211, .inl (cpF w 0 0 0 211 b0)))) 227 (.inl (0, 211, .inl (va_up w (53 + x) v)))) 230 (.inl (0, 1688, .inl P'))) 226 (.inr (8, Mo s'))) ∧ RmP (va_up s 15 0) pm P (cpF w 0 0 0 211 b0) s' P' := by
  have hbn := hI.bNe
  have hpn := hI.pNe
  have x0 := hI.len
  have x1 := hI.hour
  have x2 := hI.gas
  have x3 := hI.leak
  have x4 := hI.gn
  have x5 := hI.bn
  have x6 := hI.pn
  have e1 : isPl w ((x : Nat) : Int) = true := isPl_iff.mpr (by omega)
  have e2 : inB v 0 9 = true := inB_iff.mpr (by omega)
  obtain ⟨s9, P9, hset, hrp⟩ := g_256 (h := sw h 226 (.inr (8, Mo (va_up s 15 0)))) (s := va_up s 15 0) (w := w) (b0 := b0) (P := P) (sw_at _ _ _) ((sw_ne (by decide)).trans hw) ((sw_ne (by decide)).trans hb) ((sw_ne (by decide)).trans hP) hI pm ((vu_ne (by decide)).trans hp5) hpm (53 + x) (v) (by omega)
  refine ⟨s9, P9, Ct.of [aR 226, aI ((x : Nat) : Int), aI v] rfl ?_, hrp⟩
  refine r_aldR cd_257_0 rfl rfl ?_
  refine r_aldR cd_257_1 rfl rfl ?_
  refine r_ild cd_257_2 rfl rfl ?_
  refine r_cI (c_244 hM hw hI ((x : Nat) : Int) ⟨by omega, by omega⟩) cd_257_3 rfl rfl rfl (rc0 hM rfl) rfl rfl rfl ?_
  refine r_if52b cd_257_6 rfl (fun n1 => ?_) (fun n1 => ?_)
  · exact Bool.noConfusion (n1.symm.trans e1)
  · refine r_con (v := 0) cd_257_13 rfl (by decide) ?_
    refine r_ild cd_257_14 rfl rfl ?_
    refine r_con (v := 0) cd_257_15 rfl (by decide) ?_
    refine r_con (v := 9) cd_257_16 rfl (by decide) ?_
    refine r_cI (c_186 v hv 0 ⟨by omega, by omega⟩ 9 ⟨by omega, by omega⟩) cd_257_18 rfl rfl rfl True.intro rfl rfl rfl ?_
    refine r_if52b cd_257_21 rfl (fun n2 => ?_) (fun n2 => ?_)
    · exact Bool.noConfusion (n2.symm.trans e2)
    · refine r_con (v := 0) cd_257_28 rfl (by decide) ?_
      refine r_cI (c_255 hM false false) cd_257_29 rfl rfl rfl (rc0 hM rfl) rfl rfl rfl ?_
      show RU _ _ _ (_, _, _, _, _, sw _ 226 (.inr (8, Mo (va_up s 15 0))))
      refine r_if51b cd_257_32 rfl (fun n3 => ?_) (fun n3 => ?_)
      · refine r_aldR cd_257_39 rfl rfl ?_
        refine r_con (v := 53) cd_257_40 rfl (by decide) ?_
        refine r_ild cd_257_42 rfl rfl ?_
        refine r_add (v := ((53 + x : Nat) : Int)) cd_257_43 rfl (by omega) ?_
        refine r_ild cd_257_44 rfl rfl ?_
        refine r_cI hset cd_257_45 rfl rfl rfl (rc0 (sw_at _ _ _) rfl) rfl rfl rfl ?_
        exact r_ret cd_257_48 True.intro (rfl)
      · exact absurd n3 (by decide)
theorem g_259 {h : aH} {s w b0 P : Nat → Int} (hM : h.2.2 226 = .inr (8, Mo s)) (hw : h.2.2 227 = .inl (0, 211, .inl w)) (hb : h.2.2 228 = .inl (0, 211, .inl b0)) (hP : h.2.2 230 = .inl (0, 1688, .inl P)) (hI : Inv0 w) (pm : Nat) (hp5 : s 5 = (pm : Int)) (hpm : pm ≤ 8) (v : Int) (hv : inR v)  (g0 : 1 ≤ v) (g1 : v ≤ 9) : ∃ s' P', Ct 3 259 [aR 226, aI v] h (.inl (some (aI (w 3))), sw (sw (sw (sw (sw h 226 (.inr (8, Mo (va_up s 15 0)))) 228 (.inl (0, 211, .inl (cpF w 0 0 0 211 b0)))) 227 (.inl (0, 211, .inl (va_up w 3 v)))) 230 (.inl (0, 1688, .inl P'))) 226 (.inr (8, Mo s'))) ∧ RmP (va_up s 15 0) pm P (cpF w 0 0 0 211 b0) s' P' := by
  have hbn := hI.bNe
  have hpn := hI.pNe
  have x0 := hI.len
  have x1 := hI.hour
  have x2 := hI.gas
  have x3 := hI.leak
  have x4 := hI.gn
  have x5 := hI.bn
  have x6 := hI.pn
  have e2 : inB v 1 9 = true := inB_iff.mpr (by omega)
  obtain ⟨s9, P9, hset, hrp⟩ := g_256 (h := sw h 226 (.inr (8, Mo (va_up s 15 0)))) (s := va_up s 15 0) (w := w) (b0 := b0) (P := P) (sw_at _ _ _) ((sw_ne (by decide)).trans hw) ((sw_ne (by decide)).trans hb) ((sw_ne (by decide)).trans hP) hI pm ((vu_ne (by decide)).trans hp5) hpm (3) (v) (by omega)
  refine ⟨s9, P9, Ct.of [aR 226, aI v] rfl ?_, hrp⟩
  refine r_aldR cd_259_0 rfl rfl ?_
  refine r_ild cd_259_1 rfl rfl ?_
  refine r_con (v := 1) cd_259_2 rfl (by decide) ?_
  refine r_con (v := 9) cd_259_3 rfl (by decide) ?_
  refine r_cI (c_186 v hv 1 ⟨by omega, by omega⟩ 9 ⟨by omega, by omega⟩) cd_259_5 rfl rfl rfl True.intro rfl rfl rfl ?_
  refine r_if52b cd_259_8 rfl (fun n1 => ?_) (fun n1 => ?_)
  · exact Bool.noConfusion (n1.symm.trans e2)
  · refine r_con (v := 0) cd_259_15 rfl (by decide) ?_
    refine r_cI (c_250 hM false) cd_259_16 rfl rfl rfl (rc0 hM rfl) rfl rfl rfl ?_
    show RU _ _ _ (_, _, _, _, _, sw _ 226 (.inr (8, Mo (va_up s 15 0))))
    refine r_if51b cd_259_19 rfl (fun n2 => ?_) (fun n2 => ?_)
    · refine r_aldR cd_259_26 rfl rfl ?_
      refine r_con (v := 3) cd_259_27 rfl (by decide) ?_
      refine r_ild cd_259_28 rfl rfl ?_
      refine r_cI hset cd_259_29 rfl rfl rfl (rc0 (sw_at _ _ _) rfl) rfl rfl rfl ?_
      exact r_ret cd_259_32 True.intro (rfl)
    · exact absurd n2 (by decide)
theorem g_258 {h : aH} {s w b0 P : Nat → Int} (hM : h.2.2 226 = .inr (8, Mo s)) (hw : h.2.2 227 = .inl (0, 211, .inl w)) (hb : h.2.2 228 = .inl (0, 211, .inl b0)) (hP : h.2.2 230 = .inl (0, 1688, .inl P)) (hI : Inv0 w) (pm : Nat) (hp5 : s 5 = (pm : Int)) (hpm : pm ≤ 8) (x : Int) (hx : inR x)  (g0 : -3 ≤ x) (g1 : x ≤ 3) (g2 : w 4 < 12) : ∃ s' P', Ct 2 258 [aR 226, aI x] h (.inl (some (aI (blowW w x 4))), sw (sw (sw (sw (sw h 226 (.inr (8, Mo (va_up s 15 0)))) 228 (.inl (0, 211, .inl (cpF w 0 0 0 211 b0)))) 227 (.inl (0, 211, .inl (blowW w x)))) 230 (.inl (0, 1688, .inl P'))) 226 (.inr (8, Mo s'))) ∧ RmP (va_up s 15 0) pm P (cpF w 0 0 0 211 b0) s' P' := by
  have hbn := hI.bNe
  have hpn := hI.pNe
  have x0 := hI.len
  have x1 := hI.hour
  have x2 := hI.gas
  have x3 := hI.leak
  have x4 := hI.gn
  have x5 := hI.bn
  have x6 := hI.pn
  have e1 : inB x (-3) 3 = true := inB_iff.mpr (by omega)
  obtain ⟨s9, P9, hrem, hrp⟩ := c_253 (h := (sw (sw (sw h 226 (.inr (8, Mo (va_up s 15 0)))) 228 (.inl (0, 211, .inl (cpF w 0 0 0 211 b0)))) 227 (.inl (0, 211, .inl (blowW w x))))) (s := (va_up s 15 0)) (b := cpF w 0 0 0 211 b0) (P := P) (blowW w x 4) ((sw_ne (by decide)).trans ((sw_ne (by decide)).trans (sw_at _ _ _))) ((sw_ne (by decide)).trans (sw_at _ _ _)) ((sw_ne (by decide)).trans ((sw_ne (by decide)).trans ((sw_ne (by decide)).trans hP))) pm ((vu_ne (by decide)).trans hp5) hpm
  refine ⟨s9, P9, Ct.of [aR 226, aI x] rfl ?_, hrp⟩
  refine r_aldR cd_258_0 rfl rfl ?_
  refine r_ild cd_258_1 rfl rfl ?_
  refine r_con (v := (-3)) cd_258_2 rfl (by decide) ?_
  refine r_con (v := 3) cd_258_4 rfl (by decide) ?_
  refine r_cI (c_186 x hx (-3) ⟨by omega, by omega⟩ 3 ⟨by omega, by omega⟩) cd_258_5 rfl rfl rfl True.intro rfl rfl rfl ?_
  refine r_if52b cd_258_8 rfl (fun n1 => ?_) (fun n1 => ?_)
  · exact Bool.noConfusion (n1.symm.trans e1)
  · refine r_con (v := 0) cd_258_15 rfl (by decide) ?_
    refine r_aldR cd_258_16 rfl rfl ?_
    refine r_get cd_258_17 rfl hM rfl ?_
    refine r_con (v := 4) cd_258_20 rfl (by decide) ?_
    refine r_arr (i := 4) cd_258_21 rfl hw rfl (by omega) rfl ?_
    refine r_con (v := 12) cd_258_22 rfl (by decide) ?_
    refine r_ic62 cd_258_24 rfl (inR_of hI.gn (by decide) (by decide)) ⟨by omega, by omega⟩ (fun n2 => ?_) (fun n2 => ?_)
    · exact absurd n2 (by omega)
    · refine r_con (v := 0) cd_258_31 rfl (by decide) ?_
      refine r_cI (c_255 hM false false) cd_258_32 rfl rfl rfl (rc0 hM rfl) rfl rfl rfl ?_
      show RU _ _ _ (_, _, _, _, _, sw _ 226 (.inr (8, Mo (va_up s 15 0))))
      refine r_if51b cd_258_35 rfl (fun n3 => ?_) (fun n3 => ?_)
      · refine r_aldR cd_258_40 rfl rfl ?_
        refine r_cV (c_252 (sw_at _ _ _) ((sw_ne (by decide)).trans hw) ((sw_ne (by decide)).trans hb)) cd_258_41 rfl rfl rfl (rc0 (sw_at _ _ _) rfl) rfl rfl rfl ?_
        refine r_aldR cd_258_44 rfl rfl ?_
        refine r_aldR cd_258_45 rfl rfl ?_
        refine r_ild cd_258_46 rfl rfl ?_
        refine r_cI (c_196 ((sw_ne (by decide)).trans (sw_at _ _ _)) ((sw_ne (by decide)).trans ((sw_ne (by decide)).trans hw)) x (by omega) (by omega)) cd_258_47 rfl rfl rfl (rc0 ((sw_ne (by decide)).trans (sw_at _ _ _)) rfl) rfl rfl rfl ?_
        refine r_cI hrem cd_258_50 rfl rfl rfl (rc0 ((sw_ne (by decide)).trans ((sw_ne (by decide)).trans (sw_at _ _ _))) rfl) rfl rfl rfl ?_
        exact r_ret cd_258_53 True.intro (rfl)
      · exact absurd n3 (by decide)
theorem g_260 {h : aH} {s w b0 P : Nat → Int} (hM : h.2.2 226 = .inr (8, Mo s)) (hw : h.2.2 227 = .inl (0, 211, .inl w)) (hb : h.2.2 228 = .inl (0, 211, .inl b0)) (hP : h.2.2 230 = .inl (0, 1688, .inl P)) (hI : Inv0 w) (pm : Nat) (hp5 : s 5 = (pm : Int)) (hpm : pm ≤ 8) (x : Int) (hx : inR x) (l : Int) (hl : inR l) (t : Int) (ht : inR t)  (g0 : 0 ≤ x) (g1 : x < w 0) (g2 : 1 ≤ l) (g3 : l ≤ 30) (g4 : 1 ≤ t) (g5 : t ≤ 9) (g6 : w 5 < 8) : ∃ s' P', Ct 3 260 [aR 226, aI x, aI l, aI t] h (.inl (some (aI (((nB w : Nat) : Int)))), sw (sw (sw (sw (sw h 226 (.inr (8, Mo (va_up s 15 0)))) 228 (.inl (0, 211, .inl (cpF w 0 0 0 211 b0)))) 227 (.inl (0, 211, .inl (brinW w x l t)))) 230 (.inl (0, 1688, .inl P'))) 226 (.inr (8, Mo s'))) ∧ RmP (va_up s 15 0) pm P (cpF w 0 0 0 211 b0) s' P' := by
  have hbn := hI.bNe
  have hpn := hI.pNe
  have x0 := hI.len
  have x1 := hI.hour
  have x2 := hI.gas
  have x3 := hI.leak
  have x4 := hI.gn
  have x5 := hI.bn
  have x6 := hI.pn
  have e1 : isPl w x = true := isPl_iff.mpr (by omega)
  have e2 : inB l 1 30 = true := inB_iff.mpr (by omega)
  have e3 : inB t 1 9 = true := inB_iff.mpr (by omega)
  obtain ⟨s9, P9, hrem, hrp⟩ := c_253 (h := (sw (sw (sw h 226 (.inr (8, Mo (va_up s 15 0)))) 228 (.inl (0, 211, .inl (cpF w 0 0 0 211 b0)))) 227 (.inl (0, 211, .inl (brinW w x l t))))) (s := (va_up s 15 0)) (b := cpF w 0 0 0 211 b0) (P := P) (((nB w : Nat) : Int)) ((sw_ne (by decide)).trans ((sw_ne (by decide)).trans (sw_at _ _ _))) ((sw_ne (by decide)).trans (sw_at _ _ _)) ((sw_ne (by decide)).trans ((sw_ne (by decide)).trans ((sw_ne (by decide)).trans hP))) pm ((vu_ne (by decide)).trans hp5) hpm
  refine ⟨s9, P9, Ct.of [aR 226, aI x, aI l, aI t] rfl ?_, hrp⟩
  refine r_aldR cd_260_0 rfl rfl ?_
  refine r_aldR cd_260_1 rfl rfl ?_
  refine r_ild cd_260_2 rfl rfl ?_
  refine r_cI (c_244 hM hw hI x hx) cd_260_3 rfl rfl rfl (rc0 hM rfl) rfl rfl rfl ?_
  refine r_if52b cd_260_6 rfl (fun n1 => ?_) (fun n1 => ?_)
  · exact Bool.noConfusion (n1.symm.trans e1)
  · refine r_con (v := 0) cd_260_13 rfl (by decide) ?_
    refine r_ild cd_260_14 rfl rfl ?_
    refine r_con (v := 1) cd_260_15 rfl (by decide) ?_
    refine r_con (v := 30) cd_260_16 rfl (by decide) ?_
    refine r_cI (c_186 l hl 1 ⟨by omega, by omega⟩ 30 ⟨by omega, by omega⟩) cd_260_18 rfl rfl rfl True.intro rfl rfl rfl ?_
    refine r_if51b cd_260_21 rfl (fun n2 => ?_) (fun n2 => ?_)
    · exact Bool.noConfusion (n2.symm.trans e2)
    · refine r_ild cd_260_24 rfl rfl ?_
      refine r_con (v := 1) cd_260_25 rfl (by decide) ?_
      refine r_con (v := 9) cd_260_26 rfl (by decide) ?_
      refine r_cI (c_186 t ht 1 ⟨by omega, by omega⟩ 9 ⟨by omega, by omega⟩) cd_260_28 rfl rfl rfl True.intro rfl rfl rfl ?_
      refine r_if52b cd_260_31 rfl (fun n3 => ?_) (fun n3 => ?_)
      · exact Bool.noConfusion (n3.symm.trans e3)
      · refine r_con (v := 0) cd_260_38 rfl (by decide) ?_
        refine r_aldR cd_260_39 rfl rfl ?_
        refine r_get cd_260_40 rfl hM rfl ?_
        refine r_con (v := 5) cd_260_43 rfl (by decide) ?_
        refine r_arr (i := 5) cd_260_44 rfl hw rfl (by omega) rfl ?_
        refine r_con (v := 8) cd_260_45 rfl (by decide) ?_
        refine r_ic62 cd_260_47 rfl (inR_of hI.bn (by decide) (by decide)) ⟨by omega, by omega⟩ (fun n4 => ?_) (fun n4 => ?_)
        · exact absurd n4 (by omega)
        · refine r_con (v := 0) cd_260_54 rfl (by decide) ?_
          refine r_cI (c_261 hM false false false) cd_260_55 rfl rfl rfl (rc0 hM rfl) rfl rfl rfl ?_
          show RU _ _ _ (_, _, _, _, _, sw _ 226 (.inr (8, Mo (va_up s 15 0))))
          refine r_if51b cd_260_58 rfl (fun n5 => ?_) (fun n5 => ?_)
          · refine r_aldR cd_260_63 rfl rfl ?_
            refine r_cV (c_252 (sw_at _ _ _) ((sw_ne (by decide)).trans hw) ((sw_ne (by decide)).trans hb)) cd_260_64 rfl rfl rfl (rc0 (sw_at _ _ _) rfl) rfl rfl rfl ?_
            refine r_aldR cd_260_67 rfl rfl ?_
            refine r_aldR cd_260_68 rfl rfl ?_
            refine r_ild cd_260_69 rfl rfl ?_
            refine r_ild cd_260_70 rfl rfl ?_
            refine r_ild cd_260_71 rfl rfl ?_
            refine r_cI (c_199 ((sw_ne (by decide)).trans (sw_at _ _ _)) ((sw_ne (by decide)).trans ((sw_ne (by decide)).trans hw)) hI x l t (by omega)) cd_260_72 rfl rfl rfl (rc0 ((sw_ne (by decide)).trans (sw_at _ _ _)) rfl) rfl rfl rfl ?_
            refine r_cI hrem cd_260_75 rfl rfl rfl (rc0 ((sw_ne (by decide)).trans ((sw_ne (by decide)).trans (sw_at _ _ _))) rfl) rfl rfl rfl ?_
            exact r_ret cd_260_78 True.intro (rfl)
          · exact absurd n5 (by decide)
theorem g_262 {h : aH} {s w b0 P : Nat → Int} (hM : h.2.2 226 = .inr (8, Mo s)) (hw : h.2.2 227 = .inl (0, 211, .inl w)) (hb : h.2.2 228 = .inl (0, 211, .inl b0)) (hP : h.2.2 230 = .inl (0, 1688, .inl P)) (hI : Inv0 w) (pm : Nat) (hp5 : s 5 = (pm : Int)) (hpm : pm ≤ 8) (g : Int) (hg : inR g) (x : Int) (hx : inR x) (z : Int) (hz : inR z) (n : Int) (hn : inR n)  (g0 : 1 ≤ g) (g1 : g ≤ 9) (g2 : 0 ≤ x) (g3 : x < w 0) (g4 : 0 ≤ z) (g5 : z < w 0) (g6 : ¬ x = z) (g7 : 0 ≤ n) (g8 : n ≤ 99) (g9 : w 6 < 16) (g10 : numbd w n = -1) : ∃ s' P', Ct 3 262 [aR 226, aI g, aI x, aI z, aI n] h (.inl (some (aI (postW w g x z n 6 - 1))), sw (sw (sw (sw (sw h 226 (.inr (8, Mo (va_up s 15 0)))) 228 (.inl (0, 211, .inl (cpF w 0 0 0 211 b0)))) 227 (.inl (0, 211, .inl (postW w g x z n)))) 230 (.inl (0, 1688, .inl P'))) 226 (.inr (8, Mo s'))) ∧ RmP (va_up s 15 0) pm P (cpF w 0 0 0 211 b0) s' P' := by
  have hbn := hI.bNe
  have hpn := hI.pNe
  have x0 := hI.len
  have x1 := hI.hour
  have x2 := hI.gas
  have x3 := hI.leak
  have x4 := hI.gn
  have x5 := hI.bn
  have x6 := hI.pn
  have e1 : isPl w x = true := isPl_iff.mpr (by omega)
  have e2 : isPl w z = true := isPl_iff.mpr (by omega)
  have e3 : inB g 1 9 = true := inB_iff.mpr (by omega)
  have e4 : inB n 0 99 = true := inB_iff.mpr (by omega)
  have hnb := numbd_b (w := w) n
  obtain ⟨s9, P9, hrem, hrp⟩ := c_253 (h := (sw (sw (sw h 226 (.inr (8, Mo (va_up s 15 0)))) 228 (.inl (0, 211, .inl (cpF w 0 0 0 211 b0)))) 227 (.inl (0, 211, .inl (postW w g x z n))))) (s := (va_up s 15 0)) (b := cpF w 0 0 0 211 b0) (P := P) (postW w g x z n 6 - 1) ((sw_ne (by decide)).trans ((sw_ne (by decide)).trans (sw_at _ _ _))) ((sw_ne (by decide)).trans (sw_at _ _ _)) ((sw_ne (by decide)).trans ((sw_ne (by decide)).trans ((sw_ne (by decide)).trans hP))) pm ((vu_ne (by decide)).trans hp5) hpm
  refine ⟨s9, P9, Ct.of [aR 226, aI g, aI x, aI z, aI n, aU] rfl ?_, hrp⟩
  refine r_ild cd_262_0 rfl rfl ?_
  refine r_ild cd_262_1 rfl rfl ?_
  refine r_ic61 cd_262_2 rfl hx hz (fun n1 => ?_) (fun n1 => ?_)
  · exact absurd n1 g6
  · refine r_ild cd_262_5 rfl rfl ?_
    refine r_con (v := 1) cd_262_6 rfl (by decide) ?_
    refine r_con (v := 9) cd_262_7 rfl (by decide) ?_
    refine r_cI (c_186 g hg 1 ⟨by omega, by omega⟩ 9 ⟨by omega, by omega⟩) cd_262_9 rfl rfl rfl True.intro rfl rfl rfl ?_
    refine r_if51b cd_262_12 rfl (fun n2 => ?_) (fun n2 => ?_)
    · exact Bool.noConfusion (n2.symm.trans e3)
    · refine r_ild cd_262_15 rfl rfl ?_
      refine r_con (v := 0) cd_262_17 rfl (by decide) ?_
      refine r_con (v := 99) cd_262_18 rfl (by decide) ?_
      refine r_cI (c_186 n hn 0 ⟨by omega, by omega⟩ 99 ⟨by omega, by omega⟩) cd_262_20 rfl rfl rfl True.intro rfl rfl rfl ?_
      refine r_if52b cd_262_23 rfl (fun n3 => ?_) (fun n3 => ?_)
      · exact Bool.noConfusion (n3.symm.trans e4)
      · refine r_con (v := 0) cd_262_30 rfl (by decide) ?_
        refine r_ist cd_262_31 rfl rfl (L' := [aR 226, aI g, aI x, aI z, aI n, aI 0]) rfl ?_
        refine r_aldR cd_262_33 rfl rfl ?_
        refine r_aldR cd_262_34 rfl rfl ?_
        refine r_ild cd_262_35 rfl rfl ?_
        refine r_cI (c_244 hM hw hI x hx) cd_262_36 rfl rfl rfl (rc0 hM rfl) rfl rfl rfl ?_
        refine r_if51b cd_262_39 rfl (fun n4 => ?_) (fun n4 => ?_)
        · exact Bool.noConfusion (n4.symm.trans e1)
        · refine r_aldR cd_262_42 rfl rfl ?_
          refine r_ild cd_262_43 rfl rfl ?_
          refine r_cI (c_244 hM hw hI z hz) cd_262_44 rfl rfl rfl (rc0 hM rfl) rfl rfl rfl ?_
          refine r_if52b cd_262_47 rfl (fun n5 => ?_) (fun n5 => ?_)
          · exact Bool.noConfusion (n5.symm.trans e2)
          · refine r_con (v := 0) cd_262_54 rfl (by decide) ?_
            refine r_ild cd_262_55 rfl rfl ?_
            refine r_aldR cd_262_57 rfl rfl ?_
            refine r_get cd_262_58 rfl hM rfl ?_
            refine r_con (v := 6) cd_262_61 rfl (by decide) ?_
            refine r_arr (i := 6) cd_262_63 rfl hw rfl (by omega) rfl ?_
            refine r_con (v := 16) cd_262_64 rfl (by decide) ?_
            refine r_ic61 cd_262_66 rfl (inR_of hI.pn (by decide) (by decide)) ⟨by omega, by omega⟩ (fun n6 => ?_) (fun n6 => ?_)
            · exact absurd n6 (by omega)
            · refine r_aldR cd_262_69 rfl rfl ?_
              refine r_ild cd_262_70 rfl rfl ?_
              refine r_cI (c_202 hM hw hI n hn) cd_262_72 rfl rfl rfl (rc0 hM rfl) rfl rfl rfl ?_
              refine r_con (v := (-1)) cd_262_75 rfl (by decide) ?_
              refine r_ic61 cd_262_76 rfl ⟨by omega, by omega⟩ ⟨by omega, by omega⟩ (fun n7 => ?_) (fun n7 => ?_)
              · refine r_con (v := 0) cd_262_83 rfl (by decide) ?_
                refine r_cI (c_261 hM false false false) cd_262_84 rfl rfl rfl (rc0 hM rfl) rfl rfl rfl ?_
                show RU _ _ _ (_, _, _, _, _, sw _ 226 (.inr (8, Mo (va_up s 15 0))))
                refine r_if51b cd_262_87 rfl (fun n8 => ?_) (fun n8 => ?_)
                · refine r_aldR cd_262_92 rfl rfl ?_
                  refine r_cV (c_252 (sw_at _ _ _) ((sw_ne (by decide)).trans hw) ((sw_ne (by decide)).trans hb)) cd_262_93 rfl rfl rfl (rc0 (sw_at _ _ _) rfl) rfl rfl rfl ?_
                  refine r_aldR cd_262_96 rfl rfl ?_
                  refine r_aldR cd_262_97 rfl rfl ?_
                  refine r_ild cd_262_98 rfl rfl ?_
                  refine r_ild cd_262_99 rfl rfl ?_
                  refine r_ild cd_262_100 rfl rfl ?_
                  refine r_ild cd_262_101 rfl rfl ?_
                  refine r_cI (c_204 ((sw_ne (by decide)).trans (sw_at _ _ _)) ((sw_ne (by decide)).trans ((sw_ne (by decide)).trans hw)) hI g x z n (by omega)) cd_262_103 rfl rfl rfl (rc0 ((sw_ne (by decide)).trans (sw_at _ _ _)) rfl) rfl rfl rfl ?_
                  refine r_cI hrem cd_262_106 rfl rfl rfl (rc0 ((sw_ne (by decide)).trans ((sw_ne (by decide)).trans (sw_at _ _ _))) rfl) rfl rfl rfl ?_
                  exact r_ret cd_262_109 True.intro (rfl)
                · exact absurd n8 (by decide)
              · exact absurd g10 n7
theorem g_263 {h : aH} {s w b0 P : Nat → Int} (hM : h.2.2 226 = .inr (8, Mo s)) (hw : h.2.2 227 = .inl (0, 211, .inl w)) (hb : h.2.2 228 = .inl (0, 211, .inl b0)) (hP : h.2.2 230 = .inl (0, 1688, .inl P)) (hI : Inv0 w) (pm : Nat) (hp5 : s 5 = (pm : Int)) (hpm : pm ≤ 8) (p : Nat) (b : Nat)  (g0 : p < nP w) (g1 : b < nB w) (g2 : whyT w p b = 0) : ∃ s' P', Ct 6 263 [aR 226, aI ((p : Nat) : Int), aI ((b : Nat) : Int)] h (.inl (some (aI (loadOf (putP w p 1 ((b : Nat) : Int)) b))), sw (sw (sw (sw (sw h 226 (.inr (8, Mo (va_up s 15 0)))) 228 (.inl (0, 211, .inl (cpF w 0 0 0 211 b0)))) 227 (.inl (0, 211, .inl (putP w p 1 ((b : Nat) : Int))))) 230 (.inl (0, 1688, .inl P'))) 226 (.inr (8, Mo s'))) ∧ RmP (va_up s 15 0) pm P (cpF w 0 0 0 211 b0) s' P' := by
  have hbn := hI.bNe
  have hpn := hI.pNe
  have x0 := hI.len
  have x1 := hI.hour
  have x2 := hI.gas
  have x3 := hI.leak
  have x4 := hI.gn
  have x5 := hI.bn
  have x6 := hI.pn
  have e1 : isPa w ((p : Nat) : Int) = true := isPa_iff.mpr (by omega)
  have e2 : isBa w ((b : Nat) : Int) = true := isBa_iff.mpr (by omega)
  have e3 := whyT_0 g2
  obtain ⟨s9, P9, hrem, hrp⟩ := c_253 (h := (sw (sw (sw h 226 (.inr (8, Mo (va_up s 15 0)))) 228 (.inl (0, 211, .inl (cpF w 0 0 0 211 b0)))) 227 (.inl (0, 211, .inl (putP w p 1 ((b : Nat) : Int)))))) (s := (va_up s 15 0)) (b := cpF w 0 0 0 211 b0) (P := P) (loadOf (putP w p 1 ((b : Nat) : Int)) b) ((sw_ne (by decide)).trans ((sw_ne (by decide)).trans (sw_at _ _ _))) ((sw_ne (by decide)).trans (sw_at _ _ _)) ((sw_ne (by decide)).trans ((sw_ne (by decide)).trans ((sw_ne (by decide)).trans hP))) pm ((vu_ne (by decide)).trans hp5) hpm
  refine ⟨s9, P9, Ct.of [aR 226, aI ((p : Nat) : Int), aI ((b : Nat) : Int), aU] rfl ?_, hrp⟩
  refine r_aldR cd_263_0 rfl rfl ?_
  refine r_ild cd_263_1 rfl rfl ?_
  refine r_cI (c_264 hM hw hI ((p : Nat) : Int) ⟨by omega, by omega⟩) cd_263_2 rfl rfl rfl (rc0 hM rfl) rfl rfl rfl ?_
  refine r_if51b cd_263_5 rfl (fun n1 => ?_) (fun n1 => ?_)
  · exact Bool.noConfusion (n1.symm.trans e1)
  · refine r_aldR cd_263_8 rfl rfl ?_
    refine r_ild cd_263_9 rfl rfl ?_
    refine r_cI (c_265 hM hw hI ((b : Nat) : Int) ⟨by omega, by omega⟩) cd_263_10 rfl rfl rfl (rc0 hM rfl) rfl rfl rfl ?_
    refine r_if51b cd_263_13 rfl (fun n2 => ?_) (fun n2 => ?_)
    · exact Bool.noConfusion (n2.symm.trans e2)
    · refine r_con (v := 1) cd_263_16 rfl (by decide) ?_
      refine r_goto cd_263_17 ?_
      refine r_ist cd_263_21 rfl rfl (L' := [aR 226, aI ((p : Nat) : Int), aI ((b : Nat) : Int), aI 1]) rfl ?_
      refine r_aldR cd_263_22 rfl rfl ?_
      refine r_ild cd_263_23 rfl rfl ?_
      refine r_if52 cd_263_24 rfl ⟨by omega, by omega⟩ (fun n3 => ?_) (fun n3 => ?_)
      · exact absurd n3 (by decide)
      · refine r_con (v := 0) cd_263_31 rfl (by decide) ?_
        refine r_ild cd_263_32 rfl rfl ?_
        refine r_if51 cd_263_33 rfl ⟨by omega, by omega⟩ (fun n4 => ?_) (fun n4 => ?_)
        · exact absurd n4 (by decide)
        · refine r_aldR cd_263_36 rfl rfl ?_
          refine r_ild cd_263_37 rfl rfl ?_
          refine r_ild cd_263_38 rfl rfl ?_
          refine r_cI (c_208 hM hw hI p b (by omega) (by omega)) cd_263_39 rfl rfl rfl (rc0 hM rfl) rfl rfl rfl ?_
          refine r_if51 cd_263_42 rfl (inR_of (whyT_b _ _ _) (by decide) (by decide)) (fun n5 => ?_) (fun n5 => ?_)
          · refine r_con (v := 0) cd_263_49 rfl (by decide) ?_
            refine r_cI (c_255 hM false false) cd_263_50 rfl rfl rfl (rc0 hM rfl) rfl rfl rfl ?_
            show RU _ _ _ (_, _, _, _, _, sw _ 226 (.inr (8, Mo (va_up s 15 0))))
            refine r_if51b cd_263_53 rfl (fun n6 => ?_) (fun n6 => ?_)
            · refine r_aldR cd_263_58 rfl rfl ?_
              refine r_cV (c_252 (sw_at _ _ _) ((sw_ne (by decide)).trans hw) ((sw_ne (by decide)).trans hb)) cd_263_59 rfl rfl rfl (rc0 (sw_at _ _ _) rfl) rfl rfl rfl ?_
              refine r_aldR cd_263_62 rfl rfl ?_
              refine r_aldR cd_263_63 rfl rfl ?_
              refine r_ild cd_263_64 rfl rfl ?_
              refine r_ild cd_263_65 rfl rfl ?_
              refine r_cI (c_214 ((sw_ne (by decide)).trans (sw_at _ _ _)) ((sw_ne (by decide)).trans ((sw_ne (by decide)).trans hw)) hI p b (by omega) (by omega) (by omega)) cd_263_66 rfl rfl rfl (rc0 ((sw_ne (by decide)).trans (sw_at _ _ _)) rfl) rfl rfl rfl ?_
              refine r_cI hrem cd_263_69 rfl rfl rfl (rc0 ((sw_ne (by decide)).trans ((sw_ne (by decide)).trans (sw_at _ _ _))) rfl) rfl rfl rfl ?_
              exact r_ret cd_263_72 True.intro (rfl)
            · exact absurd n6 (by decide)
          · exact absurd g2 n5
theorem g_266 {h : aH} {s w b0 P : Nat → Int} (hM : h.2.2 226 = .inr (8, Mo s)) (hw : h.2.2 227 = .inl (0, 211, .inl w)) (hb : h.2.2 228 = .inl (0, 211, .inl b0)) (hP : h.2.2 230 = .inl (0, 1688, .inl P)) (hI : Inv0 w) (pm : Nat) (hp5 : s 5 = (pm : Int)) (hpm : pm ≤ 8) (p : Nat)  (g0 : p < nP w) (g1 : canU w p = true) : ∃ s' P', Ct 3 266 [aR 226, aI ((p : Nat) : Int)] h (.inl (some (aI (pa w p 5))), sw (sw (sw (sw (sw h 226 (.inr (8, Mo (va_up s 15 0)))) 228 (.inl (0, 211, .inl (cpF w 0 0 0 211 b0)))) 227 (.inl (0, 211, .inl (untW w p)))) 230 (.inl (0, 1688, .inl P'))) 226 (.inr (8, Mo s'))) ∧ RmP (va_up s 15 0) pm P (cpF w 0 0 0 211 b0) s' P' := by
  have hbn := hI.bNe
  have hpn := hI.pNe
  have x0 := hI.len
  have x1 := hI.hour
  have x2 := hI.gas
  have x3 := hI.leak
  have x4 := hI.gn
  have x5 := hI.bn
  have x6 := hI.pn
  have e1 : isPa w ((p : Nat) : Int) = true := isPa_iff.mpr (by omega)
  have e3 := canU_iff.mp g1
  have hp0 := hI.ps p g0
  obtain ⟨s9, P9, hrem, hrp⟩ := c_253 (h := (sw (sw (sw h 226 (.inr (8, Mo (va_up s 15 0)))) 228 (.inl (0, 211, .inl (cpF w 0 0 0 211 b0)))) 227 (.inl (0, 211, .inl (untW w p))))) (s := (va_up s 15 0)) (b := cpF w 0 0 0 211 b0) (P := P) (pa w p 5) ((sw_ne (by decide)).trans ((sw_ne (by decide)).trans (sw_at _ _ _))) ((sw_ne (by decide)).trans (sw_at _ _ _)) ((sw_ne (by decide)).trans ((sw_ne (by decide)).trans ((sw_ne (by decide)).trans hP))) pm ((vu_ne (by decide)).trans hp5) hpm
  refine ⟨s9, P9, Ct.of [aR 226, aI ((p : Nat) : Int), aU] rfl ?_, hrp⟩
  refine r_aldR cd_266_0 rfl rfl ?_
  refine r_ild cd_266_1 rfl rfl ?_
  refine r_cI (c_264 hM hw hI ((p : Nat) : Int) ⟨by omega, by omega⟩) cd_266_2 rfl rfl rfl (rc0 hM rfl) rfl rfl rfl ?_
  refine r_ist cd_266_5 rfl rfl (L' := [aR 226, aI ((p : Nat) : Int), aI (bz (isPa w ((p : Nat) : Int)))]) rfl ?_
  refine r_aldR cd_266_6 rfl rfl ?_
  refine r_ild cd_266_7 rfl rfl ?_
  refine r_if52b cd_266_8 rfl (fun n1 => ?_) (fun n1 => ?_)
  · exact Bool.noConfusion (n1.symm.trans e1)
  · refine r_con (v := 0) cd_266_15 rfl (by decide) ?_
    refine r_ild cd_266_16 rfl rfl ?_
    refine r_if51b cd_266_17 rfl (fun n2 => ?_) (fun n2 => ?_)
    · exact Bool.noConfusion (n2.symm.trans n1)
    · refine r_aldR cd_266_20 rfl rfl ?_
      refine r_ild cd_266_21 rfl rfl ?_
      refine r_cI (c_217 hM hw hI p (by omega)) cd_266_22 rfl rfl rfl (rc0 hM rfl) rfl rfl rfl ?_
      refine r_if52b cd_266_25 rfl (fun n3 => ?_) (fun n3 => ?_)
      · exact Bool.noConfusion (n3.symm.trans g1)
      · refine r_con (v := 0) cd_266_32 rfl (by decide) ?_
        refine r_cI (c_255 hM false false) cd_266_33 rfl rfl rfl (rc0 hM rfl) rfl rfl rfl ?_
        show RU _ _ _ (_, _, _, _, _, sw _ 226 (.inr (8, Mo (va_up s 15 0))))
        refine r_if51b cd_266_36 rfl (fun n4 => ?_) (fun n4 => ?_)
        · refine r_aldR cd_266_41 rfl rfl ?_
          refine r_cV (c_252 (sw_at _ _ _) ((sw_ne (by decide)).trans hw) ((sw_ne (by decide)).trans hb)) cd_266_42 rfl rfl rfl (rc0 (sw_at _ _ _) rfl) rfl rfl rfl ?_
          refine r_aldR cd_266_45 rfl rfl ?_
          refine r_aldR cd_266_46 rfl rfl ?_
          refine r_ild cd_266_47 rfl rfl ?_
          refine r_cI (c_218 ((sw_ne (by decide)).trans (sw_at _ _ _)) ((sw_ne (by decide)).trans ((sw_ne (by decide)).trans hw)) hI p (by omega) (by omega)) cd_266_48 rfl rfl rfl (rc0 ((sw_ne (by decide)).trans (sw_at _ _ _)) rfl) rfl rfl rfl ?_
          refine r_cI hrem cd_266_51 rfl rfl rfl (rc0 ((sw_ne (by decide)).trans ((sw_ne (by decide)).trans (sw_at _ _ _))) rfl) rfl rfl rfl ?_
          exact r_ret cd_266_54 True.intro (rfl)
        · exact absurd n4 (by decide)
theorem g_267 {h : aH} {s w b0 P : Nat → Int} (hM : h.2.2 226 = .inr (8, Mo s)) (hw : h.2.2 227 = .inl (0, 211, .inl w)) (hb : h.2.2 228 = .inl (0, 211, .inl b0)) (hP : h.2.2 230 = .inl (0, 1688, .inl P)) (hI : Inv0 w) (pm : Nat) (hp5 : s 5 = (pm : Int)) (hpm : pm ≤ 8) (b : Nat)  (g0 : b < nB w) (g1 : whyL w b = 0) : ∃ s' P', Ct 7 267 [aR 226, aI ((b : Nat) : Int)] h (.inl (some (aI (hOf (sbo w b 3 1) b))), sw (sw (sw (sw (sw h 226 (.inr (8, Mo (va_up s 15 0)))) 228 (.inl (0, 211, .inl (cpF w 0 0 0 211 b0)))) 227 (.inl (0, 211, .inl (sbo w b 3 1)))) 230 (.inl (0, 1688, .inl P'))) 226 (.inr (8, Mo s'))) ∧ RmP (va_up s 15 0) pm P (cpF w 0 0 0 211 b0) s' P' := by
  have hbn := hI.bNe
  have hpn := hI.pNe
  have x0 := hI.len
  have x1 := hI.hour
  have x2 := hI.gas
  have x3 := hI.leak
  have x4 := hI.gn
  have x5 := hI.bn
  have x6 := hI.pn
  have e1 : isBa w ((b : Nat) : Int) = true := isBa_iff.mpr (by omega)
  obtain ⟨s9, P9, hrem, hrp⟩ := c_253 (h := (sw (sw (sw h 226 (.inr (8, Mo (va_up s 15 0)))) 228 (.inl (0, 211, .inl (cpF w 0 0 0 211 b0)))) 227 (.inl (0, 211, .inl (sbo w b 3 1))))) (s := (va_up s 15 0)) (b := cpF w 0 0 0 211 b0) (P := P) (hOf (sbo w b 3 1) b) ((sw_ne (by decide)).trans ((sw_ne (by decide)).trans (sw_at _ _ _))) ((sw_ne (by decide)).trans (sw_at _ _ _)) ((sw_ne (by decide)).trans ((sw_ne (by decide)).trans ((sw_ne (by decide)).trans hP))) pm ((vu_ne (by decide)).trans hp5) hpm
  refine ⟨s9, P9, Ct.of [aR 226, aI ((b : Nat) : Int), aU] rfl ?_, hrp⟩
  refine r_aldR cd_267_0 rfl rfl ?_
  refine r_ild cd_267_1 rfl rfl ?_
  refine r_cI (c_265 hM hw hI ((b : Nat) : Int) ⟨by omega, by omega⟩) cd_267_2 rfl rfl rfl (rc0 hM rfl) rfl rfl rfl ?_
  refine r_ist cd_267_5 rfl rfl (L' := [aR 226, aI ((b : Nat) : Int), aI (bz (isBa w ((b : Nat) : Int)))]) rfl ?_
  refine r_aldR cd_267_6 rfl rfl ?_
  refine r_ild cd_267_7 rfl rfl ?_
  refine r_if52b cd_267_8 rfl (fun n1 => ?_) (fun n1 => ?_)
  · exact Bool.noConfusion (n1.symm.trans e1)
  · refine r_con (v := 0) cd_267_15 rfl (by decide) ?_
    refine r_ild cd_267_16 rfl rfl ?_
    refine r_if51b cd_267_17 rfl (fun n2 => ?_) (fun n2 => ?_)
    · exact Bool.noConfusion (n2.symm.trans n1)
    · refine r_aldR cd_267_20 rfl rfl ?_
      refine r_ild cd_267_21 rfl rfl ?_
      refine r_cI (c_220 hM hw hI b (by omega)) cd_267_22 rfl rfl rfl (rc0 hM rfl) rfl rfl rfl ?_
      refine r_if51 cd_267_25 rfl (inR_of (whyL_b _ _) (by decide) (by decide)) (fun n3 => ?_) (fun n3 => ?_)
      · refine r_con (v := 0) cd_267_32 rfl (by decide) ?_
        refine r_cI (c_255 hM false false) cd_267_33 rfl rfl rfl (rc0 hM rfl) rfl rfl rfl ?_
        show RU _ _ _ (_, _, _, _, _, sw _ 226 (.inr (8, Mo (va_up s 15 0))))
        refine r_if51b cd_267_36 rfl (fun n4 => ?_) (fun n4 => ?_)
        · refine r_aldR cd_267_41 rfl rfl ?_
          refine r_cV (c_252 (sw_at _ _ _) ((sw_ne (by decide)).trans hw) ((sw_ne (by decide)).trans hb)) cd_267_42 rfl rfl rfl (rc0 (sw_at _ _ _) rfl) rfl rfl rfl ?_
          refine r_aldR cd_267_45 rfl rfl ?_
          refine r_aldR cd_267_46 rfl rfl ?_
          refine r_ild cd_267_47 rfl rfl ?_
          refine r_cI (c_222 ((sw_ne (by decide)).trans (sw_at _ _ _)) ((sw_ne (by decide)).trans ((sw_ne (by decide)).trans hw)) hI b (by omega)) cd_267_48 rfl rfl rfl (rc0 ((sw_ne (by decide)).trans (sw_at _ _ _)) rfl) rfl rfl rfl ?_
          refine r_cI hrem cd_267_51 rfl rfl rfl (rc0 ((sw_ne (by decide)).trans ((sw_ne (by decide)).trans (sw_at _ _ _))) rfl) rfl rfl rfl ?_
          exact r_ret cd_267_54 True.intro (rfl)
        · exact absurd n4 (by decide)
      · exact absurd g1 n3
theorem g_268 {h : aH} {s w b0 P : Nat → Int} (hM : h.2.2 226 = .inr (8, Mo s)) (hw : h.2.2 227 = .inl (0, 211, .inl w)) (hb : h.2.2 228 = .inl (0, 211, .inl b0)) (hP : h.2.2 230 = .inl (0, 1688, .inl P)) (hI : Inv0 w) (pm : Nat) (hp5 : s 5 = (pm : Int)) (hpm : pm ≤ 8) (b : Nat)  (g0 : b < nB w) (g1 : bo w b 3 = 1) : ∃ s' P', Ct 3 268 [aR 226, aI ((b : Nat) : Int)] h (.inl (some (aI (bo (sbo w b 3 0) b 0))), sw (sw (sw (sw (sw h 226 (.inr (8, Mo (va_up s 15 0)))) 228 (.inl (0, 211, .inl (cpF w 0 0 0 211 b0)))) 227 (.inl (0, 211, .inl (sbo w b 3 0)))) 230 (.inl (0, 1688, .inl P'))) 226 (.inr (8, Mo s'))) ∧ RmP (va_up s 15 0) pm P (cpF w 0 0 0 211 b0) s' P' := by
  have hbn := hI.bNe
  have hpn := hI.pNe
  have x0 := hI.len
  have x1 := hI.hour
  have x2 := hI.gas
  have x3 := hI.leak
  have x4 := hI.gn
  have x5 := hI.bn
  have x6 := hI.pn
  have e1 : isBa w ((b : Nat) : Int) = true := isBa_iff.mpr (by omega)
  obtain ⟨s9, P9, hrem, hrp⟩ := c_253 (h := (sw (sw (sw h 226 (.inr (8, Mo (va_up s 15 0)))) 228 (.inl (0, 211, .inl (cpF w 0 0 0 211 b0)))) 227 (.inl (0, 211, .inl (sbo w b 3 0))))) (s := (va_up s 15 0)) (b := cpF w 0 0 0 211 b0) (P := P) (bo (sbo w b 3 0) b 0) ((sw_ne (by decide)).trans ((sw_ne (by decide)).trans (sw_at _ _ _))) ((sw_ne (by decide)).trans (sw_at _ _ _)) ((sw_ne (by decide)).trans ((sw_ne (by decide)).trans ((sw_ne (by decide)).trans hP))) pm ((vu_ne (by decide)).trans hp5) hpm
  refine ⟨s9, P9, Ct.of [aR 226, aI ((b : Nat) : Int), aU] rfl ?_, hrp⟩
  refine r_aldR cd_268_0 rfl rfl ?_
  refine r_ild cd_268_1 rfl rfl ?_
  refine r_cI (c_265 hM hw hI ((b : Nat) : Int) ⟨by omega, by omega⟩) cd_268_2 rfl rfl rfl (rc0 hM rfl) rfl rfl rfl ?_
  refine r_ist cd_268_5 rfl rfl (L' := [aR 226, aI ((b : Nat) : Int), aI (bz (isBa w ((b : Nat) : Int)))]) rfl ?_
  refine r_aldR cd_268_6 rfl rfl ?_
  refine r_ild cd_268_7 rfl rfl ?_
  refine r_if52b cd_268_8 rfl (fun n1 => ?_) (fun n1 => ?_)
  · exact Bool.noConfusion (n1.symm.trans e1)
  · refine r_con (v := 0) cd_268_15 rfl (by decide) ?_
    refine r_ild cd_268_16 rfl rfl ?_
    refine r_if51b cd_268_17 rfl (fun n2 => ?_) (fun n2 => ?_)
    · exact Bool.noConfusion (n2.symm.trans n1)
    · refine r_aldR cd_268_20 rfl rfl ?_
      refine r_ild cd_268_21 rfl rfl ?_
      refine r_con (v := 3) cd_268_22 rfl (by decide) ?_
      refine r_cI (c_209 hM hw b 3 (by omega)) cd_268_23 rfl rfl rfl (rc0 hM rfl) rfl rfl rfl ?_
      refine r_con (v := 1) cd_268_26 rfl (by decide) ?_
      refine r_ic61 cd_268_27 rfl (hI.boR (by omega) (by omega)) ⟨by omega, by omega⟩ (fun n3 => ?_) (fun n3 => ?_)
      · refine r_con (v := 0) cd_268_34 rfl (by decide) ?_
        refine r_cI (c_255 hM false false) cd_268_35 rfl rfl rfl (rc0 hM rfl) rfl rfl rfl ?_
        show RU _ _ _ (_, _, _, _, _, sw _ 226 (.inr (8, Mo (va_up s 15 0))))
        refine r_if51b cd_268_38 rfl (fun n4 => ?_) (fun n4 => ?_)
        · refine r_aldR cd_268_43 rfl rfl ?_
          refine r_cV (c_252 (sw_at _ _ _) ((sw_ne (by decide)).trans hw) ((sw_ne (by decide)).trans hb)) cd_268_44 rfl rfl rfl (rc0 (sw_at _ _ _) rfl) rfl rfl rfl ?_
          refine r_aldR cd_268_47 rfl rfl ?_
          refine r_aldR cd_268_48 rfl rfl ?_
          refine r_ild cd_268_49 rfl rfl ?_
          refine r_cI (c_224 ((sw_ne (by decide)).trans (sw_at _ _ _)) ((sw_ne (by decide)).trans ((sw_ne (by decide)).trans hw)) b (by omega)) cd_268_50 rfl rfl rfl (rc0 ((sw_ne (by decide)).trans (sw_at _ _ _)) rfl) rfl rfl rfl ?_
          refine r_cI hrem cd_268_53 rfl rfl rfl (rc0 ((sw_ne (by decide)).trans ((sw_ne (by decide)).trans (sw_at _ _ _))) rfl) rfl rfl rfl ?_
          exact r_ret cd_268_56 True.intro (rfl)
        · exact absurd n4 (by decide)
      · exact absurd g1 n3
theorem g_269 {h : aH} {s w b0 P : Nat → Int} (hM : h.2.2 226 = .inr (8, Mo s)) (hw : h.2.2 227 = .inl (0, 211, .inl w)) (hb : h.2.2 228 = .inl (0, 211, .inl b0)) (hP : h.2.2 230 = .inl (0, 1688, .inl P)) (hI : Inv0 w) (pm : Nat) (hp5 : s 5 = (pm : Int)) (hpm : pm ≤ 8) (b : Nat)  (g0 : b < nB w) (g1 : bo w b 3 = 2) : ∃ s' P', Ct 7 269 [aR 226, aI ((b : Nat) : Int)] h (.inl (some (aI (freeN w b))), sw (sw (sw (sw (sw h 226 (.inr (8, Mo (va_up s 15 0)))) 228 (.inl (0, 211, .inl (cpF w 0 0 0 211 b0)))) 227 (.inl (0, 211, .inl (freeW w b)))) 230 (.inl (0, 1688, .inl P'))) 226 (.inr (8, Mo s'))) ∧ RmP (va_up s 15 0) pm P (cpF w 0 0 0 211 b0) s' P' := by
  have hbn := hI.bNe
  have hpn := hI.pNe
  have x0 := hI.len
  have x1 := hI.hour
  have x2 := hI.gas
  have x3 := hI.leak
  have x4 := hI.gn
  have x5 := hI.bn
  have x6 := hI.pn
  have e1 : isBa w ((b : Nat) : Int) = true := isBa_iff.mpr (by omega)
  obtain ⟨s9, P9, hrem, hrp⟩ := c_253 (h := (sw (sw (sw h 226 (.inr (8, Mo (va_up s 15 0)))) 228 (.inl (0, 211, .inl (cpF w 0 0 0 211 b0)))) 227 (.inl (0, 211, .inl (freeW w b))))) (s := (va_up s 15 0)) (b := cpF w 0 0 0 211 b0) (P := P) (freeN w b) ((sw_ne (by decide)).trans ((sw_ne (by decide)).trans (sw_at _ _ _))) ((sw_ne (by decide)).trans (sw_at _ _ _)) ((sw_ne (by decide)).trans ((sw_ne (by decide)).trans ((sw_ne (by decide)).trans hP))) pm ((vu_ne (by decide)).trans hp5) hpm
  refine ⟨s9, P9, Ct.of [aR 226, aI ((b : Nat) : Int), aU] rfl ?_, hrp⟩
  refine r_aldR cd_269_0 rfl rfl ?_
  refine r_ild cd_269_1 rfl rfl ?_
  refine r_cI (c_265 hM hw hI ((b : Nat) : Int) ⟨by omega, by omega⟩) cd_269_2 rfl rfl rfl (rc0 hM rfl) rfl rfl rfl ?_
  refine r_ist cd_269_5 rfl rfl (L' := [aR 226, aI ((b : Nat) : Int), aI (bz (isBa w ((b : Nat) : Int)))]) rfl ?_
  refine r_aldR cd_269_6 rfl rfl ?_
  refine r_ild cd_269_7 rfl rfl ?_
  refine r_if52b cd_269_8 rfl (fun n1 => ?_) (fun n1 => ?_)
  · exact Bool.noConfusion (n1.symm.trans e1)
  · refine r_con (v := 0) cd_269_15 rfl (by decide) ?_
    refine r_ild cd_269_16 rfl rfl ?_
    refine r_if51b cd_269_17 rfl (fun n2 => ?_) (fun n2 => ?_)
    · exact Bool.noConfusion (n2.symm.trans n1)
    · refine r_aldR cd_269_20 rfl rfl ?_
      refine r_ild cd_269_21 rfl rfl ?_
      refine r_con (v := 3) cd_269_22 rfl (by decide) ?_
      refine r_cI (c_209 hM hw b 3 (by omega)) cd_269_23 rfl rfl rfl (rc0 hM rfl) rfl rfl rfl ?_
      refine r_con (v := 2) cd_269_26 rfl (by decide) ?_
      refine r_ic61 cd_269_27 rfl (hI.boR (by omega) (by omega)) ⟨by omega, by omega⟩ (fun n3 => ?_) (fun n3 => ?_)
      · refine r_con (v := 0) cd_269_34 rfl (by decide) ?_
        refine r_cI (c_255 hM false false) cd_269_35 rfl rfl rfl (rc0 hM rfl) rfl rfl rfl ?_
        show RU _ _ _ (_, _, _, _, _, sw _ 226 (.inr (8, Mo (va_up s 15 0))))
        refine r_if51b cd_269_38 rfl (fun n4 => ?_) (fun n4 => ?_)
        · refine r_aldR cd_269_43 rfl rfl ?_
          refine r_cV (c_252 (sw_at _ _ _) ((sw_ne (by decide)).trans hw) ((sw_ne (by decide)).trans hb)) cd_269_44 rfl rfl rfl (rc0 (sw_at _ _ _) rfl) rfl rfl rfl ?_
          refine r_aldR cd_269_47 rfl rfl ?_
          refine r_aldR cd_269_48 rfl rfl ?_
          refine r_ild cd_269_49 rfl rfl ?_
          refine r_cI (c_226 ((sw_ne (by decide)).trans (sw_at _ _ _)) ((sw_ne (by decide)).trans ((sw_ne (by decide)).trans hw)) hI b (by omega)) cd_269_50 rfl rfl rfl (rc0 ((sw_ne (by decide)).trans (sw_at _ _ _)) rfl) rfl rfl rfl ?_
          refine r_cI hrem cd_269_53 rfl rfl rfl (rc0 ((sw_ne (by decide)).trans ((sw_ne (by decide)).trans (sw_at _ _ _))) rfl) rfl rfl rfl ?_
          exact r_ret cd_269_56 True.intro (rfl)
        · exact absurd n4 (by decide)
      · exact absurd g1 n3
theorem g_270 {h : aH} {s w b0 P : Nat → Int} (hM : h.2.2 226 = .inr (8, Mo s)) (hw : h.2.2 227 = .inl (0, 211, .inl w)) (hb : h.2.2 228 = .inl (0, 211, .inl b0)) (hP : h.2.2 230 = .inl (0, 1688, .inl P)) (hI : Inv0 w) (pm : Nat) (hp5 : s 5 = (pm : Int)) (hpm : pm ≤ 8) (b : Nat) (l : Int) (hl : inR l)  (g0 : b < nB w) (g1 : 1 ≤ l) (g2 : l ≤ 29) (g3 : canF w b l = true) : ∃ s' P', Ct 3 270 [aR 226, aI ((b : Nat) : Int), aI l] h (.inl (some (aI (bo (fillW w b l) b 1))), sw (sw (sw (sw (sw h 226 (.inr (8, Mo (va_up s 15 0)))) 228 (.inl (0, 211, .inl (cpF w 0 0 0 211 b0)))) 227 (.inl (0, 211, .inl (fillW w b l)))) 230 (.inl (0, 1688, .inl P'))) 226 (.inr (8, Mo s'))) ∧ RmP (va_up s 15 0) pm P (cpF w 0 0 0 211 b0) s' P' := by
  have hbn := hI.bNe
  have hpn := hI.pNe
  have x0 := hI.len
  have x1 := hI.hour
  have x2 := hI.gas
  have x3 := hI.leak
  have x4 := hI.gn
  have x5 := hI.bn
  have x6 := hI.pn
  have e1 : isBa w ((b : Nat) : Int) = true := isBa_iff.mpr (by omega)
  have e2 : inB l 1 29 = true := inB_iff.mpr (by omega)
  obtain ⟨s9, P9, hrem, hrp⟩ := c_253 (h := (sw (sw (sw h 226 (.inr (8, Mo (va_up s 15 0)))) 228 (.inl (0, 211, .inl (cpF w 0 0 0 211 b0)))) 227 (.inl (0, 211, .inl (fillW w b l))))) (s := (va_up s 15 0)) (b := cpF w 0 0 0 211 b0) (P := P) (bo (fillW w b l) b 1) ((sw_ne (by decide)).trans ((sw_ne (by decide)).trans (sw_at _ _ _))) ((sw_ne (by decide)).trans (sw_at _ _ _)) ((sw_ne (by decide)).trans ((sw_ne (by decide)).trans ((sw_ne (by decide)).trans hP))) pm ((vu_ne (by decide)).trans hp5) hpm
  refine ⟨s9, P9, Ct.of [aR 226, aI ((b : Nat) : Int), aI l, aU, aU] rfl ?_, hrp⟩
  refine r_aldR cd_270_0 rfl rfl ?_
  refine r_ild cd_270_1 rfl rfl ?_
  refine r_cI (c_265 hM hw hI ((b : Nat) : Int) ⟨by omega, by omega⟩) cd_270_2 rfl rfl rfl (rc0 hM rfl) rfl rfl rfl ?_
  refine r_ist cd_270_5 rfl rfl (L' := [aR 226, aI ((b : Nat) : Int), aI l, aI (bz (isBa w ((b : Nat) : Int))), aU]) rfl ?_
  refine r_ild cd_270_6 rfl rfl ?_
  refine r_con (v := 1) cd_270_7 rfl (by decide) ?_
  refine r_con (v := 29) cd_270_8 rfl (by decide) ?_
  refine r_cI (c_186 l hl 1 ⟨by omega, by omega⟩ 29 ⟨by omega, by omega⟩) cd_270_10 rfl rfl rfl True.intro rfl rfl rfl ?_
  refine r_if52b cd_270_13 rfl (fun n1 => ?_) (fun n1 => ?_)
  · exact Bool.noConfusion (n1.symm.trans e2)
  · refine r_con (v := 0) cd_270_20 rfl (by decide) ?_
    refine r_ist cd_270_21 rfl rfl (L' := [aR 226, aI ((b : Nat) : Int), aI l, aI (bz (isBa w ((b : Nat) : Int))), aI 0]) rfl ?_
    refine r_aldR cd_270_23 rfl rfl ?_
    refine r_ild cd_270_24 rfl rfl ?_
    refine r_if52b cd_270_25 rfl (fun n2 => ?_) (fun n2 => ?_)
    · exact Bool.noConfusion (n2.symm.trans e1)
    · refine r_con (v := 0) cd_270_32 rfl (by decide) ?_
      refine r_ild cd_270_33 rfl rfl ?_
      refine r_ild cd_270_35 rfl rfl ?_
      refine r_if51b cd_270_36 rfl (fun n3 => ?_) (fun n3 => ?_)
      · exact Bool.noConfusion (n3.symm.trans n2)
      · refine r_ild cd_270_39 rfl rfl ?_
        refine r_if52 cd_270_41 rfl ⟨by omega, by omega⟩ (fun n4 => ?_) (fun n4 => ?_)
        · refine r_aldR cd_270_44 rfl rfl ?_
          refine r_ild cd_270_45 rfl rfl ?_
          refine r_ild cd_270_46 rfl rfl ?_
          refine r_cI (c_231 hM hw hI b l hl (by omega) (by omega) (by omega)) cd_270_47 rfl rfl rfl (rc0 hM rfl) rfl rfl rfl ?_
          refine r_if52b cd_270_50 rfl (fun n5 => ?_) (fun n5 => ?_)
          · exact Bool.noConfusion (n5.symm.trans g3)
          · refine r_con (v := 0) cd_270_57 rfl (by decide) ?_
            refine r_cI (c_261 hM false false false) cd_270_58 rfl rfl rfl (rc0 hM rfl) rfl rfl rfl ?_
            show RU _ _ _ (_, _, _, _, _, sw _ 226 (.inr (8, Mo (va_up s 15 0))))
            refine r_if51b cd_270_61 rfl (fun n6 => ?_) (fun n6 => ?_)
            · refine r_aldR cd_270_66 rfl rfl ?_
              refine r_cV (c_252 (sw_at _ _ _) ((sw_ne (by decide)).trans hw) ((sw_ne (by decide)).trans hb)) cd_270_67 rfl rfl rfl (rc0 (sw_at _ _ _) rfl) rfl rfl rfl ?_
              refine r_aldR cd_270_70 rfl rfl ?_
              refine r_aldR cd_270_71 rfl rfl ?_
              refine r_ild cd_270_72 rfl rfl ?_
              refine r_ild cd_270_73 rfl rfl ?_
              refine r_cI (c_232 ((sw_ne (by decide)).trans (sw_at _ _ _)) ((sw_ne (by decide)).trans ((sw_ne (by decide)).trans hw)) b l (by omega)) cd_270_74 rfl rfl rfl (rc0 ((sw_ne (by decide)).trans (sw_at _ _ _)) rfl) rfl rfl rfl ?_
              refine r_cI hrem cd_270_77 rfl rfl rfl (rc0 ((sw_ne (by decide)).trans ((sw_ne (by decide)).trans (sw_at _ _ _))) rfl) rfl rfl rfl ?_
              exact r_ret cd_270_80 True.intro (rfl)
            · exact absurd n6 (by decide)
        · exact absurd n4 (by decide)
theorem g_271 {h : aH} {s w b0 P : Nat → Int} (hM : h.2.2 226 = .inr (8, Mo s)) (hw : h.2.2 227 = .inl (0, 211, .inl w)) (hb : h.2.2 228 = .inl (0, 211, .inl b0)) (hP : h.2.2 230 = .inl (0, 1688, .inl P)) (hI : Inv0 w) (pm : Nat) (hp5 : s 5 = (pm : Int)) (hpm : pm ≤ 8) (v : Int) (hv : inR v)  (g0 : 1 ≤ v) (g1 : v ≤ 200) (g2 : w 2 + v ≤ 999) : ∃ s' P', Ct 2 271 [aR 226, aI v] h (.inl (some (aI (va_up w 2 (w 2 + v) 2))), sw (sw (sw (sw (sw h 226 (.inr (8, Mo (va_up s 15 0)))) 228 (.inl (0, 211, .inl (cpF w 0 0 0 211 b0)))) 227 (.inl (0, 211, .inl (va_up w 2 (w 2 + v))))) 230 (.inl (0, 1688, .inl P'))) 226 (.inr (8, Mo s'))) ∧ RmP (va_up s 15 0) pm P (cpF w 0 0 0 211 b0) s' P' := by
  have hbn := hI.bNe
  have hpn := hI.pNe
  have x0 := hI.len
  have x1 := hI.hour
  have x2 := hI.gas
  have x3 := hI.leak
  have x4 := hI.gn
  have x5 := hI.bn
  have x6 := hI.pn
  have e1 : inB v 1 200 = true := inB_iff.mpr (by omega)
  obtain ⟨s9, P9, hrem, hrp⟩ := c_253 (h := (sw (sw (sw h 226 (.inr (8, Mo (va_up s 15 0)))) 228 (.inl (0, 211, .inl (cpF w 0 0 0 211 b0)))) 227 (.inl (0, 211, .inl (va_up w 2 (w 2 + v)))))) (s := (va_up s 15 0)) (b := cpF w 0 0 0 211 b0) (P := P) (va_up w 2 (w 2 + v) 2) ((sw_ne (by decide)).trans ((sw_ne (by decide)).trans (sw_at _ _ _))) ((sw_ne (by decide)).trans (sw_at _ _ _)) ((sw_ne (by decide)).trans ((sw_ne (by decide)).trans ((sw_ne (by decide)).trans hP))) pm ((vu_ne (by decide)).trans hp5) hpm
  refine ⟨s9, P9, Ct.of [aR 226, aI v, aU] rfl ?_, hrp⟩
  refine r_ild cd_271_0 rfl rfl ?_
  refine r_con (v := 1) cd_271_1 rfl (by decide) ?_
  refine r_con (v := 200) cd_271_2 rfl (by decide) ?_
  refine r_cI (c_186 v hv 1 ⟨by omega, by omega⟩ 200 ⟨by omega, by omega⟩) cd_271_5 rfl rfl rfl True.intro rfl rfl rfl ?_
  refine r_if52b cd_271_8 rfl (fun n1 => ?_) (fun n1 => ?_)
  · exact Bool.noConfusion (n1.symm.trans e1)
  · refine r_con (v := 0) cd_271_15 rfl (by decide) ?_
    refine r_ist cd_271_16 rfl rfl (L' := [aR 226, aI v, aI 0]) rfl ?_
    refine r_aldR cd_271_17 rfl rfl ?_
    refine r_ild cd_271_18 rfl rfl ?_
    refine r_ild cd_271_19 rfl rfl ?_
    refine r_if52 cd_271_20 rfl ⟨by omega, by omega⟩ (fun n2 => ?_) (fun n2 => ?_)
    · refine r_aldR cd_271_23 rfl rfl ?_
      refine r_get cd_271_24 rfl hM rfl ?_
      refine r_con (v := 2) cd_271_27 rfl (by decide) ?_
      refine r_arr (i := 2) cd_271_28 rfl hw rfl (by omega) rfl ?_
      refine r_ild cd_271_29 rfl rfl ?_
      refine r_add (v := (w 2) + v) cd_271_30 rfl (by rfl) ?_
      refine r_con (v := 999) cd_271_31 rfl (by decide) ?_
      refine r_ic66 cd_271_34 rfl ⟨by omega, by omega⟩ ⟨by omega, by omega⟩ (fun n3 => ?_) (fun n3 => ?_)
      · exact absurd n3 (by omega)
      · refine r_con (v := 0) cd_271_41 rfl (by decide) ?_
        refine r_cI (c_255 hM false false) cd_271_42 rfl rfl rfl (rc0 hM rfl) rfl rfl rfl ?_
        show RU _ _ _ (_, _, _, _, _, sw _ 226 (.inr (8, Mo (va_up s 15 0))))
        refine r_if51b cd_271_45 rfl (fun n4 => ?_) (fun n4 => ?_)
        · refine r_aldR cd_271_50 rfl rfl ?_
          refine r_cV (c_252 (sw_at _ _ _) ((sw_ne (by decide)).trans hw) ((sw_ne (by decide)).trans hb)) cd_271_51 rfl rfl rfl (rc0 (sw_at _ _ _) rfl) rfl rfl rfl ?_
          refine r_aldR cd_271_54 rfl rfl ?_
          refine r_get cd_271_55 rfl ((sw_ne (by decide)).trans (sw_at _ _ _)) rfl ?_
          refine r_con (v := 2) cd_271_58 rfl (by decide) ?_
          refine r_dup2 cd_271_59 rfl rfl rfl ?_
          refine r_arr (i := 2) cd_271_60 rfl ((sw_ne (by decide)).trans ((sw_ne (by decide)).trans hw)) rfl (by omega) rfl ?_
          refine r_ild cd_271_61 rfl rfl ?_
          refine r_add (v := (w 2) + v) cd_271_62 rfl (by rfl) ?_
          refine r_arsI (i := 2) cd_271_63 rfl rfl ((sw_ne (by decide)).trans ((sw_ne (by decide)).trans hw)) rfl (by omega) rfl ?_
          refine r_aldR cd_271_64 rfl rfl ?_
          refine r_aldR cd_271_65 rfl rfl ?_
          refine r_get cd_271_66 rfl ((sw_ne (by decide)).trans ((sw_ne (by decide)).trans (sw_at _ _ _))) rfl ?_
          refine r_con (v := 2) cd_271_69 rfl (by decide) ?_
          refine r_arr (i := 2) cd_271_70 rfl (sw_at _ _ _) rfl (by omega) rfl ?_
          refine r_cI hrem cd_271_71 rfl rfl rfl (rc0 ((sw_ne (by decide)).trans ((sw_ne (by decide)).trans (sw_at _ _ _))) rfl) rfl rfl rfl ?_
          exact r_ret cd_271_74 True.intro (rfl)
        · exact absurd n4 (by decide)
    · exact absurd n2 (by decide)
theorem g_272 {h : aH} {s w b0 P : Nat → Int} (hM : h.2.2 226 = .inr (8, Mo s)) (hw : h.2.2 227 = .inl (0, 211, .inl w)) (hb : h.2.2 228 = .inl (0, 211, .inl b0)) (hP : h.2.2 230 = .inl (0, 1688, .inl P)) (hI : Inv0 w) (pm : Nat) (hp5 : s 5 = (pm : Int)) (hpm : pm ≤ 8) (x : Int) (hx : inR x) (n : Int) (hn : inR n) (p : Nat) (g0 : 0 ≤ x) (g1 : x < w 0) (g2 : foundP w x n = ((p : Nat) : Int)) : ∃ s' P', Ct 4 272 [aR 226, aI x, aI n] h (.inl (some (aI (paid w p))), sw (sw (sw (sw (sw h 226 (.inr (8, Mo (va_up s 15 0)))) 228 (.inl (0, 211, .inl (cpF w 0 0 0 211 b0)))) 227 (.inl (0, 211, .inl (clmW w p)))) 230 (.inl (0, 1688, .inl P'))) 226 (.inr (8, Mo s'))) ∧ RmP (va_up s 15 0) pm P (cpF w 0 0 0 211 b0) s' P' := by
  have hbn := hI.bNe
  have hpn := hI.pNe
  have x0 := hI.len
  have x1 := hI.hour
  have x2 := hI.gas
  have x3 := hI.leak
  have x4 := hI.gn
  have x5 := hI.bn
  have x6 := hI.pn
  have e1 : isPl w x = true := isPl_iff.mpr (by omega)
  have e2 := foundP_b (w := w) x n
  obtain ⟨s9, P9, hrem, hrp⟩ := c_253 (h := (sw (sw (sw h 226 (.inr (8, Mo (va_up s 15 0)))) 228 (.inl (0, 211, .inl (cpF w 0 0 0 211 b0)))) 227 (.inl (0, 211, .inl (clmW w p))))) (s := (va_up s 15 0)) (b := cpF w 0 0 0 211 b0) (P := P) (paid w p) ((sw_ne (by decide)).trans ((sw_ne (by decide)).trans (sw_at _ _ _))) ((sw_ne (by decide)).trans (sw_at _ _ _)) ((sw_ne (by decide)).trans ((sw_ne (by decide)).trans ((sw_ne (by decide)).trans hP))) pm ((vu_ne (by decide)).trans hp5) hpm
  refine ⟨s9, P9, Ct.of [aR 226, aI x, aI n, aU] rfl ?_, hrp⟩
  refine r_aldR cd_272_0 rfl rfl ?_
  refine r_ild cd_272_1 rfl rfl ?_
  refine r_cI (c_244 hM hw hI x hx) cd_272_2 rfl rfl rfl (rc0 hM rfl) rfl rfl rfl ?_
  refine r_ist cd_272_5 rfl rfl (L' := [aR 226, aI x, aI n, aI (bz (isPl w x))]) rfl ?_
  refine r_aldR cd_272_6 rfl rfl ?_
  refine r_ild cd_272_7 rfl rfl ?_
  refine r_if52b cd_272_8 rfl (fun n1 => ?_) (fun n1 => ?_)
  · exact Bool.noConfusion (n1.symm.trans e1)
  · refine r_con (v := 0) cd_272_15 rfl (by decide) ?_
    refine r_ild cd_272_16 rfl rfl ?_
    refine r_if51b cd_272_17 rfl (fun n2 => ?_) (fun n2 => ?_)
    · exact Bool.noConfusion (n2.symm.trans n1)
    · refine r_aldR cd_272_20 rfl rfl ?_
      refine r_ild cd_272_21 rfl rfl ?_
      refine r_ild cd_272_22 rfl rfl ?_
      refine r_cI (c_235 hM hw hI x hx n hn) cd_272_23 rfl rfl rfl (rc0 hM rfl) rfl rfl rfl ?_
      refine r_con (v := (-1)) cd_272_26 rfl (by decide) ?_
      refine r_ic62 cd_272_27 rfl ⟨by omega, by omega⟩ ⟨by omega, by omega⟩ (fun n3 => ?_) (fun n3 => ?_)
      · exact absurd n3 (by omega)
      · refine r_con (v := 0) cd_272_34 rfl (by decide) ?_
        refine r_cI (c_255 hM false false) cd_272_35 rfl rfl rfl (rc0 hM rfl) rfl rfl rfl ?_
        show RU _ _ _ (_, _, _, _, _, sw _ 226 (.inr (8, Mo (va_up s 15 0))))
        refine r_if51b cd_272_38 rfl (fun n4 => ?_) (fun n4 => ?_)
        · refine r_aldR cd_272_43 rfl rfl ?_
          refine r_cV (c_252 (sw_at _ _ _) ((sw_ne (by decide)).trans hw) ((sw_ne (by decide)).trans hb)) cd_272_44 rfl rfl rfl (rc0 (sw_at _ _ _) rfl) rfl rfl rfl ?_
          refine r_aldR cd_272_47 rfl rfl ?_
          refine r_aldR cd_272_48 rfl rfl ?_
          refine r_aldR cd_272_49 rfl rfl ?_
          refine r_ild cd_272_50 rfl rfl ?_
          refine r_ild cd_272_51 rfl rfl ?_
          refine r_cI (c_235 ((sw_ne (by decide)).trans (sw_at _ _ _)) ((sw_ne (by decide)).trans ((sw_ne (by decide)).trans hw)) hI x hx n hn) cd_272_52 rfl rfl rfl (rc0 ((sw_ne (by decide)).trans (sw_at _ _ _)) rfl) rfl rfl rfl ?_
          rw [g2]
          refine r_cI (c_237 ((sw_ne (by decide)).trans (sw_at _ _ _)) ((sw_ne (by decide)).trans ((sw_ne (by decide)).trans hw)) hI p (by omega)) cd_272_55 rfl rfl rfl (rc0 ((sw_ne (by decide)).trans (sw_at _ _ _)) rfl) rfl rfl rfl ?_
          refine r_cI hrem cd_272_58 rfl rfl rfl (rc0 ((sw_ne (by decide)).trans ((sw_ne (by decide)).trans (sw_at _ _ _))) rfl) rfl rfl rfl ?_
          exact r_ret cd_272_61 True.intro (rfl)
        · exact absurd n4 (by decide)
theorem g_273 {h : aH} {s w b0 P : Nat → Int} (hM : h.2.2 226 = .inr (8, Mo s)) (hw : h.2.2 227 = .inl (0, 211, .inl w)) (hb : h.2.2 228 = .inl (0, 211, .inl b0)) (hP : h.2.2 230 = .inl (0, 1688, .inl P)) (hI : Inv0 w) (pm : Nat) (hp5 : s 5 = (pm : Int)) (hpm : pm ≤ 8) (n : Nat)  (g0 : 1 ≤ n) (g1 : n ≤ 24) (g2 : w 1 + n ≤ 999) : ∃ s' P', Ct 8 273 [aR 226, aI ((n : Nat) : Int)] h (.inl (some (aI (passW w n 1))), sw (sw (sw (sw (sw h 226 (.inr (8, Mo (va_up s 15 0)))) 228 (.inl (0, 211, .inl (cpF w 0 0 0 211 b0)))) 227 (.inl (0, 211, .inl (passW w n)))) 230 (.inl (0, 1688, .inl P'))) 226 (.inr (8, Mo s'))) ∧ RmP (va_up s 15 0) pm P (cpF w 0 0 0 211 b0) s' P' := by
  have hbn := hI.bNe
  have hpn := hI.pNe
  have x0 := hI.len
  have x1 := hI.hour
  have x2 := hI.gas
  have x3 := hI.leak
  have x4 := hI.gn
  have x5 := hI.bn
  have x6 := hI.pn
  have e1 : inB ((n : Nat) : Int) 1 24 = true := inB_iff.mpr (by omega)
  obtain ⟨s9, P9, hrem, hrp⟩ := c_253 (h := (sw (sw (sw h 226 (.inr (8, Mo (va_up s 15 0)))) 228 (.inl (0, 211, .inl (cpF w 0 0 0 211 b0)))) 227 (.inl (0, 211, .inl (passW w n))))) (s := (va_up s 15 0)) (b := cpF w 0 0 0 211 b0) (P := P) (passW w n 1) ((sw_ne (by decide)).trans ((sw_ne (by decide)).trans (sw_at _ _ _))) ((sw_ne (by decide)).trans (sw_at _ _ _)) ((sw_ne (by decide)).trans ((sw_ne (by decide)).trans ((sw_ne (by decide)).trans hP))) pm ((vu_ne (by decide)).trans hp5) hpm
  refine ⟨s9, P9, Ct.of [aR 226, aI ((n : Nat) : Int), aU] rfl ?_, hrp⟩
  refine r_ild cd_273_0 rfl rfl ?_
  refine r_con (v := 1) cd_273_1 rfl (by decide) ?_
  refine r_con (v := 24) cd_273_2 rfl (by decide) ?_
  refine r_cI (c_186 ((n : Nat) : Int) ⟨by omega, by omega⟩ 1 ⟨by omega, by omega⟩ 24 ⟨by omega, by omega⟩) cd_273_4 rfl rfl rfl True.intro rfl rfl rfl ?_
  refine r_if52b cd_273_7 rfl (fun n1 => ?_) (fun n1 => ?_)
  · exact Bool.noConfusion (n1.symm.trans e1)
  · refine r_con (v := 0) cd_273_14 rfl (by decide) ?_
    refine r_ist cd_273_15 rfl rfl (L' := [aR 226, aI ((n : Nat) : Int), aI 0]) rfl ?_
    refine r_aldR cd_273_16 rfl rfl ?_
    refine r_ild cd_273_17 rfl rfl ?_
    refine r_ild cd_273_18 rfl rfl ?_
    refine r_if52 cd_273_19 rfl ⟨by omega, by omega⟩ (fun n2 => ?_) (fun n2 => ?_)
    · refine r_aldR cd_273_22 rfl rfl ?_
      refine r_get cd_273_23 rfl hM rfl ?_
      refine r_con (v := 1) cd_273_26 rfl (by decide) ?_
      refine r_arr (i := 1) cd_273_27 rfl hw rfl (by omega) rfl ?_
      refine r_ild cd_273_28 rfl rfl ?_
      refine r_add (v := (w 1) + ((n : Nat) : Int)) cd_273_29 rfl (by rfl) ?_
      refine r_con (v := 999) cd_273_30 rfl (by decide) ?_
      refine r_ic66 cd_273_33 rfl ⟨by omega, by omega⟩ ⟨by omega, by omega⟩ (fun n3 => ?_) (fun n3 => ?_)
      · exact absurd n3 (by omega)
      · refine r_con (v := 0) cd_273_40 rfl (by decide) ?_
        refine r_cI (c_255 hM false false) cd_273_41 rfl rfl rfl (rc0 hM rfl) rfl rfl rfl ?_
        show RU _ _ _ (_, _, _, _, _, sw _ 226 (.inr (8, Mo (va_up s 15 0))))
        refine r_if51b cd_273_44 rfl (fun n4 => ?_) (fun n4 => ?_)
        · refine r_aldR cd_273_49 rfl rfl ?_
          refine r_cV (c_252 (sw_at _ _ _) ((sw_ne (by decide)).trans hw) ((sw_ne (by decide)).trans hb)) cd_273_50 rfl rfl rfl (rc0 (sw_at _ _ _) rfl) rfl rfl rfl ?_
          refine r_aldR cd_273_53 rfl rfl ?_
          refine r_aldR cd_273_54 rfl rfl ?_
          refine r_ild cd_273_55 rfl rfl ?_
          refine r_cI (c_241 ((sw_ne (by decide)).trans (sw_at _ _ _)) ((sw_ne (by decide)).trans ((sw_ne (by decide)).trans hw)) hI n (by omega) (by omega)) cd_273_56 rfl rfl rfl (rc0 ((sw_ne (by decide)).trans (sw_at _ _ _)) rfl) rfl rfl rfl ?_
          refine r_cI hrem cd_273_59 rfl rfl rfl (rc0 ((sw_ne (by decide)).trans ((sw_ne (by decide)).trans (sw_at _ _ _))) rfl) rfl rfl rfl ?_
          exact r_ret cd_273_62 True.intro (rfl)
        · exact absurd n4 (by decide)
    · exact absurd n2 (by decide)
