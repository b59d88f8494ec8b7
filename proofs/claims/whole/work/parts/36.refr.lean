/-! THE REFERENCE: what is typed, scripts run (written by wip/whole/gen36.py) -/
def byF (x k : Int) : Int := andI (shrI x k) 255
theorem byF_b (x k : Int) : 0 ≤ byF x k ∧ byF x k ≤ 255 := by
  have h : ∀ a : Int32, 0 ≤ (a &&& 255).toInt ∧ (a &&& 255).toInt ≤ 255 := fun a => by
    have e : (a &&& 255).toBitVec = a.toBitVec &&& 255#32 := rfl
    have h1 : (a.toBitVec &&& 255#32).toNat ≤ 255 := by
      rw [BitVec.toNat_and]
      exact Nat.and_le_right
    have h2 : (a &&& 255).toInt = (a.toBitVec &&& 255#32).toInt := rfl
    rw [h2, BitVec.toInt_eq_toNat_of_lt (by omega)]
    omega
  exact h (i32 (shrI x k))
def ty4 (bu : Nat → Int) (T : Nat) (x : Int) : Nat → Int := va_up (va_up (va_up (va_up bu T (byF x 24)) (T + 1) (byF x 16)) (T + 1 + 1) (byF x 8)) (T + 1 + 1 + 1) (byF x 0)
/-- behind typing: the object and the buffer alone are others -/
def RY (h h' : aH) (s' bu' : Nat → Int) : Prop := h'.2.2 226 = .inr (8, Mo s') ∧ h'.2.2 232 = .inl (0, 600, .inl bu') ∧ (∀ a, ¬ a = 226 → ¬ a = 232 → h'.2.2 a = h.2.2 a) ∧ h'.1 = h.1 ∧ h'.2.1 = h.2.1
theorem RY.tr {h h1 h2 : aH} {s1 b1 s2 b2 : Nat → Int} (a : RY h h1 s1 b1) (b : RY h1 h2 s2 b2) : RY h h2 s2 b2 := ⟨b.1, b.2.1, fun q x y => (b.2.2.1 q x y).trans (a.2.2.1 q x y), b.2.2.2.1.trans a.2.2.2.1, b.2.2.2.2.trans a.2.2.2.2⟩
theorem RY.rf {h : aH} {s bu : Nat → Int} (h1 : h.2.2 226 = .inr (8, Mo s)) (h2 : h.2.2 232 = .inl (0, 600, .inl bu)) : RY h h s bu := ⟨h1, h2, fun _ _ _ => rfl, rfl, rfl⟩
theorem RY.s {h h' : aH} {s bu s' : Nat → Int} (r : RY h h' s bu) : RY h (sw h' 226 (.inr (8, Mo s'))) s' bu := ⟨sw_at _ _ _, (sw_ne (by decide)).trans r.2.1, fun a x y => (sw_ne x).trans (r.2.2.1 a x y), r.2.2.2.1, r.2.2.2.2⟩
theorem RY.b {h h' : aH} {s bu bu' : Nat → Int} (r : RY h h' s bu) : RY h (sw h' 232 (.inl (0, 600, .inl bu'))) s bu' := ⟨(sw_ne (by decide)).trans r.1, sw_at _ _ _, fun a x y => (sw_ne y).trans (r.2.2.1 a x y), r.2.2.2.1, r.2.2.2.2⟩
theorem c_248 {h : aH} {s bu : Nat → Int} (hM : h.2.2 226 = .inr (8, Mo s)) (hB : h.2.2 232 = .inl (0, 600, .inl bu)) (x : Int) (T : Nat) (h9 : s 9 = ((T : Nat) : Int)) (hT : T + 4 ≤ 600) : ∃ h' s', Ct 1 248 [aR 226, aI x] h (.inl none, h') ∧ RY h h' s' (ty4 bu T x) ∧ s' 9 = ((T + 4 : Nat) : Int) ∧ ∀ j, ¬ j = 9 → s' j = s j := by
  refine ⟨sw (sw h 232 (.inl (0, 600, .inl (ty4 bu T x)))) 226 (.inr (8, Mo (va_up (va_up (va_up (va_up s 9 ((T + 1 : Nat) : Int)) 9 ((T + 1 + 1 : Nat) : Int)) 9 ((T + 1 + 1 + 1 : Nat) : Int)) 9 ((T + 1 + 1 + 1 + 1 : Nat) : Int)))), va_up (va_up (va_up (va_up s 9 ((T + 1 : Nat) : Int)) 9 ((T + 1 + 1 : Nat) : Int)) 9 ((T + 1 + 1 + 1 : Nat) : Int)) 9 ((T + 1 + 1 + 1 + 1 : Nat) : Int), ?_, (RY.rf hM hB).b.s, vu_at _ _ _, fun j hj => by rw [vu_ne hj, vu_ne hj, vu_ne hj, vu_ne hj]⟩
  refine Ct.of [aR 226, aI x, aU] rfl ?_
  refine r_con (v := 24) cd_248_0 rfl (by decide) ?_
  refine r_ist cd_248_2 rfl rfl (L' := [aR 226, aI x, aI 24]) rfl ?_
  refine r_ild cd_248_3 rfl rfl ?_
  refine r_if53 cd_248_4 rfl ⟨by omega, by omega⟩ (fun n1 => ?_) (fun n1 => ?_)
  · exact absurd n1 (by decide)
  · refine r_aldR cd_248_7 rfl rfl ?_
    refine r_get cd_248_8 rfl hM rfl ?_
    refine r_aldR cd_248_11 rfl rfl ?_
    refine r_get (v := aI ((T : Nat) : Int)) cd_248_12 rfl hM (by rw [← h9]; rfl) ?_
    refine r_ild cd_248_15 rfl rfl ?_
    refine r_ild cd_248_16 rfl rfl ?_
    refine r_shr cd_248_17 rfl ?_
    refine r_con (v := 255) cd_248_18 rfl (by decide) ?_
    refine r_and cd_248_21 rfl ?_
    refine r_arsI (i := T) cd_248_22 rfl rfl hB rfl (by omega) rfl ?_
    refine r_aldR cd_248_23 rfl rfl ?_
    refine r_dup cd_248_24 rfl rfl ?_
    refine r_get (v := aI ((T : Nat) : Int)) cd_248_25 rfl ((sw_ne (by decide)).trans hM) (by rw [← h9]; rfl) ?_
    refine r_con (v := 1) cd_248_28 rfl (by decide) ?_
    refine r_add (v := ((T + 1 : Nat) : Int)) cd_248_29 rfl (by omega) ?_
    refine r_put (fs' := Mo (va_up s 9 ((T + 1 : Nat) : Int))) cd_248_30 rfl ((sw_ne (by decide)).trans hM) rfl rfl ?_
    refine r_inc (v := 16) cd_248_33 rfl rfl rfl (by omega) (L' := [aR 226, aI x, aI 16]) rfl ?_
    refine r_goto cd_248_36 ?_
    refine r_ild cd_248_3 rfl rfl ?_
    refine r_if53 cd_248_4 rfl ⟨by omega, by omega⟩ (fun n2 => ?_) (fun n2 => ?_)
    · exact absurd n2 (by decide)
    · refine r_aldR cd_248_7 rfl rfl ?_
      refine r_get cd_248_8 rfl (sw_at _ _ _) rfl ?_
      refine r_aldR cd_248_11 rfl rfl ?_
      refine r_get (v := aI ((T + 1 : Nat) : Int)) cd_248_12 rfl (sw_at _ _ _) (rfl) ?_
      refine r_ild cd_248_15 rfl rfl ?_
      refine r_ild cd_248_16 rfl rfl ?_
      refine r_shr cd_248_17 rfl ?_
      refine r_con (v := 255) cd_248_18 rfl (by decide) ?_
      refine r_and cd_248_21 rfl ?_
      refine r_arsI (i := T + 1) cd_248_22 rfl rfl ((sw_ne (by decide)).trans (sw_at _ _ _)) rfl (by omega) rfl ?_
      rw [sw_cm (a := 226) (q := 232) _ _ _ (by decide), sw_sw]
      refine r_aldR cd_248_23 rfl rfl ?_
      refine r_dup cd_248_24 rfl rfl ?_
      refine r_get (v := aI ((T + 1 : Nat) : Int)) cd_248_25 rfl (sw_at _ _ _) (rfl) ?_
      refine r_con (v := 1) cd_248_28 rfl (by decide) ?_
      refine r_add (v := ((T + 1 + 1 : Nat) : Int)) cd_248_29 rfl (by omega) ?_
      refine r_put (fs' := Mo (va_up (va_up s 9 ((T + 1 : Nat) : Int)) 9 ((T + 1 + 1 : Nat) : Int))) cd_248_30 rfl (sw_at _ _ _) rfl rfl ?_
      rw [sw_sw]
      refine r_inc (v := 8) cd_248_33 rfl rfl rfl (by omega) (L' := [aR 226, aI x, aI 8]) rfl ?_
      refine r_goto cd_248_36 ?_
      refine r_ild cd_248_3 rfl rfl ?_
      refine r_if53 cd_248_4 rfl ⟨by omega, by omega⟩ (fun n3 => ?_) (fun n3 => ?_)
      · exact absurd n3 (by decide)
      · refine r_aldR cd_248_7 rfl rfl ?_
        refine r_get cd_248_8 rfl (sw_at _ _ _) rfl ?_
        refine r_aldR cd_248_11 rfl rfl ?_
        refine r_get (v := aI ((T + 1 + 1 : Nat) : Int)) cd_248_12 rfl (sw_at _ _ _) (rfl) ?_
        refine r_ild cd_248_15 rfl rfl ?_
        refine r_ild cd_248_16 rfl rfl ?_
        refine r_shr cd_248_17 rfl ?_
        refine r_con (v := 255) cd_248_18 rfl (by decide) ?_
        refine r_and cd_248_21 rfl ?_
        refine r_arsI (i := T + 1 + 1) cd_248_22 rfl rfl ((sw_ne (by decide)).trans (sw_at _ _ _)) rfl (by omega) rfl ?_
        rw [sw_cm (a := 226) (q := 232) _ _ _ (by decide), sw_sw]
        refine r_aldR cd_248_23 rfl rfl ?_
        refine r_dup cd_248_24 rfl rfl ?_
        refine r_get (v := aI ((T + 1 + 1 : Nat) : Int)) cd_248_25 rfl (sw_at _ _ _) (rfl) ?_
        refine r_con (v := 1) cd_248_28 rfl (by decide) ?_
        refine r_add (v := ((T + 1 + 1 + 1 : Nat) : Int)) cd_248_29 rfl (by omega) ?_
        refine r_put (fs' := Mo (va_up (va_up (va_up s 9 ((T + 1 : Nat) : Int)) 9 ((T + 1 + 1 : Nat) : Int)) 9 ((T + 1 + 1 + 1 : Nat) : Int))) cd_248_30 rfl (sw_at _ _ _) rfl rfl ?_
        rw [sw_sw]
        refine r_inc (v := 0) cd_248_33 rfl rfl rfl (by omega) (L' := [aR 226, aI x, aI 0]) rfl ?_
        refine r_goto cd_248_36 ?_
        refine r_ild cd_248_3 rfl rfl ?_
        refine r_if53 cd_248_4 rfl ⟨by omega, by omega⟩ (fun n4 => ?_) (fun n4 => ?_)
        · exact absurd n4 (by decide)
        · refine r_aldR cd_248_7 rfl rfl ?_
          refine r_get cd_248_8 rfl (sw_at _ _ _) rfl ?_
          refine r_aldR cd_248_11 rfl rfl ?_
          refine r_get (v := aI ((T + 1 + 1 + 1 : Nat) : Int)) cd_248_12 rfl (sw_at _ _ _) (rfl) ?_
          refine r_ild cd_248_15 rfl rfl ?_
          refine r_ild cd_248_16 rfl rfl ?_
          refine r_shr cd_248_17 rfl ?_
          refine r_con (v := 255) cd_248_18 rfl (by decide) ?_
          refine r_and cd_248_21 rfl ?_
          refine r_arsI (i := T + 1 + 1 + 1) cd_248_22 rfl rfl ((sw_ne (by decide)).trans (sw_at _ _ _)) rfl (by omega) rfl ?_
          rw [sw_cm (a := 226) (q := 232) _ _ _ (by decide), sw_sw]
          refine r_aldR cd_248_23 rfl rfl ?_
          refine r_dup cd_248_24 rfl rfl ?_
          refine r_get (v := aI ((T + 1 + 1 + 1 : Nat) : Int)) cd_248_25 rfl (sw_at _ _ _) (rfl) ?_
          refine r_con (v := 1) cd_248_28 rfl (by decide) ?_
          refine r_add (v := ((T + 1 + 1 + 1 + 1 : Nat) : Int)) cd_248_29 rfl (by omega) ?_
          refine r_put (fs' := Mo (va_up (va_up (va_up (va_up s 9 ((T + 1 : Nat) : Int)) 9 ((T + 1 + 1 : Nat) : Int)) 9 ((T + 1 + 1 + 1 : Nat) : Int)) 9 ((T + 1 + 1 + 1 + 1 : Nat) : Int))) cd_248_30 rfl (sw_at _ _ _) rfl rfl ?_
          rw [sw_sw]
          refine r_inc (v := (-8)) cd_248_33 rfl rfl rfl (by omega) (L' := [aR 226, aI x, aI (-8)]) rfl ?_
          refine r_goto cd_248_36 ?_
          refine r_ild cd_248_3 rfl rfl ?_
          refine r_if53 cd_248_4 rfl ⟨by omega, by omega⟩ (fun n5 => ?_) (fun n5 => ?_)
          · exact r_void cd_248_39 rfl (rfl)
          · exact absurd n5 (by decide)
def apF (bu : Nat → Int) (T : Nat) (x0 x1 x2 x3 x4 : Int) : Nat → Int := (ty4 (ty4 (ty4 (ty4 (ty4 bu (T) x0) (T + 4) x1) (T + 4 + 4) x2) (T + 4 + 4 + 4) x3) (T + 4 + 4 + 4 + 4) x4)
theorem c_247 {h : aH} {s bu : Nat → Int} (hM : h.2.2 226 = .inr (8, Mo s)) (hB : h.2.2 232 = .inl (0, 600, .inl bu)) (x0 x1 x2 x3 x4 : Int) (T : Nat) (h9 : s 9 = ((T : Nat) : Int)) (hT : T + 20 ≤ 600) : ∃ h' s', Ct 2 247 [aR 226, aI x0, aI x1, aI x2, aI x3, aI x4] h (.inl (some (aI ((T + 20 : Nat) : Int))), h') ∧ RY h h' s' (apF bu T x0 x1 x2 x3 x4) ∧ s' 9 = ((T + 20 : Nat) : Int) ∧ s' 15 = 0 ∧ ∀ j, ¬ j = 9 → ¬ j = 15 → s' j = s j := by
  have r0 : RY h (sw h 226 (.inr (8, Mo (va_up s 15 0)))) (va_up s 15 0) bu := (RY.rf hM hB).s
  have e0 : va_up s 15 0 9 = ((T : Nat) : Int) := (vu_ne (by decide)).trans h9
  obtain ⟨h1, s1, c1, q1, e1, f1⟩ := c_248 r0.1 r0.2.1 x0 (T) e0 (by omega)
  have r1 := r0.tr q1
  obtain ⟨h2, s2, c2, q2, e2, f2⟩ := c_248 r1.1 r1.2.1 x1 (T + 4) e1 (by omega)
  have r2 := r1.tr q2
  obtain ⟨h3, s3, c3, q3, e3, f3⟩ := c_248 r2.1 r2.2.1 x2 (T + 4 + 4) e2 (by omega)
  have r3 := r2.tr q3
  obtain ⟨h4, s4, c4, q4, e4, f4⟩ := c_248 r3.1 r3.2.1 x3 (T + 4 + 4 + 4) e3 (by omega)
  have r4 := r3.tr q4
  obtain ⟨h5, s5, c5, q5, e5, f5⟩ := c_248 r4.1 r4.2.1 x4 (T + 4 + 4 + 4 + 4) e4 (by omega)
  have r5 := r4.tr q5
  refine ⟨h5, s5, ?_, r5, e5.trans (by omega), ?_, fun j h1 h2 => ?_⟩
  · refine Ct.of [aR 226, aI x0, aI x1, aI x2, aI x3, aI x4] rfl ?_
    refine r_aldR cd_247_0 rfl rfl ?_
    refine r_con (v := 0) cd_247_1 rfl (by decide) ?_
    refine r_put (fs' := Mo (va_up s 15 0)) cd_247_2 rfl hM rfl rfl ?_
    refine r_aldR cd_247_5 rfl rfl ?_
    refine r_get (v := aI ((T : Nat) : Int)) cd_247_6 rfl (sw_at _ _ _) (by rw [← e0]; rfl) ?_
    refine r_con (v := 20) cd_247_9 rfl (by decide) ?_
    refine r_add (v := ((T + 20 : Nat) : Int)) cd_247_11 rfl (by omega) ?_
    refine r_con (v := 600) cd_247_12 rfl (by decide) ?_
    refine r_ic66 cd_247_15 rfl ⟨by omega, by omega⟩ ⟨by omega, by omega⟩ (fun n1 => ?_) (fun n1 => ?_)
    · exact absurd n1 (by omega)
    · refine r_aldR cd_247_20 rfl rfl ?_
      refine r_ild cd_247_21 rfl rfl ?_
      refine r_cV c1 cd_247_22 rfl rfl rfl (rc0 (sw_at _ _ _) rfl) rfl rfl rfl ?_
      refine r_aldR cd_247_25 rfl rfl ?_
      refine r_ild cd_247_26 rfl rfl ?_
      refine r_cV c2 cd_247_27 rfl rfl rfl (rc0 r1.1 rfl) rfl rfl rfl ?_
      refine r_aldR cd_247_30 rfl rfl ?_
      refine r_ild cd_247_31 rfl rfl ?_
      refine r_cV c3 cd_247_32 rfl rfl rfl (rc0 r2.1 rfl) rfl rfl rfl ?_
      refine r_aldR cd_247_35 rfl rfl ?_
      refine r_ild cd_247_36 rfl rfl ?_
      refine r_cV c4 cd_247_38 rfl rfl rfl (rc0 r3.1 rfl) rfl rfl rfl ?_
      refine r_aldR cd_247_41 rfl rfl ?_
      refine r_ild cd_247_42 rfl rfl ?_
      refine r_cV c5 cd_247_44 rfl rfl rfl (rc0 r4.1 rfl) rfl rfl rfl ?_
      refine r_aldR cd_247_47 rfl rfl ?_
      refine r_get (v := aI ((T + 20 : Nat) : Int)) cd_247_48 rfl r5.1 (by rw [show ((T + 20 : Nat) : Int) = s5 9 by rw [e5]]; rfl) ?_
      exact r_ret cd_247_51 True.intro (rfl)
  · rw [f5 15 (by decide), f4 15 (by decide), f3 15 (by decide), f2 15 (by decide), f1 15 (by decide)]; exact vu_at _ _ _
  · rw [f5 j h1, f4 j h1, f3 j h1, f2 j h1, f1 j h1]; exact vu_ne h2
theorem d_247 {h : aH} {s : Nat → Int} (hM : h.2.2 226 = .inr (8, Mo s)) (x0 x1 x2 x3 x4 : Int) (T : Nat) (h9 : s 9 = ((T : Nat) : Int)) (hT : ¬ T + 20 ≤ 600) (hT6 : T ≤ 600) : Ct 2 247 [aR 226, aI x0, aI x1, aI x2, aI x3, aI x4] h (.inl (some (aI (-1))), sw h 226 (.inr (8, Mo (va_up s 15 0)))) := by
  refine Ct.of [aR 226, aI x0, aI x1, aI x2, aI x3, aI x4] rfl ?_
  refine r_aldR cd_247_0 rfl rfl ?_
  refine r_con (v := 0) cd_247_1 rfl (by decide) ?_
  refine r_put (fs' := Mo (va_up s 15 0)) cd_247_2 rfl hM rfl rfl ?_
  refine r_aldR cd_247_5 rfl rfl ?_
  refine r_get (v := aI ((T : Nat) : Int)) cd_247_6 rfl (sw_at _ _ _) (by rw [← (show va_up s 15 0 9 = ((T : Nat) : Int) from (vu_ne (by decide)).trans h9)]; rfl) ?_
  refine r_con (v := 20) cd_247_9 rfl (by decide) ?_
  refine r_add (v := ((T + 20 : Nat) : Int)) cd_247_11 rfl (by omega) ?_
  refine r_con (v := 600) cd_247_12 rfl (by decide) ?_
  refine r_ic66 cd_247_15 rfl ⟨by omega, by omega⟩ ⟨by omega, by omega⟩ (fun n1 => ?_) (fun n1 => ?_)
  · refine r_con (v := (-1)) cd_247_18 rfl (by decide) ?_
    exact r_ret cd_247_19 True.intro (rfl)
  · exact absurd n1 (by omega)
theorem c_249 {h : aH} {s : Nat → Int} (hM : h.2.2 226 = .inr (8, Mo s)) (x : Int) (hx : inR x) (T : Nat) (h9 : s 9 = ((T : Nat) : Int)) (hT6 : T ≤ 600) (g : 0 ≤ x ∧ x ≤ (T : Int)) : Ct 2 249 [aR 226, aI x] h (.inl (some (aI (x))), sw h 226 (.inr (8, Mo (va_up (va_up s 15 0) 9 x)))) := by
  refine Ct.of [aR 226, aI x] rfl ?_
  have hi : inB x 0 ((T : Nat) : Int) = true := by unfold inB; simp; omega
  refine r_aldR cd_249_0 rfl rfl ?_
  refine r_ild cd_249_1 rfl rfl ?_
  refine r_con (v := 0) cd_249_2 rfl (by decide) ?_
  refine r_aldR cd_249_3 rfl rfl ?_
  refine r_get (v := aI ((T : Nat) : Int)) cd_249_4 rfl hM (by rw [← h9]; rfl) ?_
  refine r_cI (c_186 x hx 0 ⟨by decide, by decide⟩ ((T : Nat) : Int) ⟨by omega, by omega⟩) cd_249_7 rfl rfl rfl True.intro rfl rfl rfl ?_
  refine r_if52b cd_249_10 rfl (fun n1 => ?_) (fun n1 => ?_)
  · exact Bool.noConfusion (n1.symm.trans hi)
  · refine r_con (v := 0) cd_249_17 rfl (by decide) ?_
    refine r_cI (c_250 hM false) cd_249_18 rfl rfl rfl (rc0 hM rfl) rfl rfl rfl ?_
    refine r_if51b cd_249_21 rfl (fun n2 => ?_) (fun n2 => ?_)
    · refine r_aldR cd_249_26 rfl rfl ?_
      refine r_ild cd_249_27 rfl rfl ?_
      refine r_put (fs' := Mo (va_up (va_up s 15 (bz false)) 9 x)) cd_249_28 rfl (sw_at _ _ _) rfl rfl ?_
      refine r_ild cd_249_31 rfl rfl ?_
      exact r_ret cd_249_32 True.intro (by rw [sw_sw]; rfl)
    · exact absurd n2 (by decide)
theorem d_249 {h : aH} {s : Nat → Int} (hM : h.2.2 226 = .inr (8, Mo s)) (x : Int) (hx : inR x) (T : Nat) (h9 : s 9 = ((T : Nat) : Int)) (hT6 : T ≤ 600) (g : ¬ (0 ≤ x ∧ x ≤ (T : Int))) : Ct 2 249 [aR 226, aI x] h (.inl (some (aI (0))), sw h 226 (.inr (8, Mo (va_up s 15 1)))) := by
  refine Ct.of [aR 226, aI x] rfl ?_
  have hi : inB x 0 ((T : Nat) : Int) = false := by unfold inB; simp; omega
  refine r_aldR cd_249_0 rfl rfl ?_
  refine r_ild cd_249_1 rfl rfl ?_
  refine r_con (v := 0) cd_249_2 rfl (by decide) ?_
  refine r_aldR cd_249_3 rfl rfl ?_
  refine r_get (v := aI ((T : Nat) : Int)) cd_249_4 rfl hM (by rw [← h9]; rfl) ?_
  refine r_cI (c_186 x hx 0 ⟨by decide, by decide⟩ ((T : Nat) : Int) ⟨by omega, by omega⟩) cd_249_7 rfl rfl rfl True.intro rfl rfl rfl ?_
  refine r_if52b cd_249_10 rfl (fun n1 => ?_) (fun n1 => ?_)
  · refine r_con (v := 1) cd_249_13 rfl (by decide) ?_
    refine r_goto cd_249_14 ?_
    refine r_cI (c_250 hM true) cd_249_18 rfl rfl rfl (rc0 hM rfl) rfl rfl rfl ?_
    refine r_if51b cd_249_21 rfl (fun n2 => ?_) (fun n2 => ?_)
    · exact absurd n2 (by decide)
    · refine r_con (v := 0) cd_249_24 rfl (by decide) ?_
      exact r_ret cd_249_25 True.intro (rfl)
  · exact Bool.noConfusion (n1.symm.trans hi)
theorem cp_251_7 {s : Nat → Int} {res : aRes} {f : Nat → Int} (T : Nat) (hp9 : s 9 = ((T : Nat) : Int)) (hT6 : T ≤ 600) : ∀ (m k : Nat) {h : aH} {d : Nat → Int}, h.2.2 226 = .inr (8, Mo s) → h.2.2 232 = .inl (0, 600, .inl f) → h.2.2 233 = .inl (0, 600, .inl d) → k + m = T → RU 17 251 res (33, [aR 226, aI ((k + m : Nat) : Int)], [], 0, 0, sw h 233 (.inl (0, 600, .inl (cpF f (0) (0) k m d)))) → RU 17 251 res (7, [aR 226, aI ((k : Nat) : Int)], [], 0, 0, h) := by
  intro m
  induction m with
  | zero =>
    intro k h d hM hf hd hm hk
    refine r_ild cd_251_7 rfl rfl ?_
    refine r_aldR cd_251_8 rfl rfl ?_
    refine r_get (v := aI ((T : Nat) : Int)) cd_251_9 rfl hM (by rw [← hp9]; rfl) ?_
    refine r_ic64 cd_251_12 rfl ⟨by omega, by omega⟩ ⟨by omega, by omega⟩ (fun n1 => ?_) (fun n1 => ?_)
    · exact absurd n1 (by omega)
    · rw [sw_id (show h.2.2 233 = .inl (0, 600, .inl (cpF f (0) (0) k 0 d)) from hd)] at hk
      exact hk
  | succ m ih =>
    intro k h d hM hf hd hm hk
    refine r_ild cd_251_7 rfl rfl ?_
    refine r_aldR cd_251_8 rfl rfl ?_
    refine r_get (v := aI ((T : Nat) : Int)) cd_251_9 rfl hM (by rw [← hp9]; rfl) ?_
    refine r_ic64 cd_251_12 rfl ⟨by omega, by omega⟩ ⟨by omega, by omega⟩ (fun n1 => ?_) (fun n1 => ?_)
    · refine r_aldR cd_251_15 rfl rfl ?_
      refine r_get cd_251_16 rfl hM rfl ?_
      refine r_ild cd_251_19 rfl rfl ?_
      refine r_aldR cd_251_20 rfl rfl ?_
      refine r_get cd_251_21 rfl hM rfl ?_
      refine r_ild cd_251_24 rfl rfl ?_
      refine r_arr (i := 0 + k) cd_251_25 rfl hf (by omega) (by omega) rfl ?_
      refine r_arsI (i := 0 + k) cd_251_26 rfl rfl hd (by omega) (by omega) rfl ?_
      refine r_inc (v := ((k + 1 : Nat) : Int)) cd_251_27 rfl rfl rfl (by omega) (L' := [aR 226, aI ((k + 1 : Nat) : Int)]) rfl ?_
      refine r_goto cd_251_30 ?_
      show RU 17 251 res (7, [aR 226, aI ((k + 1 : Nat) : Int)], [], 0, 0, sw h 233 (.inl (0, 600, .inl (va_up d (0 + k) (f (0 + k))))))
      refine ih (k + 1) (h := sw h 233 (.inl (0, 600, .inl (va_up d (0 + k) (f (0 + k)))))) ((sw_ne (by decide)).trans hM) ((sw_ne (by decide)).trans hf) (sw_at _ _ _) (by omega) ?_
      rw [show cpF f (0) (0) k (m + 1) d = cpF f (0) (0) (k + 1) m (va_up d (0 + k) (f (0 + k))) from rfl, show k + (m + 1) = k + 1 + m by omega] at hk
      rw [sw_sw]
      exact hk
    · exact absurd n1 (by omega)
theorem cp_251_59 {s : Nat → Int} {res : aRes} {f : Nat → Int} : ∀ (m k : Nat) {h : aH} {d : Nat → Int}, h.2.2 226 = .inr (8, Mo s) → h.2.2 228 = .inl (0, 211, .inl f) → h.2.2 227 = .inl (0, 211, .inl d) → k + m = 211 → RU 17 251 res (84, [aR 226, aI ((k + m : Nat) : Int)], [], 0, 0, sw h 227 (.inl (0, 211, .inl (cpF f (0) (0) k m d)))) → RU 17 251 res (59, [aR 226, aI ((k : Nat) : Int)], [], 0, 0, h) := by
  intro m
  induction m with
  | zero =>
    intro k h d hM hf hd hm hk
    refine r_ild cd_251_59 rfl rfl ?_
    refine r_con (v := 211) cd_251_60 rfl (by decide) ?_
    refine r_ic64 cd_251_63 rfl ⟨by omega, by omega⟩ ⟨by omega, by omega⟩ (fun n1 => ?_) (fun n1 => ?_)
    · exact absurd n1 (by omega)
    · rw [sw_id (show h.2.2 227 = .inl (0, 211, .inl (cpF f (0) (0) k 0 d)) from hd)] at hk
      exact hk
  | succ m ih =>
    intro k h d hM hf hd hm hk
    refine r_ild cd_251_59 rfl rfl ?_
    refine r_con (v := 211) cd_251_60 rfl (by decide) ?_
    refine r_ic64 cd_251_63 rfl ⟨by omega, by omega⟩ ⟨by omega, by omega⟩ (fun n1 => ?_) (fun n1 => ?_)
    · refine r_aldR cd_251_66 rfl rfl ?_
      refine r_get cd_251_67 rfl hM rfl ?_
      refine r_ild cd_251_70 rfl rfl ?_
      refine r_aldR cd_251_71 rfl rfl ?_
      refine r_get cd_251_72 rfl hM rfl ?_
      refine r_ild cd_251_75 rfl rfl ?_
      refine r_arr (i := 0 + k) cd_251_76 rfl hf (by omega) (by omega) rfl ?_
      refine r_arsI (i := 0 + k) cd_251_77 rfl rfl hd (by omega) (by omega) rfl ?_
      refine r_inc (v := ((k + 1 : Nat) : Int)) cd_251_78 rfl rfl rfl (by omega) (L' := [aR 226, aI ((k + 1 : Nat) : Int)]) rfl ?_
      refine r_goto cd_251_81 ?_
      show RU 17 251 res (59, [aR 226, aI ((k + 1 : Nat) : Int)], [], 0, 0, sw h 227 (.inl (0, 211, .inl (va_up d (0 + k) (f (0 + k))))))
      refine ih (k + 1) (h := sw h 227 (.inl (0, 211, .inl (va_up d (0 + k) (f (0 + k)))))) ((sw_ne (by decide)).trans hM) ((sw_ne (by decide)).trans hf) (sw_at _ _ _) (by omega) ?_
      rw [show cpF f (0) (0) k (m + 1) d = cpF f (0) (0) (k + 1) m (va_up d (0 + k) (f (0 + k))) from rfl, show k + (m + 1) = k + 1 + m by omega] at hk
      rw [sw_sw]
      exact hk
    · exact absurd n1 (by omega)
/-- behind a script: which cells of the reference are others -/
def RS8 (h h' : aH) (s' w' b' P' tx' nu' : Nat → Int) : Prop := h'.2.2 226 = .inr (8, Mo s') ∧ h'.2.2 227 = .inl (0, 211, .inl w') ∧ h'.2.2 228 = .inl (0, 211, .inl b') ∧ h'.2.2 230 = .inl (0, 1688, .inl P') ∧ h'.2.2 233 = .inl (0, 600, .inl tx') ∧ h'.2.2 235 = .inl (0, 4, .inl nu') ∧ (∀ a, a < 226 ∨ a = 229 ∨ a = 231 ∨ a = 232 ∨ a = 234 ∨ 236 ≤ a → h'.2.2 a = h.2.2 a) ∧ h'.1 = h.1 ∧ h'.2.1 = h.2.1
theorem cp_txb {f d : Nat → Int} {m : Nat} (hf : TxB f) (hd : TxB d) : TxB (cpF f 0 0 0 m d) := fun j => by
  rw [cpF_at]
  split
  · exact hf _
  · exact hd _
theorem q_251 {h : aH} {s w b0 P0 bu tx nu : Nat → Int} (hM : h.2.2 226 = .inr (8, Mo s)) (hw : h.2.2 227 = .inl (0, 211, .inl w)) (hb : h.2.2 228 = .inl (0, 211, .inl b0)) (hP : h.2.2 230 = .inl (0, 1688, .inl P0)) (hB : h.2.2 232 = .inl (0, 600, .inl bu)) (htx : h.2.2 233 = .inl (0, 600, .inl tx)) (hnu : h.2.2 235 = .inl (0, 4, .inl nu)) (hz : TZ w) (hbb : TxB bu) (htb : TxB tx) (T : Nat) (h9 : s 9 = ((T : Nat) : Int)) (hT6 : T ≤ 600) (pm : Nat) (hp5 : s 5 = (pm : Int)) (hpm : pm ≤ 8) : match parA (cpF bu 0 0 0 T tx) T with
  | .inl e => ∃ h' s' nu', Ct 17 251 [aR 226] h (.inl (some (aI (-1))), h') ∧ RS8 h h' s' w (cpF w 0 0 0 211 b0) P0 (cpF bu 0 0 0 T tx) nu' ∧ s' 11 = e.1 ∧ s' 12 = e.2 ∧ s' 9 = 0 ∧ s' 15 = 0 ∧ ∀ j, j < 9 ∨ j = 13 ∨ j = 14 ∨ 21 ≤ j → s' j = s j
  | .inr a => ∃ h' s' nu' P', Ct 17 251 [aR 226] h (.inl (some (aI (a.2.1 6))), h') ∧ RS8 h h' s' a.2.1 (cpF w 0 0 0 211 b0) P' (cpF bu 0 0 0 T tx) nu' ∧ s' 11 = 0 ∧ s' 12 = -1 ∧ s' 9 = 0 ∧ s' 15 = 0 ∧ s' 5 = (if pm = 8 then 8 else (pm : Int) + 1) ∧ P' = (if pm = 8 then cpF (cpF w 0 0 0 211 b0) 0 (211 * 7) 0 211 (shF 211 1477 P0) else cpF (cpF w 0 0 0 211 b0) 0 (211 * pm) 0 211 P0) ∧ ∀ j, j < 5 ∨ (5 < j ∧ j < 9) ∨ j = 13 ∨ j = 14 ∨ 21 ≤ j → s' j = s j := by
  have a26 : (sw (sw h 226 (.inr (8, Mo (va_up (va_up (va_up s 15 0) 10 ((T : Nat) : Int)) 9 0)))) 233 (.inl (0, 600, .inl (cpF bu 0 0 0 T tx)))).2.2 226 = .inr (8, Mo (va_up (va_up (va_up s 15 0) 10 ((T : Nat) : Int)) 9 0)) := (sw_ne (by decide)).trans (sw_at _ _ _)
  have a27 : (sw (sw h 226 (.inr (8, Mo (va_up (va_up (va_up s 15 0) 10 ((T : Nat) : Int)) 9 0)))) 233 (.inl (0, 600, .inl (cpF bu 0 0 0 T tx)))).2.2 227 = .inl (0, 211, .inl w) := (sw_ne (by decide)).trans ((sw_ne (by decide)).trans hw)
  have a28 : (sw (sw h 226 (.inr (8, Mo (va_up (va_up (va_up s 15 0) 10 ((T : Nat) : Int)) 9 0)))) 233 (.inl (0, 600, .inl (cpF bu 0 0 0 T tx)))).2.2 228 = .inl (0, 211, .inl b0) := (sw_ne (by decide)).trans ((sw_ne (by decide)).trans hb)
  have hcb := c_252 a26 a27 a28
  have hQ := q_178 (h := (sw (sw (sw h 226 (.inr (8, Mo (va_up (va_up (va_up s 15 0) 10 ((T : Nat) : Int)) 9 0)))) 233 (.inl (0, 600, .inl (cpF bu 0 0 0 T tx)))) 228 (.inl (0, 211, .inl (cpF w 0 0 0 211 b0))))) (s := va_up (va_up (va_up s 15 0) 10 ((T : Nat) : Int)) 9 0) (w := w) (tx := (cpF bu 0 0 0 T tx)) (nu := nu) (N := T) ((sw_ne (by decide)).trans a26) ((sw_ne (by decide)).trans (sw_at _ _ _)) (cp_txb hbb htb) hT6 ((vu_ne (by decide)).trans (vu_at _ _ _)) ((sw_ne (by decide)).trans a27) ((sw_ne (by decide)).trans ((sw_ne (by decide)).trans ((sw_ne (by decide)).trans hnu))) hz
  have hstart : ∀ v h3 res, Ct 16 178 [aR 226] (sw (sw (sw h 226 (.inr (8, Mo (va_up (va_up (va_up s 15 0) 10 ((T : Nat) : Int)) 9 0)))) 233 (.inl (0, 600, .inl (cpF bu 0 0 0 T tx)))) 228 (.inl (0, 211, .inl (cpF w 0 0 0 211 b0)))) (.inl (some (aI v)), h3) → RU 17 251 res (54, [aR 226, aI ((0 + T : Nat) : Int)], [aI v], 0, 0, h3) → RU 17 251 res (0, [aR 226, aU], [], 0, 0, h) := by
    intro v h3 res hc3 hk9
    refine r_aldR cd_251_0 rfl rfl ?_
    refine r_con (v := 0) cd_251_1 rfl (by decide) ?_
    refine r_put (fs' := Mo (va_up s 15 0)) cd_251_2 rfl hM rfl rfl ?_
    refine r_con (v := 0) cd_251_5 rfl (by decide) ?_
    refine r_ist cd_251_6 rfl rfl (L' := [aR 226, aI 0]) rfl ?_
    refine cp_251_7 T ((vu_ne (by decide)).trans h9) hT6 (T) 0 (sw_at _ _ _) ((sw_ne (by decide)).trans hB) ((sw_ne (by decide)).trans htx) (by omega) ?_
    refine r_aldR cd_251_33 rfl rfl ?_
    refine r_aldR cd_251_34 rfl rfl ?_
    refine r_get (v := aI ((T : Nat) : Int)) cd_251_35 rfl ((sw_ne (by decide)).trans (sw_at _ _ _)) (by rw [← h9]; rfl) ?_
    refine r_put (fs' := Mo (va_up (va_up s 15 0) 10 ((T : Nat) : Int))) cd_251_38 rfl ((sw_ne (by decide)).trans (sw_at _ _ _)) rfl rfl ?_
    rw [sw_cm (a := 233) (q := 226) _ _ _ (by decide), sw_sw]
    refine r_aldR cd_251_41 rfl rfl ?_
    refine r_con (v := 0) cd_251_42 rfl (by decide) ?_
    refine r_put (fs' := Mo (va_up (va_up (va_up s 15 0) 10 ((T : Nat) : Int)) 9 0)) cd_251_43 rfl ((sw_ne (by decide)).trans (sw_at _ _ _)) rfl rfl ?_
    rw [sw_cm (a := 233) (q := 226) _ _ _ (by decide), sw_sw]
    refine r_aldR cd_251_46 rfl rfl ?_
    refine r_cV hcb cd_251_47 rfl rfl rfl (rc0 ((sw_ne (by decide)).trans (sw_at _ _ _)) rfl) rfl rfl rfl ?_
    refine r_aldR cd_251_50 rfl rfl ?_
    refine r_cI hc3 cd_251_51 rfl rfl rfl (rc0 ((sw_ne (by decide)).trans a26) rfl) rfl rfl rfl ?_
    exact hk9
  rcases hD : parA (cpF bu 0 0 0 T tx) T with e | ⟨j2, u, ey⟩
  · rw [hD] at hQ
    obtain ⟨h6, s6, w6, nu6, c6, z6, y6, e61, e62, f6⟩ := hQ
    have z28 : h6.2.2 228 = .inl (0, 211, .inl (cpF w 0 0 0 211 b0)) := (z6.2.2.2.1 228 (by decide) (by decide) (by decide)).trans (sw_at _ _ _)
    have eb : cpF (cpF w 0 0 0 211 b0) 0 0 0 211 w6 = w := cp_back (fun j hj => cp_to hj) hz y6
    refine ⟨sw h6 227 (.inl (0, 211, .inl w)), s6, nu6, Ct.of [aR 226, aU] rfl (hstart 0 h6 _ c6 ?_), ?_, e61, e62, (f6 9 (by omega)).trans rfl, (f6 15 (by omega)).trans rfl, fun j hj => (f6 j (by omega)).trans (by rw [vu_ne (by omega), vu_ne (by omega), vu_ne (by omega)])⟩
    · refine r_if52 cd_251_54 rfl ⟨by omega, by omega⟩ (fun n1 => ?_) (fun n1 => ?_)
      · refine r_con (v := 0) cd_251_57 rfl (by decide) ?_
        refine r_ist cd_251_58 rfl rfl (L' := [aR 226, aI 0]) rfl ?_
        refine cp_251_59 (211) 0 z6.1 z28 z6.2.1 (by omega) ?_
        refine r_con (v := (-1)) cd_251_84 rfl (by decide) ?_
        exact r_ret cd_251_85 True.intro (by rw [eb])
      · exact absurd n1 (by decide)
    · exact ⟨(sw_ne (by decide)).trans z6.1, sw_at _ _ _, (sw_ne (by decide)).trans z28, (sw_ne (by decide)).trans ((z6.2.2.2.1 230 (by decide) (by decide) (by decide)).trans ((sw_ne (by decide)).trans ((sw_ne (by decide)).trans ((sw_ne (by decide)).trans hP)))), (sw_ne (by decide)).trans ((z6.2.2.2.1 233 (by decide) (by decide) (by decide)).trans ((sw_ne (by decide)).trans (sw_at _ _ _))), (sw_ne (by decide)).trans z6.2.2.1, fun a ha => (sw_ne (by omega)).trans ((z6.2.2.2.1 a (by omega) (by omega) (by omega)).trans ((sw_ne (by omega)).trans ((sw_ne (by omega)).trans (sw_ne (by omega))))), z6.2.2.2.2.1, z6.2.2.2.2.2⟩
  · rw [hD] at hQ
    obtain ⟨h6, s6, nu6, c6, z6, e61, e62, f6⟩ := hQ
    have z28 : h6.2.2 228 = .inl (0, 211, .inl (cpF w 0 0 0 211 b0)) := (z6.2.2.2.1 228 (by decide) (by decide) (by decide)).trans (sw_at _ _ _)
    have z30 : h6.2.2 230 = .inl (0, 1688, .inl P0) := (z6.2.2.2.1 230 (by decide) (by decide) (by decide)).trans ((sw_ne (by decide)).trans ((sw_ne (by decide)).trans ((sw_ne (by decide)).trans hP)))
    obtain ⟨s9, P9, c9, m1, m2, m3⟩ := c_253 (u 6) z6.1 z28 z30 pm ((f6 5 (by omega)).trans ((vu_ne (by decide)).trans ((vu_ne (by decide)).trans ((vu_ne (by decide)).trans hp5)))) hpm
    refine ⟨_, s9, nu6, P9, Ct.of [aR 226, aU] rfl (hstart 1 h6 _ c6 ?_), ⟨sw_at _ _ _, (sw_ne (by decide)).trans ((sw_ne (by decide)).trans z6.2.1), (sw_ne (by decide)).trans ((sw_ne (by decide)).trans z28), (sw_ne (by decide)).trans (sw_at _ _ _), (sw_ne (by decide)).trans ((sw_ne (by decide)).trans ((z6.2.2.2.1 233 (by decide) (by decide) (by decide)).trans ((sw_ne (by decide)).trans (sw_at _ _ _)))), (sw_ne (by decide)).trans ((sw_ne (by decide)).trans z6.2.2.1), fun a ha => (sw_ne (by omega)).trans ((sw_ne (by omega)).trans ((z6.2.2.2.1 a (by omega) (by omega) (by omega)).trans ((sw_ne (by omega)).trans ((sw_ne (by omega)).trans (sw_ne (by omega)))))), z6.2.2.2.2.1, z6.2.2.2.2.2⟩, (m2 11 (by decide)).trans e61, (m2 12 (by decide)).trans e62, (m2 9 (by decide)).trans ((f6 9 (by omega)).trans rfl), (m2 15 (by decide)).trans ((f6 15 (by omega)).trans rfl), m1, m3, fun j hj => (m2 j (by omega)).trans ((f6 j (by omega)).trans (by rw [vu_ne (by omega), vu_ne (by omega), vu_ne (by omega)]))⟩
    refine r_if52 cd_251_54 rfl ⟨by omega, by omega⟩ (fun n1 => ?_) (fun n1 => ?_)
    · exact absurd n1 (by decide)
    · refine r_aldR cd_251_86 rfl rfl ?_
      refine r_aldR cd_251_87 rfl rfl ?_
      refine r_get cd_251_88 rfl z6.1 rfl ?_
      refine r_con (v := 6) cd_251_91 rfl (by decide) ?_
      refine r_arr (i := 6) cd_251_93 rfl z6.2.1 rfl (by omega) rfl ?_
      refine r_cI c9 cd_251_94 rfl rfl rfl (rc0 z6.1 rfl) rfl rfl rfl ?_
      exact r_ret cd_251_97 True.intro (rfl)
