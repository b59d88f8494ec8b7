/-! THE REFERENCE: remembering, undoing; refused changes (written by wip/whole/gen25.py) -/
theorem sh_253 {s : Nat → Int} {res : aRes} (r : Int) : ∀ (m k : Nat) {h : aH} {d : Nat → Int}, h.2.2 226 = .inr (8, Mo s) → h.2.2 230 = .inl (0, 1688, .inl d) → k + m = 1688 → 211 ≤ k → RU 1 253 res (42, [aR 226, aI r, aI ((k + m : Nat) : Int)], [], 0, 0, sw h 230 (.inl (0, 1688, .inl (shF k m d)))) → RU 1 253 res (13, [aR 226, aI r, aI ((k : Nat) : Int)], [], 0, 0, h) := by
  intro m
  induction m with
  | zero =>
    intro k h d hM hd hm hg hk
    refine r_ild cd_253_13 rfl rfl ?_
    refine r_con (v := 1688) cd_253_14 rfl (by decide) ?_
    refine r_ic64 cd_253_17 rfl ⟨by omega, by omega⟩ ⟨by omega, by omega⟩ (fun n1 => ?_) (fun n1 => ?_)
    · exact absurd n1 (by omega)
    · rw [sw_id (show h.2.2 230 = .inl (0, 1688, .inl (shF k 0 d)) from hd)] at hk
      exact hk
  | succ m ih =>
    intro k h d hM hd hm hg hk
    refine r_ild cd_253_13 rfl rfl ?_
    refine r_con (v := 1688) cd_253_14 rfl (by decide) ?_
    refine r_ic64 cd_253_17 rfl ⟨by omega, by omega⟩ ⟨by omega, by omega⟩ (fun n1 => ?_) (fun n1 => ?_)
    · refine r_aldR cd_253_20 rfl rfl ?_
      refine r_get cd_253_21 rfl hM rfl ?_
      refine r_ild cd_253_24 rfl rfl ?_
      refine r_con (v := 211) cd_253_25 rfl (by decide) ?_
      refine r_sub (v := ((k - 211 : Nat) : Int)) cd_253_28 rfl (by omega) ?_
      refine r_aldR cd_253_29 rfl rfl ?_
      refine r_get cd_253_30 rfl hM rfl ?_
      refine r_ild cd_253_33 rfl rfl ?_
      refine r_arr (i := k) cd_253_34 rfl hd rfl (by omega) rfl ?_
      refine r_arsI (i := k - 211) cd_253_35 rfl rfl hd rfl (by omega) rfl ?_
      refine r_inc (v := ((k + 1 : Nat) : Int)) cd_253_36 rfl rfl rfl (by omega) (L' := [aR 226, aI r, aI ((k + 1 : Nat) : Int)]) rfl ?_
      refine r_goto cd_253_39 ?_
      refine ih (k + 1) (h := sw h 230 (.inl (0, 1688, .inl (va_up d (k - 211) (d k))))) ((sw_ne (by decide)).trans hM) (sw_at _ _ _) (by omega) (by omega) ?_
      rw [sw_sw, show k + 1 + m = k + (m + 1) by omega]
      exact hk
    · exact absurd n1 (by omega)
theorem cp_253_54 {s : Nat → Int} {res : aRes} {f : Nat → Int} (r : Int) (pm : Nat) (hp5 : s 5 = (pm : Int)) (hpm : pm < 8) : ∀ (m k : Nat) {h : aH} {d : Nat → Int}, h.2.2 226 = .inr (8, Mo s) → h.2.2 228 = .inl (0, 211, .inl f) → h.2.2 230 = .inl (0, 1688, .inl d) → k + m = 211 → RU 1 253 res (88, [aR 226, aI r, aI ((k + m : Nat) : Int)], [], 0, 0, sw h 230 (.inl (0, 1688, .inl (cpF f (0) (211 * pm) k m d)))) → RU 1 253 res (54, [aR 226, aI r, aI ((k : Nat) : Int)], [], 0, 0, h) := by
  intro m
  induction m with
  | zero =>
    intro k h d hM hf hd hm hk
    refine r_ild cd_253_54 rfl rfl ?_
    refine r_con (v := 211) cd_253_55 rfl (by decide) ?_
    refine r_ic64 cd_253_58 rfl ⟨by omega, by omega⟩ ⟨by omega, by omega⟩ (fun n1 => ?_) (fun n1 => ?_)
    · exact absurd n1 (by omega)
    · rw [sw_id (show h.2.2 230 = .inl (0, 1688, .inl (cpF f (0) (211 * pm) k 0 d)) from hd)] at hk
      exact hk
  | succ m ih =>
    intro k h d hM hf hd hm hk
    refine r_ild cd_253_54 rfl rfl ?_
    refine r_con (v := 211) cd_253_55 rfl (by decide) ?_
    refine r_ic64 cd_253_58 rfl ⟨by omega, by omega⟩ ⟨by omega, by omega⟩ (fun n1 => ?_) (fun n1 => ?_)
    · refine r_aldR cd_253_61 rfl rfl ?_
      refine r_get cd_253_62 rfl hM rfl ?_
      refine r_con (v := 211) cd_253_65 rfl (by decide) ?_
      refine r_aldR cd_253_68 rfl rfl ?_
      refine r_get (v := aI ((pm : Nat) : Int)) cd_253_69 rfl hM (by rw [← hp5]; rfl) ?_
      refine r_mul (v := ((211 * pm : Nat) : Int)) cd_253_72 rfl (by omega) ?_
      refine r_ild cd_253_73 rfl rfl ?_
      refine r_add (v := ((211 * pm + k : Nat) : Int)) cd_253_74 rfl (by omega) ?_
      refine r_aldR cd_253_75 rfl rfl ?_
      refine r_get cd_253_76 rfl hM rfl ?_
      refine r_ild cd_253_79 rfl rfl ?_
      refine r_arr (i := 0 + k) cd_253_80 rfl hf (by omega) (by omega) rfl ?_
      refine r_arsI (i := 211 * pm + k) cd_253_81 rfl rfl hd rfl (by omega) rfl ?_
      refine r_inc (v := ((k + 1 : Nat) : Int)) cd_253_82 rfl rfl rfl (by omega) (L' := [aR 226, aI r, aI ((k + 1 : Nat) : Int)]) rfl ?_
      refine r_goto cd_253_85 ?_
      show RU 1 253 res (54, [aR 226, aI r, aI ((k + 1 : Nat) : Int)], [], 0, 0, sw h 230 (.inl (0, 1688, .inl (va_up d (211 * pm + k) (f (0 + k))))))
      refine ih (k + 1) (h := sw h 230 (.inl (0, 1688, .inl (va_up d (211 * pm + k) (f (0 + k)))))) ((sw_ne (by decide)).trans hM) ((sw_ne (by decide)).trans hf) (sw_at _ _ _) (by omega) ?_
      rw [show cpF f (0) (211 * pm) k (m + 1) d = cpF f (0) (211 * pm) (k + 1) m (va_up d (211 * pm + k) (f (0 + k))) from rfl, show k + (m + 1) = k + 1 + m by omega] at hk
      rw [sw_sw]
      exact hk
    · exact absurd n1 (by omega)
theorem c_253a {h : aH} {s b P : Nat → Int} (r : Int) (hM : h.2.2 226 = .inr (8, Mo s)) (hb : h.2.2 228 = .inl (0, 211, .inl b)) (hP : h.2.2 230 = .inl (0, 1688, .inl P)) (pm : Nat) (hp5 : s 5 = (pm : Int)) (hpm : pm < 8) : Ct 1 253 [aR 226, aI r] h (.inl (some (aI r)), sw (sw h 230 (.inl (0, 1688, .inl (cpF b 0 (211 * pm) 0 211 P)))) 226 (.inr (8, Mo (va_up s 5 ((pm + 1 : Nat) : Int))))) := by
  refine Ct.of [aR 226, aI r, aU] rfl ?_
  refine r_aldR cd_253_0 rfl rfl ?_
  refine r_get (v := aI ((pm : Nat) : Int)) cd_253_1 rfl hM (by rw [← hp5]; rfl) ?_
  refine r_con (v := 8) cd_253_4 rfl (by decide) ?_
  refine r_ic62 cd_253_6 rfl ⟨by omega, by omega⟩ ⟨by omega, by omega⟩ (fun n1 => ?_) (fun n1 => ?_)
  · exact absurd n1 (by omega)
  · refine r_con (v := 0) cd_253_52 rfl (by decide) ?_
    refine r_ist cd_253_53 rfl rfl (L' := [aR 226, aI r, aI 0]) rfl ?_
    refine cp_253_54 r pm hp5 hpm (211) 0 hM hb hP (by omega) ?_
    refine r_aldR cd_253_88 rfl rfl ?_
    refine r_dup cd_253_89 rfl rfl ?_
    refine r_get (v := aI ((pm : Nat) : Int)) cd_253_90 rfl ((sw_ne (by decide)).trans hM) (by rw [← hp5]; rfl) ?_
    refine r_con (v := 1) cd_253_93 rfl (by decide) ?_
    refine r_add (v := ((pm + 1 : Nat) : Int)) cd_253_94 rfl (by omega) ?_
    refine r_put (fs' := Mo (va_up s 5 ((pm + 1 : Nat) : Int))) cd_253_95 rfl ((sw_ne (by decide)).trans hM) rfl rfl ?_
    refine r_ild cd_253_98 rfl rfl ?_
    exact r_ret cd_253_99 True.intro (rfl)
theorem c_253b {h : aH} {s b P : Nat → Int} (r : Int) (hM : h.2.2 226 = .inr (8, Mo s)) (hb : h.2.2 228 = .inl (0, 211, .inl b)) (hP : h.2.2 230 = .inl (0, 1688, .inl P)) (hp5 : s 5 = 8) : Ct 1 253 [aR 226, aI r] h (.inl (some (aI r)), sw (sw h 230 (.inl (0, 1688, .inl (cpF b 0 (211 * 7) 0 211 (shF 211 1477 P))))) 226 (.inr (8, Mo (va_up (va_up s 5 7) 5 8)))) := by
  refine Ct.of [aR 226, aI r, aU] rfl ?_
  refine r_aldR cd_253_0 rfl rfl ?_
  refine r_get (v := aI 8) cd_253_1 rfl hM (by rw [← hp5]; rfl) ?_
  refine r_con (v := 8) cd_253_4 rfl (by decide) ?_
  refine r_ic62 cd_253_6 rfl ⟨by omega, by omega⟩ ⟨by omega, by omega⟩ (fun n1 => ?_) (fun n1 => ?_)
  · refine r_con (v := 211) cd_253_9 rfl (by decide) ?_
    refine r_ist cd_253_12 rfl rfl (L' := [aR 226, aI r, aI 211]) rfl ?_
    refine sh_253 r 1477 211 hM hP (by decide) (by decide) ?_
    refine r_aldR cd_253_42 rfl rfl ?_
    refine r_dup cd_253_43 rfl rfl ?_
    refine r_get (v := aI 8) cd_253_44 rfl ((sw_ne (by decide)).trans hM) (by rw [← hp5]; rfl) ?_
    refine r_con (v := 1) cd_253_47 rfl (by decide) ?_
    refine r_sub (v := 7) cd_253_48 rfl (by omega) ?_
    refine r_put (fs' := Mo (va_up s 5 7)) cd_253_49 rfl ((sw_ne (by decide)).trans hM) rfl rfl ?_
    refine r_con (v := 0) cd_253_52 rfl (by decide) ?_
    refine r_ist cd_253_53 rfl rfl (L' := [aR 226, aI r, aI 0]) rfl ?_
    refine cp_253_54 r 7 (vu_at _ _ _) (by decide) 211 0 (sw_at _ _ _) ((sw_ne (by decide)).trans ((sw_ne (by decide)).trans hb)) ((sw_ne (by decide)).trans (sw_at _ _ _)) (by decide) ?_
    rw [sw_cm (a := 226) (q := 230) _ _ _ (by decide), sw_sw]
    refine r_aldR cd_253_88 rfl rfl ?_
    refine r_dup cd_253_89 rfl rfl ?_
    refine r_get (v := aI 7) cd_253_90 rfl (sw_at _ _ _) (by rw [← (vu_at s 5 7)]; rfl) ?_
    refine r_con (v := 1) cd_253_93 rfl (by decide) ?_
    refine r_add (v := 8) cd_253_94 rfl (by omega) ?_
    refine r_put (fs' := Mo (va_up (va_up s 5 7) 5 8)) cd_253_95 rfl (sw_at _ _ _) rfl rfl ?_
    rw [sw_sw]
    refine r_ild cd_253_98 rfl rfl ?_
    exact r_ret cd_253_99 True.intro (rfl)
  · exact absurd rfl n1
theorem c_253 {h : aH} {s b P : Nat → Int} (r : Int) (hM : h.2.2 226 = .inr (8, Mo s)) (hb : h.2.2 228 = .inl (0, 211, .inl b)) (hP : h.2.2 230 = .inl (0, 1688, .inl P)) (pm : Nat) (hp5 : s 5 = (pm : Int)) (hpm : pm ≤ 8) : ∃ s' P', Ct 1 253 [aR 226, aI r] h (.inl (some (aI r)), sw (sw h 230 (.inl (0, 1688, .inl P'))) 226 (.inr (8, Mo s'))) ∧ RmP s pm P b s' P' := by
  by_cases e : pm = 8
  · subst e
    exact ⟨_, _, c_253b r hM hb hP hp5, by rw [if_pos rfl]; exact vu_at _ _ _, fun j hj => by rw [vu_ne hj, vu_ne hj], by rw [if_pos rfl]⟩
  · exact ⟨_, _, c_253a r hM hb hP pm hp5 (by omega), by rw [if_neg e, vu_at]; rfl, fun j hj => vu_ne hj, by rw [if_neg e]⟩
theorem cp_274_26 {s : Nat → Int} {res : aRes} {f : Nat → Int} (q : Nat) (hp5 : s 5 = (q : Int)) (hq : q < 8) : ∀ (m k : Nat) {h : aH} {d : Nat → Int}, h.2.2 226 = .inr (8, Mo s) → h.2.2 230 = .inl (0, 1688, .inl f) → h.2.2 227 = .inl (0, 211, .inl d) → k + m = 211 → RU 1 274 res (60, [aR 226, aI ((k + m : Nat) : Int)], [], 0, 0, sw h 227 (.inl (0, 211, .inl (cpF f (211 * q) (0) k m d)))) → RU 1 274 res (26, [aR 226, aI ((k : Nat) : Int)], [], 0, 0, h) := by
  intro m
  induction m with
  | zero =>
    intro k h d hM hf hd hm hk
    refine r_ild cd_274_26 rfl rfl ?_
    refine r_con (v := 211) cd_274_27 rfl (by decide) ?_
    refine r_ic64 cd_274_30 rfl ⟨by omega, by omega⟩ ⟨by omega, by omega⟩ (fun n1 => ?_) (fun n1 => ?_)
    · exact absurd n1 (by omega)
    · rw [sw_id (show h.2.2 227 = .inl (0, 211, .inl (cpF f (211 * q) (0) k 0 d)) from hd)] at hk
      exact hk
  | succ m ih =>
    intro k h d hM hf hd hm hk
    refine r_ild cd_274_26 rfl rfl ?_
    refine r_con (v := 211) cd_274_27 rfl (by decide) ?_
    refine r_ic64 cd_274_30 rfl ⟨by omega, by omega⟩ ⟨by omega, by omega⟩ (fun n1 => ?_) (fun n1 => ?_)
    · refine r_aldR cd_274_33 rfl rfl ?_
      refine r_get cd_274_34 rfl hM rfl ?_
      refine r_ild cd_274_37 rfl rfl ?_
      refine r_aldR cd_274_38 rfl rfl ?_
      refine r_get cd_274_39 rfl hM rfl ?_
      refine r_con (v := 211) cd_274_42 rfl (by decide) ?_
      refine r_aldR cd_274_45 rfl rfl ?_
      refine r_get (v := aI ((q : Nat) : Int)) cd_274_46 rfl hM (by rw [← hp5]; rfl) ?_
      refine r_mul (v := ((211 * q : Nat) : Int)) cd_274_49 rfl (by omega) ?_
      refine r_ild cd_274_50 rfl rfl ?_
      refine r_add (v := ((211 * q + k : Nat) : Int)) cd_274_51 rfl (by omega) ?_
      refine r_arr (i := 211 * q + k) cd_274_52 rfl hf rfl (by omega) rfl ?_
      refine r_arsI (i := 0 + k) cd_274_53 rfl rfl hd (by omega) (by omega) rfl ?_
      refine r_inc (v := ((k + 1 : Nat) : Int)) cd_274_54 rfl rfl rfl (by omega) (L' := [aR 226, aI ((k + 1 : Nat) : Int)]) rfl ?_
      refine r_goto cd_274_57 ?_
      show RU 1 274 res (26, [aR 226, aI ((k + 1 : Nat) : Int)], [], 0, 0, sw h 227 (.inl (0, 211, .inl (va_up d (0 + k) (f (211 * q + k))))))
      refine ih (k + 1) (h := sw h 227 (.inl (0, 211, .inl (va_up d (0 + k) (f (211 * q + k)))))) ((sw_ne (by decide)).trans hM) ((sw_ne (by decide)).trans hf) (sw_at _ _ _) (by omega) ?_
      rw [show cpF f (211 * q) (0) k (m + 1) d = cpF f (211 * q) (0) (k + 1) m (va_up d (0 + k) (f (211 * q + k))) from rfl, show k + (m + 1) = k + 1 + m by omega] at hk
      rw [sw_sw]
      exact hk
    · exact absurd n1 (by omega)
theorem c_274 {h : aH} {s w P v : Nat → Int} (hM : h.2.2 226 = .inr (8, Mo s)) (hw : h.2.2 227 = .inl (0, 211, .inl w)) (hP : h.2.2 230 = .inl (0, 1688, .inl P)) (q : Nat) (hp5 : s 5 = ((q + 1 : Nat) : Int)) (hq : q < 8) (hv : ∀ j, j < 211 → P (211 * q + j) = v j) (hv0 : ∀ j, 211 ≤ j → v j = 0) (hw0 : ∀ j, 211 ≤ j → w j = 0) : Ct 1 274 [aR 226] h (.inl (some (aI ((q : Nat) : Int))), sw (sw h 226 (.inr (8, Mo (va_up (va_up s 15 0) 5 ((q : Nat) : Int))))) 227 (.inl (0, 211, .inl v))) := by
  refine Ct.of [aR 226, aU] rfl ?_
  refine r_aldR cd_274_0 rfl rfl ?_
  refine r_con (v := 0) cd_274_1 rfl (by decide) ?_
  refine r_put (fs' := Mo (va_up s 15 0)) cd_274_2 rfl hM rfl rfl ?_
  refine r_aldR cd_274_5 rfl rfl ?_
  refine r_get (v := aI ((q + 1 : Nat) : Int)) cd_274_6 rfl (sw_at _ _ _) (by rw [← hp5]; rfl) ?_
  refine r_if52 cd_274_9 rfl ⟨by omega, by omega⟩ (fun n1 => ?_) (fun n1 => ?_)
  · exact absurd n1 (by omega)
  · refine r_aldR cd_274_14 rfl rfl ?_
    refine r_dup cd_274_15 rfl rfl ?_
    refine r_get (v := aI ((q + 1 : Nat) : Int)) cd_274_16 rfl (sw_at _ _ _) (by rw [← hp5]; rfl) ?_
    refine r_con (v := 1) cd_274_19 rfl (by decide) ?_
    refine r_sub (v := ((q : Nat) : Int)) cd_274_20 rfl (by omega) ?_
    refine r_put (fs' := Mo (va_up (va_up s 15 0) 5 ((q : Nat) : Int))) cd_274_21 rfl (sw_at _ _ _) rfl rfl ?_
    rw [sw_sw]
    refine r_con (v := 0) cd_274_24 rfl (by decide) ?_
    refine r_ist cd_274_25 rfl rfl (L' := [aR 226, aI 0]) rfl ?_
    refine cp_274_26 q (vu_at _ _ _) hq 211 0 (sw_at _ _ _) ((sw_ne (by decide)).trans hP) ((sw_ne (by decide)).trans hw) (by decide) ?_
    rw [cp_from hv hv0 hw0]
    refine r_aldR cd_274_60 rfl rfl ?_
    refine r_get (v := aI ((q : Nat) : Int)) cd_274_61 rfl ((sw_ne (by decide)).trans (sw_at _ _ _)) (rfl) ?_
    exact r_ret cd_274_64 True.intro (rfl)
theorem d_274 {h : aH} {s : Nat → Int} (hM : h.2.2 226 = .inr (8, Mo s)) (hp5 : s 5 = 0) : Ct 1 274 [aR 226] h (.inl (some (aI (-1))), sw h 226 (.inr (8, Mo (va_up s 15 0)))) := by
  refine Ct.of [aR 226, aU] rfl ?_
  refine r_aldR cd_274_0 rfl rfl ?_
  refine r_con (v := 0) cd_274_1 rfl (by decide) ?_
  refine r_put (fs' := Mo (va_up s 15 0)) cd_274_2 rfl hM rfl rfl ?_
  refine r_aldR cd_274_5 rfl rfl ?_
  refine r_get (v := aI 0) cd_274_6 rfl (sw_at _ _ _) (by rw [← hp5]; rfl) ?_
  refine r_if52 cd_274_9 rfl ⟨by omega, by omega⟩ (fun n1 => ?_) (fun n1 => ?_)
  · refine r_con (v := (-1)) cd_274_12 rfl (by decide) ?_
    exact r_ret cd_274_13 True.intro (rfl)
  · exact absurd n1 (by decide)
theorem cp_276_12 {s : Nat → Int} {res : aRes} {f : Nat → Int} : ∀ (m k : Nat) {h : aH} {d : Nat → Int}, h.2.2 226 = .inr (8, Mo s) → h.2.2 227 = .inl (0, 211, .inl f) → h.2.2 231 = .inl (0, 211, .inl d) → k + m = 211 → RU 1 276 res (37, [aR 226, aI ((k + m : Nat) : Int)], [], 0, 0, sw h 231 (.inl (0, 211, .inl (cpF f (0) (0) k m d)))) → RU 1 276 res (12, [aR 226, aI ((k : Nat) : Int)], [], 0, 0, h) := by
  intro m
  induction m with
  | zero =>
    intro k h d hM hf hd hm hk
    refine r_ild cd_276_12 rfl rfl ?_
    refine r_con (v := 211) cd_276_13 rfl (by decide) ?_
    refine r_ic64 cd_276_16 rfl ⟨by omega, by omega⟩ ⟨by omega, by omega⟩ (fun n1 => ?_) (fun n1 => ?_)
    · exact absurd n1 (by omega)
    · rw [sw_id (show h.2.2 231 = .inl (0, 211, .inl (cpF f (0) (0) k 0 d)) from hd)] at hk
      exact hk
  | succ m ih =>
    intro k h d hM hf hd hm hk
    refine r_ild cd_276_12 rfl rfl ?_
    refine r_con (v := 211) cd_276_13 rfl (by decide) ?_
    refine r_ic64 cd_276_16 rfl ⟨by omega, by omega⟩ ⟨by omega, by omega⟩ (fun n1 => ?_) (fun n1 => ?_)
    · refine r_aldR cd_276_19 rfl rfl ?_
      refine r_get cd_276_20 rfl hM rfl ?_
      refine r_ild cd_276_23 rfl rfl ?_
      refine r_aldR cd_276_24 rfl rfl ?_
      refine r_get cd_276_25 rfl hM rfl ?_
      refine r_ild cd_276_28 rfl rfl ?_
      refine r_arr (i := 0 + k) cd_276_29 rfl hf (by omega) (by omega) rfl ?_
      refine r_arsI (i := 0 + k) cd_276_30 rfl rfl hd (by omega) (by omega) rfl ?_
      refine r_inc (v := ((k + 1 : Nat) : Int)) cd_276_31 rfl rfl rfl (by omega) (L' := [aR 226, aI ((k + 1 : Nat) : Int)]) rfl ?_
      refine r_goto cd_276_34 ?_
      show RU 1 276 res (12, [aR 226, aI ((k + 1 : Nat) : Int)], [], 0, 0, sw h 231 (.inl (0, 211, .inl (va_up d (0 + k) (f (0 + k))))))
      refine ih (k + 1) (h := sw h 231 (.inl (0, 211, .inl (va_up d (0 + k) (f (0 + k)))))) ((sw_ne (by decide)).trans hM) ((sw_ne (by decide)).trans hf) (sw_at _ _ _) (by omega) ?_
      rw [show cpF f (0) (0) k (m + 1) d = cpF f (0) (0) (k + 1) m (va_up d (0 + k) (f (0 + k))) from rfl, show k + (m + 1) = k + 1 + m by omega] at hk
      rw [sw_sw]
      exact hk
    · exact absurd n1 (by omega)
theorem c_276 {h : aH} {s w d : Nat → Int} (hM : h.2.2 226 = .inr (8, Mo s)) (hw : h.2.2 227 = .inl (0, 211, .inl w)) (hd : h.2.2 231 = .inl (0, 211, .inl d)) : Ct 1 276 [aR 226] h (.inl (some (aI (w 1))), sw (sw h 226 (.inr (8, Mo (va_up (va_up s 15 0) 6 1)))) 231 (.inl (0, 211, .inl (cpF w 0 0 0 211 d)))) := by
  refine Ct.of [aR 226, aU] rfl ?_
  refine r_aldR cd_276_0 rfl rfl ?_
  refine r_con (v := 0) cd_276_1 rfl (by decide) ?_
  refine r_put (fs' := Mo (va_up s 15 0)) cd_276_2 rfl hM rfl rfl ?_
  refine r_aldR cd_276_5 rfl rfl ?_
  refine r_con (v := 1) cd_276_6 rfl (by decide) ?_
  refine r_put (fs' := Mo (va_up (va_up s 15 0) 6 1)) cd_276_7 rfl (sw_at _ _ _) rfl rfl ?_
  rw [sw_sw]
  refine r_con (v := 0) cd_276_10 rfl (by decide) ?_
  refine r_ist cd_276_11 rfl rfl (L' := [aR 226, aI 0]) rfl ?_
  refine cp_276_12 (211) 0 (sw_at _ _ _) ((sw_ne (by decide)).trans hw) ((sw_ne (by decide)).trans hd) (by omega) ?_
  refine r_aldR cd_276_37 rfl rfl ?_
  refine r_get cd_276_38 rfl ((sw_ne (by decide)).trans (sw_at _ _ _)) rfl ?_
  refine r_con (v := 1) cd_276_41 rfl (by decide) ?_
  refine r_arr (i := 1) cd_276_42 rfl ((sw_ne (by decide)).trans ((sw_ne (by decide)).trans hw)) rfl (by omega) rfl ?_
  exact r_ret cd_276_43 True.intro (rfl)
theorem cp_277_23 {s : Nat → Int} {res : aRes} {f : Nat → Int} : ∀ (m k : Nat) {h : aH} {d : Nat → Int}, h.2.2 226 = .inr (8, Mo s) → h.2.2 231 = .inl (0, 211, .inl f) → h.2.2 227 = .inl (0, 211, .inl d) → k + m = 211 → RU 2 277 res (48, [aR 226, aI ((k + m : Nat) : Int)], [], 0, 0, sw h 227 (.inl (0, 211, .inl (cpF f (0) (0) k m d)))) → RU 2 277 res (23, [aR 226, aI ((k : Nat) : Int)], [], 0, 0, h) := by
  intro m
  induction m with
  | zero =>
    intro k h d hM hf hd hm hk
    refine r_ild cd_277_23 rfl rfl ?_
    refine r_con (v := 211) cd_277_24 rfl (by decide) ?_
    refine r_ic64 cd_277_27 rfl ⟨by omega, by omega⟩ ⟨by omega, by omega⟩ (fun n1 => ?_) (fun n1 => ?_)
    · exact absurd n1 (by omega)
    · rw [sw_id (show h.2.2 227 = .inl (0, 211, .inl (cpF f (0) (0) k 0 d)) from hd)] at hk
      exact hk
  | succ m ih =>
    intro k h d hM hf hd hm hk
    refine r_ild cd_277_23 rfl rfl ?_
    refine r_con (v := 211) cd_277_24 rfl (by decide) ?_
    refine r_ic64 cd_277_27 rfl ⟨by omega, by omega⟩ ⟨by omega, by omega⟩ (fun n1 => ?_) (fun n1 => ?_)
    · refine r_aldR cd_277_30 rfl rfl ?_
      refine r_get cd_277_31 rfl hM rfl ?_
      refine r_ild cd_277_34 rfl rfl ?_
      refine r_aldR cd_277_35 rfl rfl ?_
      refine r_get cd_277_36 rfl hM rfl ?_
      refine r_ild cd_277_39 rfl rfl ?_
      refine r_arr (i := 0 + k) cd_277_40 rfl hf (by omega) (by omega) rfl ?_
      refine r_arsI (i := 0 + k) cd_277_41 rfl rfl hd (by omega) (by omega) rfl ?_
      refine r_inc (v := ((k + 1 : Nat) : Int)) cd_277_42 rfl rfl rfl (by omega) (L' := [aR 226, aI ((k + 1 : Nat) : Int)]) rfl ?_
      refine r_goto cd_277_45 ?_
      show RU 2 277 res (23, [aR 226, aI ((k + 1 : Nat) : Int)], [], 0, 0, sw h 227 (.inl (0, 211, .inl (va_up d (0 + k) (f (0 + k))))))
      refine ih (k + 1) (h := sw h 227 (.inl (0, 211, .inl (va_up d (0 + k) (f (0 + k)))))) ((sw_ne (by decide)).trans hM) ((sw_ne (by decide)).trans hf) (sw_at _ _ _) (by omega) ?_
      rw [show cpF f (0) (0) k (m + 1) d = cpF f (0) (0) (k + 1) m (va_up d (0 + k) (f (0 + k))) from rfl, show k + (m + 1) = k + 1 + m by omega] at hk
      rw [sw_sw]
      exact hk
    · exact absurd n1 (by omega)
theorem c_277 {h : aH} {s w d v : Nat → Int} (hM : h.2.2 226 = .inr (8, Mo s)) (hw : h.2.2 227 = .inl (0, 211, .inl w)) (hd : h.2.2 231 = .inl (0, 211, .inl d)) (h6 : s 6 = 1) (hv : ∀ j, j < 211 → d j = v j) (hv0 : ∀ j, 211 ≤ j → v j = 0) (hw0 : ∀ j, 211 ≤ j → w j = 0) : Ct 2 277 [aR 226] h (.inl (some (aI (v 1))), sw (sw h 226 (.inr (8, Mo (va_up (va_up s 15 0) 5 0)))) 227 (.inl (0, 211, .inl v))) := by
  refine Ct.of [aR 226, aU] rfl ?_
  refine r_aldR cd_277_0 rfl rfl ?_
  refine r_aldR cd_277_1 rfl rfl ?_
  refine r_get (v := aI 1) cd_277_2 rfl hM (by rw [← h6]; rfl) ?_
  refine r_if52 cd_277_5 rfl ⟨by omega, by omega⟩ (fun n1 => ?_) (fun n1 => ?_)
  · exact absurd n1 (by decide)
  · refine r_con (v := 0) cd_277_12 rfl (by decide) ?_
    refine r_cI (c_250 hM false) cd_277_13 rfl rfl rfl (rc0 hM rfl) rfl rfl rfl ?_
    show RU _ _ _ (_, _, _, _, _, sw _ 226 (.inr (8, Mo (va_up s 15 0))))
    refine r_if51b cd_277_16 rfl (fun n2 => ?_) (fun n2 => ?_)
    · refine r_con (v := 0) cd_277_21 rfl (by decide) ?_
      refine r_ist cd_277_22 rfl rfl (L' := [aR 226, aI 0]) rfl ?_
      refine cp_277_23 211 0 (sw_at _ _ _) ((sw_ne (by decide)).trans hd) ((sw_ne (by decide)).trans hw) (by decide) ?_
      rw [cp_back hv hv0 hw0]
      refine r_aldR cd_277_48 rfl rfl ?_
      refine r_con (v := 0) cd_277_49 rfl (by decide) ?_
      refine r_put (fs' := Mo (va_up (va_up s 15 0) 5 0)) cd_277_50 rfl ((sw_ne (by decide)).trans (sw_at _ _ _)) rfl rfl ?_
      rw [sw_cm (a := 227) (q := 226) _ _ _ (by decide), sw_sw]
      refine r_aldR cd_277_53 rfl rfl ?_
      refine r_get cd_277_54 rfl ((sw_ne (by decide)).trans (sw_at _ _ _)) rfl ?_
      refine r_con (v := 1) cd_277_57 rfl (by decide) ?_
      refine r_arr (i := 1) cd_277_58 rfl (sw_at _ _ _) rfl (by omega) rfl ?_
      exact r_ret cd_277_59 True.intro (rfl)
    · exact absurd n2 (by decide)
theorem b_277 {h : aH} {s : Nat → Int} (hM : h.2.2 226 = .inr (8, Mo s)) (h6 : s 6 = 0) : Ct 2 277 [aR 226] h (.inl (some (aI 0)), sw h 226 (.inr (8, Mo (va_up s 15 1)))) := by
  refine Ct.of [aR 226, aU] rfl ?_
  refine r_aldR cd_277_0 rfl rfl ?_
  refine r_aldR cd_277_1 rfl rfl ?_
  refine r_get (v := aI 0) cd_277_2 rfl hM (by rw [← h6]; rfl) ?_
  refine r_if52 cd_277_5 rfl ⟨by omega, by omega⟩ (fun n1 => ?_) (fun n1 => ?_)
  · refine r_con (v := 1) cd_277_8 rfl (by decide) ?_
    refine r_goto cd_277_9 ?_
    refine r_cI (c_250 hM true) cd_277_13 rfl rfl rfl (rc0 hM rfl) rfl rfl rfl ?_
    refine r_if51b cd_277_16 rfl (fun n2 => ?_) (fun n2 => ?_)
    · exact absurd n2 (by decide)
    · refine r_con (v := 0) cd_277_19 rfl (by decide) ?_
      exact r_ret cd_277_20 True.intro (rfl)
  · exact absurd n1 (by decide)
theorem b_254 {h : aH} {s w : Nat → Int} (hM : h.2.2 226 = .inr (8, Mo s)) (hw : h.2.2 227 = .inl (0, 211, .inl w)) (hI : Inv0 w) (x : Int) (hx : inR x) (z : Int) (hz : inR z) (g9 : ¬ tRoof w x z = 0) : Ct 3 254 [aR 226, aI x, aI z] h (.inl (some (aI 0)), sw h 226 (.inr (8, Mo (va_up s 15 (tRoof w x z))))) := by
  refine Ct.of [aR 226, aI x, aI z] rfl ?_
  have hbn := hI.bNe
  have hpn := hI.pNe
  have x0 := hI.len
  have x1 := hI.hour
  have x2 := hI.gas
  have x3 := hI.leak
  have x4 := hI.gn
  have x5 := hI.bn
  have x6 := hI.pn
  refine r_aldR cd_254_0 rfl rfl ?_
  refine r_aldR cd_254_1 rfl rfl ?_
  refine r_ild cd_254_2 rfl rfl ?_
  refine r_cI (c_244 hM hw hI x hx) cd_254_3 rfl rfl rfl (rc0 hM rfl) rfl rfl rfl ?_
  refine r_if52b cd_254_6 rfl (fun n1 => ?_) (fun n1 => ?_)
  · refine r_con (v := 1) cd_254_9 rfl (by decide) ?_
    refine r_goto cd_254_10 ?_
    refine r_ild cd_254_14 rfl rfl ?_
    refine r_con (v := 0) cd_254_15 rfl (by decide) ?_
    refine r_con (v := 9) cd_254_16 rfl (by decide) ?_
    refine r_cI (c_186 z hz 0 ⟨by omega, by omega⟩ 9 ⟨by omega, by omega⟩) cd_254_18 rfl rfl rfl True.intro rfl rfl rfl ?_
    refine r_if52b cd_254_21 rfl (fun n2 => ?_) (fun n2 => ?_)
    · refine r_con (v := 1) cd_254_24 rfl (by decide) ?_
      refine r_goto cd_254_25 ?_
      refine r_cI (c_255 hM true true) cd_254_29 rfl rfl rfl (rc0 hM rfl) rfl rfl rfl ?_
      refine r_if51b cd_254_32 rfl (fun n3 => ?_) (fun n3 => ?_)
      · exact absurd n3 (by decide)
      · refine r_con (v := 0) cd_254_35 rfl (by decide) ?_
        refine r_goto cd_254_36 ?_
        exact r_ret cd_254_48 True.intro (by first | (simp [tRoof, bz, n1, n2]; done) | (simp_all [tRoof, bz]; done))
    · refine r_con (v := 0) cd_254_28 rfl (by decide) ?_
      refine r_cI (c_255 hM true false) cd_254_29 rfl rfl rfl (rc0 hM rfl) rfl rfl rfl ?_
      refine r_if51b cd_254_32 rfl (fun n4 => ?_) (fun n4 => ?_)
      · exact absurd n4 (by decide)
      · refine r_con (v := 0) cd_254_35 rfl (by decide) ?_
        refine r_goto cd_254_36 ?_
        exact r_ret cd_254_48 True.intro (by first | (simp [tRoof, bz, n1, n2]; done) | (simp_all [tRoof, bz]; done))
  · refine r_con (v := 0) cd_254_13 rfl (by decide) ?_
    refine r_ild cd_254_14 rfl rfl ?_
    refine r_con (v := 0) cd_254_15 rfl (by decide) ?_
    refine r_con (v := 9) cd_254_16 rfl (by decide) ?_
    refine r_cI (c_186 z hz 0 ⟨by omega, by omega⟩ 9 ⟨by omega, by omega⟩) cd_254_18 rfl rfl rfl True.intro rfl rfl rfl ?_
    refine r_if52b cd_254_21 rfl (fun n5 => ?_) (fun n5 => ?_)
    · refine r_con (v := 1) cd_254_24 rfl (by decide) ?_
      refine r_goto cd_254_25 ?_
      refine r_cI (c_255 hM false true) cd_254_29 rfl rfl rfl (rc0 hM rfl) rfl rfl rfl ?_
      refine r_if51b cd_254_32 rfl (fun n6 => ?_) (fun n6 => ?_)
      · exact absurd n6 (by decide)
      · refine r_con (v := 0) cd_254_35 rfl (by decide) ?_
        refine r_goto cd_254_36 ?_
        exact r_ret cd_254_48 True.intro (by first | (simp [tRoof, bz, n1, n5]; done) | (simp_all [tRoof, bz]; done))
    · refine r_con (v := 0) cd_254_28 rfl (by decide) ?_
      refine r_cI (c_255 hM false false) cd_254_29 rfl rfl rfl (rc0 hM rfl) rfl rfl rfl ?_
      show RU _ _ _ (_, _, _, _, _, sw _ 226 (.inr (8, Mo (va_up s 15 0))))
      exact absurd (by simp [tRoof, n1, n5]) g9
theorem b_257 {h : aH} {s w : Nat → Int} (hM : h.2.2 226 = .inr (8, Mo s)) (hw : h.2.2 227 = .inl (0, 211, .inl w)) (hI : Inv0 w) (x : Int) (hx : inR x) (z : Int) (hz : inR z) (g9 : ¬ tRoof w x z = 0) : Ct 3 257 [aR 226, aI x, aI z] h (.inl (some (aI 0)), sw h 226 (.inr (8, Mo (va_up s 15 (tRoof w x z))))) := by
  refine Ct.of [aR 226, aI x, aI z] rfl ?_
  have hbn := hI.bNe
  have hpn := hI.pNe
  have x0 := hI.len
  have x1 := hI.hour
  have x2 := hI.gas
  have x3 := hI.leak
  have x4 := hI.gn
  have x5 := hI.bn
  have x6 := hI.pn
  refine r_aldR cd_257_0 rfl rfl ?_
  refine r_aldR cd_257_1 rfl rfl ?_
  refine r_ild cd_257_2 rfl rfl ?_
  refine r_cI (c_244 hM hw hI x hx) cd_257_3 rfl rfl rfl (rc0 hM rfl) rfl rfl rfl ?_
  refine r_if52b cd_257_6 rfl (fun n1 => ?_) (fun n1 => ?_)
  · refine r_con (v := 1) cd_257_9 rfl (by decide) ?_
    refine r_goto cd_257_10 ?_
    refine r_ild cd_257_14 rfl rfl ?_
    refine r_con (v := 0) cd_257_15 rfl (by decide) ?_
    refine r_con (v := 9) cd_257_16 rfl (by decide) ?_
    refine r_cI (c_186 z hz 0 ⟨by omega, by omega⟩ 9 ⟨by omega, by omega⟩) cd_257_18 rfl rfl rfl True.intro rfl rfl rfl ?_
    refine r_if52b cd_257_21 rfl (fun n2 => ?_) (fun n2 => ?_)
    · refine r_con (v := 1) cd_257_24 rfl (by decide) ?_
      refine r_goto cd_257_25 ?_
      refine r_cI (c_255 hM true true) cd_257_29 rfl rfl rfl (rc0 hM rfl) rfl rfl rfl ?_
      refine r_if51b cd_257_32 rfl (fun n3 => ?_) (fun n3 => ?_)
      · exact absurd n3 (by decide)
      · refine r_con (v := 0) cd_257_35 rfl (by decide) ?_
        refine r_goto cd_257_36 ?_
        exact r_ret cd_257_48 True.intro (by first | (simp [tRoof, bz, n1, n2]; done) | (simp_all [tRoof, bz]; done))
    · refine r_con (v := 0) cd_257_28 rfl (by decide) ?_
      refine r_cI (c_255 hM true false) cd_257_29 rfl rfl rfl (rc0 hM rfl) rfl rfl rfl ?_
      refine r_if51b cd_257_32 rfl (fun n4 => ?_) (fun n4 => ?_)
      · exact absurd n4 (by decide)
      · refine r_con (v := 0) cd_257_35 rfl (by decide) ?_
        refine r_goto cd_257_36 ?_
        exact r_ret cd_257_48 True.intro (by first | (simp [tRoof, bz, n1, n2]; done) | (simp_all [tRoof, bz]; done))
  · refine r_con (v := 0) cd_257_13 rfl (by decide) ?_
    refine r_ild cd_257_14 rfl rfl ?_
    refine r_con (v := 0) cd_257_15 rfl (by decide) ?_
    refine r_con (v := 9) cd_257_16 rfl (by decide) ?_
    refine r_cI (c_186 z hz 0 ⟨by omega, by omega⟩ 9 ⟨by omega, by omega⟩) cd_257_18 rfl rfl rfl True.intro rfl rfl rfl ?_
    refine r_if52b cd_257_21 rfl (fun n5 => ?_) (fun n5 => ?_)
    · refine r_con (v := 1) cd_257_24 rfl (by decide) ?_
      refine r_goto cd_257_25 ?_
      refine r_cI (c_255 hM false true) cd_257_29 rfl rfl rfl (rc0 hM rfl) rfl rfl rfl ?_
      refine r_if51b cd_257_32 rfl (fun n6 => ?_) (fun n6 => ?_)
      · exact absurd n6 (by decide)
      · refine r_con (v := 0) cd_257_35 rfl (by decide) ?_
        refine r_goto cd_257_36 ?_
        exact r_ret cd_257_48 True.intro (by first | (simp [tRoof, bz, n1, n5]; done) | (simp_all [tRoof, bz]; done))
    · refine r_con (v := 0) cd_257_28 rfl (by decide) ?_
      refine r_cI (c_255 hM false false) cd_257_29 rfl rfl rfl (rc0 hM rfl) rfl rfl rfl ?_
      show RU _ _ _ (_, _, _, _, _, sw _ 226 (.inr (8, Mo (va_up s 15 0))))
      exact absurd (by simp [tRoof, n1, n5]) g9
theorem b_258 {h : aH} {s w : Nat → Int} (hM : h.2.2 226 = .inr (8, Mo s)) (hw : h.2.2 227 = .inl (0, 211, .inl w)) (hI : Inv0 w) (x : Int) (hx : inR x) (g9 : ¬ tGust w x = 0) : Ct 2 258 [aR 226, aI x] h (.inl (some (aI 0)), sw h 226 (.inr (8, Mo (va_up s 15 (tGust w x))))) := by
  refine Ct.of [aR 226, aI x] rfl ?_
  have hbn := hI.bNe
  have hpn := hI.pNe
  have x0 := hI.len
  have x1 := hI.hour
  have x2 := hI.gas
  have x3 := hI.leak
  have x4 := hI.gn
  have x5 := hI.bn
  have x6 := hI.pn
  refine r_aldR cd_258_0 rfl rfl ?_
  refine r_ild cd_258_1 rfl rfl ?_
  refine r_con (v := (-3)) cd_258_2 rfl (by decide) ?_
  refine r_con (v := 3) cd_258_4 rfl (by decide) ?_
  refine r_cI (c_186 x hx (-3) ⟨by omega, by omega⟩ 3 ⟨by omega, by omega⟩) cd_258_5 rfl rfl rfl True.intro rfl rfl rfl ?_
  refine r_if52b cd_258_8 rfl (fun n1 => ?_) (fun n1 => ?_)
  · refine r_con (v := 1) cd_258_11 rfl (by decide) ?_
    refine r_goto cd_258_12 ?_
    refine r_aldR cd_258_16 rfl rfl ?_
    refine r_get cd_258_17 rfl hM rfl ?_
    refine r_con (v := 4) cd_258_20 rfl (by decide) ?_
    refine r_arr (i := 4) cd_258_21 rfl hw rfl (by omega) rfl ?_
    refine r_con (v := 12) cd_258_22 rfl (by decide) ?_
    refine r_ic62 cd_258_24 rfl (inR_of hI.gn (by decide) (by decide)) ⟨by omega, by omega⟩ (fun n2 => ?_) (fun n2 => ?_)
    · refine r_con (v := 1) cd_258_27 rfl (by decide) ?_
      refine r_goto cd_258_28 ?_
      refine r_cI (c_255 hM true true) cd_258_32 rfl rfl rfl (rc0 hM rfl) rfl rfl rfl ?_
      refine r_if51b cd_258_35 rfl (fun n3 => ?_) (fun n3 => ?_)
      · exact absurd n3 (by decide)
      · refine r_con (v := 0) cd_258_38 rfl (by decide) ?_
        exact r_ret cd_258_39 True.intro (by first | (simp [tGust, bz, n1, n2]; done) | (simp_all [tGust, bz]; done))
    · refine r_con (v := 0) cd_258_31 rfl (by decide) ?_
      refine r_cI (c_255 hM true false) cd_258_32 rfl rfl rfl (rc0 hM rfl) rfl rfl rfl ?_
      refine r_if51b cd_258_35 rfl (fun n4 => ?_) (fun n4 => ?_)
      · exact absurd n4 (by decide)
      · refine r_con (v := 0) cd_258_38 rfl (by decide) ?_
        exact r_ret cd_258_39 True.intro (by first | (simp [tGust, bz, n1, n2]; done) | (simp_all [tGust, bz]; done))
  · refine r_con (v := 0) cd_258_15 rfl (by decide) ?_
    refine r_aldR cd_258_16 rfl rfl ?_
    refine r_get cd_258_17 rfl hM rfl ?_
    refine r_con (v := 4) cd_258_20 rfl (by decide) ?_
    refine r_arr (i := 4) cd_258_21 rfl hw rfl (by omega) rfl ?_
    refine r_con (v := 12) cd_258_22 rfl (by decide) ?_
    refine r_ic62 cd_258_24 rfl (inR_of hI.gn (by decide) (by decide)) ⟨by omega, by omega⟩ (fun n5 => ?_) (fun n5 => ?_)
    · refine r_con (v := 1) cd_258_27 rfl (by decide) ?_
      refine r_goto cd_258_28 ?_
      refine r_cI (c_255 hM false true) cd_258_32 rfl rfl rfl (rc0 hM rfl) rfl rfl rfl ?_
      refine r_if51b cd_258_35 rfl (fun n6 => ?_) (fun n6 => ?_)
      · exact absurd n6 (by decide)
      · refine r_con (v := 0) cd_258_38 rfl (by decide) ?_
        exact r_ret cd_258_39 True.intro (by first | (simp [tGust, bz, n1, n5]; done) | (simp_all [tGust, bz]; done))
    · refine r_con (v := 0) cd_258_31 rfl (by decide) ?_
      refine r_cI (c_255 hM false false) cd_258_32 rfl rfl rfl (rc0 hM rfl) rfl rfl rfl ?_
      show RU _ _ _ (_, _, _, _, _, sw _ 226 (.inr (8, Mo (va_up s 15 0))))
      exact absurd (by simp [tGust, n1, n5]) g9
theorem b_259 {h : aH} {s w : Nat → Int} (hM : h.2.2 226 = .inr (8, Mo s)) (hw : h.2.2 227 = .inl (0, 211, .inl w)) (hI : Inv0 w) (x : Int) (hx : inR x) (g9 : ¬ tLeak x = 0) : Ct 3 259 [aR 226, aI x] h (.inl (some (aI 0)), sw h 226 (.inr (8, Mo (va_up s 15 (tLeak x))))) := by
  refine Ct.of [aR 226, aI x] rfl ?_
  have hbn := hI.bNe
  have hpn := hI.pNe
  have x0 := hI.len
  have x1 := hI.hour
  have x2 := hI.gas
  have x3 := hI.leak
  have x4 := hI.gn
  have x5 := hI.bn
  have x6 := hI.pn
  refine r_aldR cd_259_0 rfl rfl ?_
  refine r_ild cd_259_1 rfl rfl ?_
  refine r_con (v := 1) cd_259_2 rfl (by decide) ?_
  refine r_con (v := 9) cd_259_3 rfl (by decide) ?_
  refine r_cI (c_186 x hx 1 ⟨by omega, by omega⟩ 9 ⟨by omega, by omega⟩) cd_259_5 rfl rfl rfl True.intro rfl rfl rfl ?_
  refine r_if52b cd_259_8 rfl (fun n1 => ?_) (fun n1 => ?_)
  · refine r_con (v := 1) cd_259_11 rfl (by decide) ?_
    refine r_goto cd_259_12 ?_
    refine r_cI (c_250 hM true) cd_259_16 rfl rfl rfl (rc0 hM rfl) rfl rfl rfl ?_
    refine r_if51b cd_259_19 rfl (fun n2 => ?_) (fun n2 => ?_)
    · exact absurd n2 (by decide)
    · refine r_con (v := 0) cd_259_22 rfl (by decide) ?_
      refine r_goto cd_259_23 ?_
      exact r_ret cd_259_32 True.intro (by first | (simp [tLeak, bz, n1]; done) | (simp_all [tLeak, bz]; done))
  · refine r_con (v := 0) cd_259_15 rfl (by decide) ?_
    refine r_cI (c_250 hM false) cd_259_16 rfl rfl rfl (rc0 hM rfl) rfl rfl rfl ?_
    show RU _ _ _ (_, _, _, _, _, sw _ 226 (.inr (8, Mo (va_up s 15 0))))
    exact absurd (by simp [tLeak, n1]) g9
theorem b_260 {h : aH} {s w : Nat → Int} (hM : h.2.2 226 = .inr (8, Mo s)) (hw : h.2.2 227 = .inl (0, 211, .inl w)) (hI : Inv0 w) (x : Int) (hx : inR x) (l : Int) (hl : inR l) (t : Int) (ht : inR t) (g9 : ¬ tBalo w x l t = 0) : Ct 3 260 [aR 226, aI x, aI l, aI t] h (.inl (some (aI 0)), sw h 226 (.inr (8, Mo (va_up s 15 (tBalo w x l t))))) := by
  refine Ct.of [aR 226, aI x, aI l, aI t] rfl ?_
  have hbn := hI.bNe
  have hpn := hI.pNe
  have x0 := hI.len
  have x1 := hI.hour
  have x2 := hI.gas
  have x3 := hI.leak
  have x4 := hI.gn
  have x5 := hI.bn
  have x6 := hI.pn
  refine r_aldR cd_260_0 rfl rfl ?_
  refine r_aldR cd_260_1 rfl rfl ?_
  refine r_ild cd_260_2 rfl rfl ?_
  refine r_cI (c_244 hM hw hI x hx) cd_260_3 rfl rfl rfl (rc0 hM rfl) rfl rfl rfl ?_
  refine r_if52b cd_260_6 rfl (fun n1 => ?_) (fun n1 => ?_)
  · refine r_con (v := 1) cd_260_9 rfl (by decide) ?_
    refine r_goto cd_260_10 ?_
    refine r_ild cd_260_14 rfl rfl ?_
    refine r_con (v := 1) cd_260_15 rfl (by decide) ?_
    refine r_con (v := 30) cd_260_16 rfl (by decide) ?_
    refine r_cI (c_186 l hl 1 ⟨by omega, by omega⟩ 30 ⟨by omega, by omega⟩) cd_260_18 rfl rfl rfl True.intro rfl rfl rfl ?_
    refine r_if51b cd_260_21 rfl (fun n2 => ?_) (fun n2 => ?_)
    · refine r_con (v := 1) cd_260_34 rfl (by decide) ?_
      refine r_goto cd_260_35 ?_
      refine r_aldR cd_260_39 rfl rfl ?_
      refine r_get cd_260_40 rfl hM rfl ?_
      refine r_con (v := 5) cd_260_43 rfl (by decide) ?_
      refine r_arr (i := 5) cd_260_44 rfl hw rfl (by omega) rfl ?_
      refine r_con (v := 8) cd_260_45 rfl (by decide) ?_
      refine r_ic62 cd_260_47 rfl (inR_of hI.bn (by decide) (by decide)) ⟨by omega, by omega⟩ (fun n3 => ?_) (fun n3 => ?_)
      · refine r_con (v := 1) cd_260_50 rfl (by decide) ?_
        refine r_goto cd_260_51 ?_
        refine r_cI (c_261 hM true true true) cd_260_55 rfl rfl rfl (rc0 hM rfl) rfl rfl rfl ?_
        refine r_if51b cd_260_58 rfl (fun n4 => ?_) (fun n4 => ?_)
        · exact absurd n4 (by decide)
        · refine r_con (v := 0) cd_260_61 rfl (by decide) ?_
          exact r_ret cd_260_62 True.intro (by first | (simp [tBalo, bz, n1, n2, n3]; done) | (simp_all [tBalo, bz]; done))
      · refine r_con (v := 0) cd_260_54 rfl (by decide) ?_
        refine r_cI (c_261 hM true true false) cd_260_55 rfl rfl rfl (rc0 hM rfl) rfl rfl rfl ?_
        refine r_if51b cd_260_58 rfl (fun n5 => ?_) (fun n5 => ?_)
        · exact absurd n5 (by decide)
        · refine r_con (v := 0) cd_260_61 rfl (by decide) ?_
          exact r_ret cd_260_62 True.intro (by first | (simp [tBalo, bz, n1, n2, n3]; done) | (simp_all [tBalo, bz]; done))
    · refine r_ild cd_260_24 rfl rfl ?_
      refine r_con (v := 1) cd_260_25 rfl (by decide) ?_
      refine r_con (v := 9) cd_260_26 rfl (by decide) ?_
      refine r_cI (c_186 t ht 1 ⟨by omega, by omega⟩ 9 ⟨by omega, by omega⟩) cd_260_28 rfl rfl rfl True.intro rfl rfl rfl ?_
      refine r_if52b cd_260_31 rfl (fun n6 => ?_) (fun n6 => ?_)
      · refine r_con (v := 1) cd_260_34 rfl (by decide) ?_
        refine r_goto cd_260_35 ?_
        refine r_aldR cd_260_39 rfl rfl ?_
        refine r_get cd_260_40 rfl hM rfl ?_
        refine r_con (v := 5) cd_260_43 rfl (by decide) ?_
        refine r_arr (i := 5) cd_260_44 rfl hw rfl (by omega) rfl ?_
        refine r_con (v := 8) cd_260_45 rfl (by decide) ?_
        refine r_ic62 cd_260_47 rfl (inR_of hI.bn (by decide) (by decide)) ⟨by omega, by omega⟩ (fun n7 => ?_) (fun n7 => ?_)
        · refine r_con (v := 1) cd_260_50 rfl (by decide) ?_
          refine r_goto cd_260_51 ?_
          refine r_cI (c_261 hM true true true) cd_260_55 rfl rfl rfl (rc0 hM rfl) rfl rfl rfl ?_
          refine r_if51b cd_260_58 rfl (fun n8 => ?_) (fun n8 => ?_)
          · exact absurd n8 (by decide)
          · refine r_con (v := 0) cd_260_61 rfl (by decide) ?_
            exact r_ret cd_260_62 True.intro (by first | (simp [tBalo, bz, n1, n2, n6, n7]; done) | (simp_all [tBalo, bz]; done))
        · refine r_con (v := 0) cd_260_54 rfl (by decide) ?_
          refine r_cI (c_261 hM true true false) cd_260_55 rfl rfl rfl (rc0 hM rfl) rfl rfl rfl ?_
          refine r_if51b cd_260_58 rfl (fun n9 => ?_) (fun n9 => ?_)
          · exact absurd n9 (by decide)
          · refine r_con (v := 0) cd_260_61 rfl (by decide) ?_
            exact r_ret cd_260_62 True.intro (by first | (simp [tBalo, bz, n1, n2, n6, n7]; done) | (simp_all [tBalo, bz]; done))
      · refine r_con (v := 0) cd_260_38 rfl (by decide) ?_
        refine r_aldR cd_260_39 rfl rfl ?_
        refine r_get cd_260_40 rfl hM rfl ?_
        refine r_con (v := 5) cd_260_43 rfl (by decide) ?_
        refine r_arr (i := 5) cd_260_44 rfl hw rfl (by omega) rfl ?_
        refine r_con (v := 8) cd_260_45 rfl (by decide) ?_
        refine r_ic62 cd_260_47 rfl (inR_of hI.bn (by decide) (by decide)) ⟨by omega, by omega⟩ (fun n10 => ?_) (fun n10 => ?_)
        · refine r_con (v := 1) cd_260_50 rfl (by decide) ?_
          refine r_goto cd_260_51 ?_
          refine r_cI (c_261 hM true false true) cd_260_55 rfl rfl rfl (rc0 hM rfl) rfl rfl rfl ?_
          refine r_if51b cd_260_58 rfl (fun n11 => ?_) (fun n11 => ?_)
          · exact absurd n11 (by decide)
          · refine r_con (v := 0) cd_260_61 rfl (by decide) ?_
            exact r_ret cd_260_62 True.intro (by first | (simp [tBalo, bz, n1, n2, n6, n10]; done) | (simp_all [tBalo, bz]; done))
        · refine r_con (v := 0) cd_260_54 rfl (by decide) ?_
          refine r_cI (c_261 hM true false false) cd_260_55 rfl rfl rfl (rc0 hM rfl) rfl rfl rfl ?_
          refine r_if51b cd_260_58 rfl (fun n12 => ?_) (fun n12 => ?_)
          · exact absurd n12 (by decide)
          · refine r_con (v := 0) cd_260_61 rfl (by decide) ?_
            exact r_ret cd_260_62 True.intro (by first | (simp [tBalo, bz, n1, n2, n6, n10]; done) | (simp_all [tBalo, bz]; done))
  · refine r_con (v := 0) cd_260_13 rfl (by decide) ?_
    refine r_ild cd_260_14 rfl rfl ?_
    refine r_con (v := 1) cd_260_15 rfl (by decide) ?_
    refine r_con (v := 30) cd_260_16 rfl (by decide) ?_
    refine r_cI (c_186 l hl 1 ⟨by omega, by omega⟩ 30 ⟨by omega, by omega⟩) cd_260_18 rfl rfl rfl True.intro rfl rfl rfl ?_
    refine r_if51b cd_260_21 rfl (fun n13 => ?_) (fun n13 => ?_)
    · refine r_con (v := 1) cd_260_34 rfl (by decide) ?_
      refine r_goto cd_260_35 ?_
      refine r_aldR cd_260_39 rfl rfl ?_
      refine r_get cd_260_40 rfl hM rfl ?_
      refine r_con (v := 5) cd_260_43 rfl (by decide) ?_
      refine r_arr (i := 5) cd_260_44 rfl hw rfl (by omega) rfl ?_
      refine r_con (v := 8) cd_260_45 rfl (by decide) ?_
      refine r_ic62 cd_260_47 rfl (inR_of hI.bn (by decide) (by decide)) ⟨by omega, by omega⟩ (fun n14 => ?_) (fun n14 => ?_)
      · refine r_con (v := 1) cd_260_50 rfl (by decide) ?_
        refine r_goto cd_260_51 ?_
        refine r_cI (c_261 hM false true true) cd_260_55 rfl rfl rfl (rc0 hM rfl) rfl rfl rfl ?_
        refine r_if51b cd_260_58 rfl (fun n15 => ?_) (fun n15 => ?_)
        · exact absurd n15 (by decide)
        · refine r_con (v := 0) cd_260_61 rfl (by decide) ?_
          exact r_ret cd_260_62 True.intro (by first | (simp [tBalo, bz, n1, n13, n14]; done) | (simp_all [tBalo, bz]; done))
      · refine r_con (v := 0) cd_260_54 rfl (by decide) ?_
        refine r_cI (c_261 hM false true false) cd_260_55 rfl rfl rfl (rc0 hM rfl) rfl rfl rfl ?_
        refine r_if51b cd_260_58 rfl (fun n16 => ?_) (fun n16 => ?_)
        · exact absurd n16 (by decide)
        · refine r_con (v := 0) cd_260_61 rfl (by decide) ?_
          exact r_ret cd_260_62 True.intro (by first | (simp [tBalo, bz, n1, n13, n14]; done) | (simp_all [tBalo, bz]; done))
    · refine r_ild cd_260_24 rfl rfl ?_
      refine r_con (v := 1) cd_260_25 rfl (by decide) ?_
      refine r_con (v := 9) cd_260_26 rfl (by decide) ?_
      refine r_cI (c_186 t ht 1 ⟨by omega, by omega⟩ 9 ⟨by omega, by omega⟩) cd_260_28 rfl rfl rfl True.intro rfl rfl rfl ?_
      refine r_if52b cd_260_31 rfl (fun n17 => ?_) (fun n17 => ?_)
      · refine r_con (v := 1) cd_260_34 rfl (by decide) ?_
        refine r_goto cd_260_35 ?_
        refine r_aldR cd_260_39 rfl rfl ?_
        refine r_get cd_260_40 rfl hM rfl ?_
        refine r_con (v := 5) cd_260_43 rfl (by decide) ?_
        refine r_arr (i := 5) cd_260_44 rfl hw rfl (by omega) rfl ?_
        refine r_con (v := 8) cd_260_45 rfl (by decide) ?_
        refine r_ic62 cd_260_47 rfl (inR_of hI.bn (by decide) (by decide)) ⟨by omega, by omega⟩ (fun n18 => ?_) (fun n18 => ?_)
        · refine r_con (v := 1) cd_260_50 rfl (by decide) ?_
          refine r_goto cd_260_51 ?_
          refine r_cI (c_261 hM false true true) cd_260_55 rfl rfl rfl (rc0 hM rfl) rfl rfl rfl ?_
          refine r_if51b cd_260_58 rfl (fun n19 => ?_) (fun n19 => ?_)
          · exact absurd n19 (by decide)
          · refine r_con (v := 0) cd_260_61 rfl (by decide) ?_
            exact r_ret cd_260_62 True.intro (by first | (simp [tBalo, bz, n1, n13, n17, n18]; done) | (simp_all [tBalo, bz]; done))
        · refine r_con (v := 0) cd_260_54 rfl (by decide) ?_
          refine r_cI (c_261 hM false true false) cd_260_55 rfl rfl rfl (rc0 hM rfl) rfl rfl rfl ?_
          refine r_if51b cd_260_58 rfl (fun n20 => ?_) (fun n20 => ?_)
          · exact absurd n20 (by decide)
          · refine r_con (v := 0) cd_260_61 rfl (by decide) ?_
            exact r_ret cd_260_62 True.intro (by first | (simp [tBalo, bz, n1, n13, n17, n18]; done) | (simp_all [tBalo, bz]; done))
      · refine r_con (v := 0) cd_260_38 rfl (by decide) ?_
        refine r_aldR cd_260_39 rfl rfl ?_
        refine r_get cd_260_40 rfl hM rfl ?_
        refine r_con (v := 5) cd_260_43 rfl (by decide) ?_
        refine r_arr (i := 5) cd_260_44 rfl hw rfl (by omega) rfl ?_
        refine r_con (v := 8) cd_260_45 rfl (by decide) ?_
        refine r_ic62 cd_260_47 rfl (inR_of hI.bn (by decide) (by decide)) ⟨by omega, by omega⟩ (fun n21 => ?_) (fun n21 => ?_)
        · refine r_con (v := 1) cd_260_50 rfl (by decide) ?_
          refine r_goto cd_260_51 ?_
          refine r_cI (c_261 hM false false true) cd_260_55 rfl rfl rfl (rc0 hM rfl) rfl rfl rfl ?_
          refine r_if51b cd_260_58 rfl (fun n22 => ?_) (fun n22 => ?_)
          · exact absurd n22 (by decide)
          · refine r_con (v := 0) cd_260_61 rfl (by decide) ?_
            exact r_ret cd_260_62 True.intro (by first | (simp [tBalo, bz, n1, n13, n17, n21]; done) | (simp_all [tBalo, bz]; done))
        · refine r_con (v := 0) cd_260_54 rfl (by decide) ?_
          refine r_cI (c_261 hM false false false) cd_260_55 rfl rfl rfl (rc0 hM rfl) rfl rfl rfl ?_
          show RU _ _ _ (_, _, _, _, _, sw _ 226 (.inr (8, Mo (va_up s 15 0))))
          exact absurd (by simp [tBalo, n1, n13, n17, n21]) g9
theorem b_262 {h : aH} {s w : Nat → Int} (hM : h.2.2 226 = .inr (8, Mo s)) (hw : h.2.2 227 = .inl (0, 211, .inl w)) (hI : Inv0 w) (g : Int) (hg : inR g) (x : Int) (hx : inR x) (z : Int) (hz : inR z) (n : Int) (hn : inR n) (g9 : ¬ tParc w g x z n = 0) : Ct 3 262 [aR 226, aI g, aI x, aI z, aI n] h (.inl (some (aI 0)), sw h 226 (.inr (8, Mo (va_up s 15 (tParc w g x z n))))) := by
  refine Ct.of [aR 226, aI g, aI x, aI z, aI n, aU] rfl ?_
  have hbn := hI.bNe
  have hpn := hI.pNe
  have x0 := hI.len
  have x1 := hI.hour
  have x2 := hI.gas
  have x3 := hI.leak
  have x4 := hI.gn
  have x5 := hI.bn
  have x6 := hI.pn
  have hnb := numbd_b (w := w) n
  refine r_ild cd_262_0 rfl rfl ?_
  refine r_ild cd_262_1 rfl rfl ?_
  refine r_ic61 cd_262_2 rfl hx hz (fun n1 => ?_) (fun n1 => ?_)
  · refine r_con (v := 1) cd_262_26 rfl (by decide) ?_
    refine r_goto cd_262_27 ?_
    refine r_ist cd_262_31 rfl rfl (L' := [aR 226, aI g, aI x, aI z, aI n, aI 1]) rfl ?_
    refine r_aldR cd_262_33 rfl rfl ?_
    refine r_aldR cd_262_34 rfl rfl ?_
    refine r_ild cd_262_35 rfl rfl ?_
    refine r_cI (c_244 hM hw hI x hx) cd_262_36 rfl rfl rfl (rc0 hM rfl) rfl rfl rfl ?_
    refine r_if51b cd_262_39 rfl (fun n2 => ?_) (fun n2 => ?_)
    · refine r_con (v := 1) cd_262_50 rfl (by decide) ?_
      refine r_goto cd_262_51 ?_
      refine r_ild cd_262_55 rfl rfl ?_
      refine r_aldR cd_262_57 rfl rfl ?_
      refine r_get cd_262_58 rfl hM rfl ?_
      refine r_con (v := 6) cd_262_61 rfl (by decide) ?_
      refine r_arr (i := 6) cd_262_63 rfl hw rfl (by omega) rfl ?_
      refine r_con (v := 16) cd_262_64 rfl (by decide) ?_
      refine r_ic61 cd_262_66 rfl (inR_of hI.pn (by decide) (by decide)) ⟨by omega, by omega⟩ (fun n3 => ?_) (fun n3 => ?_)
      · refine r_con (v := 1) cd_262_79 rfl (by decide) ?_
        refine r_goto cd_262_80 ?_
        refine r_cI (c_261 hM true true true) cd_262_84 rfl rfl rfl (rc0 hM rfl) rfl rfl rfl ?_
        refine r_if51b cd_262_87 rfl (fun n4 => ?_) (fun n4 => ?_)
        · exact absurd n4 (by decide)
        · refine r_con (v := 0) cd_262_90 rfl (by decide) ?_
          exact r_ret cd_262_91 True.intro (by first | (simp [tParc, bz, n1, n2, n3]; done) | (simp_all [tParc, bz]; done))
      · refine r_aldR cd_262_69 rfl rfl ?_
        refine r_ild cd_262_70 rfl rfl ?_
        refine r_cI (c_202 hM hw hI n hn) cd_262_72 rfl rfl rfl (rc0 hM rfl) rfl rfl rfl ?_
        refine r_con (v := (-1)) cd_262_75 rfl (by decide) ?_
        refine r_ic61 cd_262_76 rfl ⟨by omega, by omega⟩ ⟨by omega, by omega⟩ (fun n5 => ?_) (fun n5 => ?_)
        · refine r_con (v := 0) cd_262_83 rfl (by decide) ?_
          refine r_cI (c_261 hM true true false) cd_262_84 rfl rfl rfl (rc0 hM rfl) rfl rfl rfl ?_
          refine r_if51b cd_262_87 rfl (fun n6 => ?_) (fun n6 => ?_)
          · exact absurd n6 (by decide)
          · refine r_con (v := 0) cd_262_90 rfl (by decide) ?_
            exact r_ret cd_262_91 True.intro (by first | (simp [tParc, bz, n1, n2, n3, n5]; done) | (simp_all [tParc, bz]; done))
        · refine r_con (v := 1) cd_262_79 rfl (by decide) ?_
          refine r_goto cd_262_80 ?_
          refine r_cI (c_261 hM true true true) cd_262_84 rfl rfl rfl (rc0 hM rfl) rfl rfl rfl ?_
          refine r_if51b cd_262_87 rfl (fun n7 => ?_) (fun n7 => ?_)
          · exact absurd n7 (by decide)
          · refine r_con (v := 0) cd_262_90 rfl (by decide) ?_
            exact r_ret cd_262_91 True.intro (by first | (simp [tParc, bz, n1, n2, n3, n5]; done) | (simp_all [tParc, bz]; done))
    · refine r_aldR cd_262_42 rfl rfl ?_
      refine r_ild cd_262_43 rfl rfl ?_
      refine r_cI (c_244 hM hw hI z hz) cd_262_44 rfl rfl rfl (rc0 hM rfl) rfl rfl rfl ?_
      refine r_if52b cd_262_47 rfl (fun n8 => ?_) (fun n8 => ?_)
      · refine r_con (v := 1) cd_262_50 rfl (by decide) ?_
        refine r_goto cd_262_51 ?_
        refine r_ild cd_262_55 rfl rfl ?_
        refine r_aldR cd_262_57 rfl rfl ?_
        refine r_get cd_262_58 rfl hM rfl ?_
        refine r_con (v := 6) cd_262_61 rfl (by decide) ?_
        refine r_arr (i := 6) cd_262_63 rfl hw rfl (by omega) rfl ?_
        refine r_con (v := 16) cd_262_64 rfl (by decide) ?_
        refine r_ic61 cd_262_66 rfl (inR_of hI.pn (by decide) (by decide)) ⟨by omega, by omega⟩ (fun n9 => ?_) (fun n9 => ?_)
        · refine r_con (v := 1) cd_262_79 rfl (by decide) ?_
          refine r_goto cd_262_80 ?_
          refine r_cI (c_261 hM true true true) cd_262_84 rfl rfl rfl (rc0 hM rfl) rfl rfl rfl ?_
          refine r_if51b cd_262_87 rfl (fun n10 => ?_) (fun n10 => ?_)
          · exact absurd n10 (by decide)
          · refine r_con (v := 0) cd_262_90 rfl (by decide) ?_
            exact r_ret cd_262_91 True.intro (by first | (simp [tParc, bz, n1, n2, n8, n9]; done) | (simp_all [tParc, bz]; done))
        · refine r_aldR cd_262_69 rfl rfl ?_
          refine r_ild cd_262_70 rfl rfl ?_
          refine r_cI (c_202 hM hw hI n hn) cd_262_72 rfl rfl rfl (rc0 hM rfl) rfl rfl rfl ?_
          refine r_con (v := (-1)) cd_262_75 rfl (by decide) ?_
          refine r_ic61 cd_262_76 rfl ⟨by omega, by omega⟩ ⟨by omega, by omega⟩ (fun n11 => ?_) (fun n11 => ?_)
          · refine r_con (v := 0) cd_262_83 rfl (by decide) ?_
            refine r_cI (c_261 hM true true false) cd_262_84 rfl rfl rfl (rc0 hM rfl) rfl rfl rfl ?_
            refine r_if51b cd_262_87 rfl (fun n12 => ?_) (fun n12 => ?_)
            · exact absurd n12 (by decide)
            · refine r_con (v := 0) cd_262_90 rfl (by decide) ?_
              exact r_ret cd_262_91 True.intro (by first | (simp [tParc, bz, n1, n2, n8, n9, n11]; done) | (simp_all [tParc, bz]; done))
          · refine r_con (v := 1) cd_262_79 rfl (by decide) ?_
            refine r_goto cd_262_80 ?_
            refine r_cI (c_261 hM true true true) cd_262_84 rfl rfl rfl (rc0 hM rfl) rfl rfl rfl ?_
            refine r_if51b cd_262_87 rfl (fun n13 => ?_) (fun n13 => ?_)
            · exact absurd n13 (by decide)
            · refine r_con (v := 0) cd_262_90 rfl (by decide) ?_
              exact r_ret cd_262_91 True.intro (by first | (simp [tParc, bz, n1, n2, n8, n9, n11]; done) | (simp_all [tParc, bz]; done))
      · refine r_con (v := 0) cd_262_54 rfl (by decide) ?_
        refine r_ild cd_262_55 rfl rfl ?_
        refine r_aldR cd_262_57 rfl rfl ?_
        refine r_get cd_262_58 rfl hM rfl ?_
        refine r_con (v := 6) cd_262_61 rfl (by decide) ?_
        refine r_arr (i := 6) cd_262_63 rfl hw rfl (by omega) rfl ?_
        refine r_con (v := 16) cd_262_64 rfl (by decide) ?_
        refine r_ic61 cd_262_66 rfl (inR_of hI.pn (by decide) (by decide)) ⟨by omega, by omega⟩ (fun n14 => ?_) (fun n14 => ?_)
        · refine r_con (v := 1) cd_262_79 rfl (by decide) ?_
          refine r_goto cd_262_80 ?_
          refine r_cI (c_261 hM false true true) cd_262_84 rfl rfl rfl (rc0 hM rfl) rfl rfl rfl ?_
          refine r_if51b cd_262_87 rfl (fun n15 => ?_) (fun n15 => ?_)
          · exact absurd n15 (by decide)
          · refine r_con (v := 0) cd_262_90 rfl (by decide) ?_
            exact r_ret cd_262_91 True.intro (by first | (simp [tParc, bz, n1, n2, n8, n14]; done) | (simp_all [tParc, bz]; done))
        · refine r_aldR cd_262_69 rfl rfl ?_
          refine r_ild cd_262_70 rfl rfl ?_
          refine r_cI (c_202 hM hw hI n hn) cd_262_72 rfl rfl rfl (rc0 hM rfl) rfl rfl rfl ?_
          refine r_con (v := (-1)) cd_262_75 rfl (by decide) ?_
          refine r_ic61 cd_262_76 rfl ⟨by omega, by omega⟩ ⟨by omega, by omega⟩ (fun n16 => ?_) (fun n16 => ?_)
          · refine r_con (v := 0) cd_262_83 rfl (by decide) ?_
            refine r_cI (c_261 hM false true false) cd_262_84 rfl rfl rfl (rc0 hM rfl) rfl rfl rfl ?_
            refine r_if51b cd_262_87 rfl (fun n17 => ?_) (fun n17 => ?_)
            · exact absurd n17 (by decide)
            · refine r_con (v := 0) cd_262_90 rfl (by decide) ?_
              exact r_ret cd_262_91 True.intro (by first | (simp [tParc, bz, n1, n2, n8, n14, n16]; done) | (simp_all [tParc, bz]; done))
          · refine r_con (v := 1) cd_262_79 rfl (by decide) ?_
            refine r_goto cd_262_80 ?_
            refine r_cI (c_261 hM false true true) cd_262_84 rfl rfl rfl (rc0 hM rfl) rfl rfl rfl ?_
            refine r_if51b cd_262_87 rfl (fun n18 => ?_) (fun n18 => ?_)
            · exact absurd n18 (by decide)
            · refine r_con (v := 0) cd_262_90 rfl (by decide) ?_
              exact r_ret cd_262_91 True.intro (by first | (simp [tParc, bz, n1, n2, n8, n14, n16]; done) | (simp_all [tParc, bz]; done))
  · refine r_ild cd_262_5 rfl rfl ?_
    refine r_con (v := 1) cd_262_6 rfl (by decide) ?_
    refine r_con (v := 9) cd_262_7 rfl (by decide) ?_
    refine r_cI (c_186 g hg 1 ⟨by omega, by omega⟩ 9 ⟨by omega, by omega⟩) cd_262_9 rfl rfl rfl True.intro rfl rfl rfl ?_
    refine r_if51b cd_262_12 rfl (fun n19 => ?_) (fun n19 => ?_)
    · refine r_con (v := 1) cd_262_26 rfl (by decide) ?_
      refine r_goto cd_262_27 ?_
      refine r_ist cd_262_31 rfl rfl (L' := [aR 226, aI g, aI x, aI z, aI n, aI 1]) rfl ?_
      refine r_aldR cd_262_33 rfl rfl ?_
      refine r_aldR cd_262_34 rfl rfl ?_
      refine r_ild cd_262_35 rfl rfl ?_
      refine r_cI (c_244 hM hw hI x hx) cd_262_36 rfl rfl rfl (rc0 hM rfl) rfl rfl rfl ?_
      refine r_if51b cd_262_39 rfl (fun n20 => ?_) (fun n20 => ?_)
      · refine r_con (v := 1) cd_262_50 rfl (by decide) ?_
        refine r_goto cd_262_51 ?_
        refine r_ild cd_262_55 rfl rfl ?_
        refine r_aldR cd_262_57 rfl rfl ?_
        refine r_get cd_262_58 rfl hM rfl ?_
        refine r_con (v := 6) cd_262_61 rfl (by decide) ?_
        refine r_arr (i := 6) cd_262_63 rfl hw rfl (by omega) rfl ?_
        refine r_con (v := 16) cd_262_64 rfl (by decide) ?_
        refine r_ic61 cd_262_66 rfl (inR_of hI.pn (by decide) (by decide)) ⟨by omega, by omega⟩ (fun n21 => ?_) (fun n21 => ?_)
        · refine r_con (v := 1) cd_262_79 rfl (by decide) ?_
          refine r_goto cd_262_80 ?_
          refine r_cI (c_261 hM true true true) cd_262_84 rfl rfl rfl (rc0 hM rfl) rfl rfl rfl ?_
          refine r_if51b cd_262_87 rfl (fun n22 => ?_) (fun n22 => ?_)
          · exact absurd n22 (by decide)
          · refine r_con (v := 0) cd_262_90 rfl (by decide) ?_
            exact r_ret cd_262_91 True.intro (by first | (simp [tParc, bz, n1, n19, n20, n21]; done) | (simp_all [tParc, bz]; done))
        · refine r_aldR cd_262_69 rfl rfl ?_
          refine r_ild cd_262_70 rfl rfl ?_
          refine r_cI (c_202 hM hw hI n hn) cd_262_72 rfl rfl rfl (rc0 hM rfl) rfl rfl rfl ?_
          refine r_con (v := (-1)) cd_262_75 rfl (by decide) ?_
          refine r_ic61 cd_262_76 rfl ⟨by omega, by omega⟩ ⟨by omega, by omega⟩ (fun n23 => ?_) (fun n23 => ?_)
          · refine r_con (v := 0) cd_262_83 rfl (by decide) ?_
            refine r_cI (c_261 hM true true false) cd_262_84 rfl rfl rfl (rc0 hM rfl) rfl rfl rfl ?_
            refine r_if51b cd_262_87 rfl (fun n24 => ?_) (fun n24 => ?_)
            · exact absurd n24 (by decide)
            · refine r_con (v := 0) cd_262_90 rfl (by decide) ?_
              exact r_ret cd_262_91 True.intro (by first | (simp [tParc, bz, n1, n19, n20, n21, n23]; done) | (simp_all [tParc, bz]; done))
          · refine r_con (v := 1) cd_262_79 rfl (by decide) ?_
            refine r_goto cd_262_80 ?_
            refine r_cI (c_261 hM true true true) cd_262_84 rfl rfl rfl (rc0 hM rfl) rfl rfl rfl ?_
            refine r_if51b cd_262_87 rfl (fun n25 => ?_) (fun n25 => ?_)
            · exact absurd n25 (by decide)
            · refine r_con (v := 0) cd_262_90 rfl (by decide) ?_
              exact r_ret cd_262_91 True.intro (by first | (simp [tParc, bz, n1, n19, n20, n21, n23]; done) | (simp_all [tParc, bz]; done))
      · refine r_aldR cd_262_42 rfl rfl ?_
        refine r_ild cd_262_43 rfl rfl ?_
        refine r_cI (c_244 hM hw hI z hz) cd_262_44 rfl rfl rfl (rc0 hM rfl) rfl rfl rfl ?_
        refine r_if52b cd_262_47 rfl (fun n26 => ?_) (fun n26 => ?_)
        · refine r_con (v := 1) cd_262_50 rfl (by decide) ?_
          refine r_goto cd_262_51 ?_
          refine r_ild cd_262_55 rfl rfl ?_
          refine r_aldR cd_262_57 rfl rfl ?_
          refine r_get cd_262_58 rfl hM rfl ?_
          refine r_con (v := 6) cd_262_61 rfl (by decide) ?_
          refine r_arr (i := 6) cd_262_63 rfl hw rfl (by omega) rfl ?_
          refine r_con (v := 16) cd_262_64 rfl (by decide) ?_
          refine r_ic61 cd_262_66 rfl (inR_of hI.pn (by decide) (by decide)) ⟨by omega, by omega⟩ (fun n27 => ?_) (fun n27 => ?_)
          · refine r_con (v := 1) cd_262_79 rfl (by decide) ?_
            refine r_goto cd_262_80 ?_
            refine r_cI (c_261 hM true true true) cd_262_84 rfl rfl rfl (rc0 hM rfl) rfl rfl rfl ?_
            refine r_if51b cd_262_87 rfl (fun n28 => ?_) (fun n28 => ?_)
            · exact absurd n28 (by decide)
            · refine r_con (v := 0) cd_262_90 rfl (by decide) ?_
              exact r_ret cd_262_91 True.intro (by first | (simp [tParc, bz, n1, n19, n20, n26, n27]; done) | (simp_all [tParc, bz]; done))
          · refine r_aldR cd_262_69 rfl rfl ?_
            refine r_ild cd_262_70 rfl rfl ?_
            refine r_cI (c_202 hM hw hI n hn) cd_262_72 rfl rfl rfl (rc0 hM rfl) rfl rfl rfl ?_
            refine r_con (v := (-1)) cd_262_75 rfl (by decide) ?_
            refine r_ic61 cd_262_76 rfl ⟨by omega, by omega⟩ ⟨by omega, by omega⟩ (fun n29 => ?_) (fun n29 => ?_)
            · refine r_con (v := 0) cd_262_83 rfl (by decide) ?_
              refine r_cI (c_261 hM true true false) cd_262_84 rfl rfl rfl (rc0 hM rfl) rfl rfl rfl ?_
              refine r_if51b cd_262_87 rfl (fun n30 => ?_) (fun n30 => ?_)
              · exact absurd n30 (by decide)
              · refine r_con (v := 0) cd_262_90 rfl (by decide) ?_
                exact r_ret cd_262_91 True.intro (by first | (simp [tParc, bz, n1, n19, n20, n26, n27, n29]; done) | (simp_all [tParc, bz]; done))
            · refine r_con (v := 1) cd_262_79 rfl (by decide) ?_
              refine r_goto cd_262_80 ?_
              refine r_cI (c_261 hM true true true) cd_262_84 rfl rfl rfl (rc0 hM rfl) rfl rfl rfl ?_
              refine r_if51b cd_262_87 rfl (fun n31 => ?_) (fun n31 => ?_)
              · exact absurd n31 (by decide)
              · refine r_con (v := 0) cd_262_90 rfl (by decide) ?_
                exact r_ret cd_262_91 True.intro (by first | (simp [tParc, bz, n1, n19, n20, n26, n27, n29]; done) | (simp_all [tParc, bz]; done))
        · refine r_con (v := 0) cd_262_54 rfl (by decide) ?_
          refine r_ild cd_262_55 rfl rfl ?_
          refine r_aldR cd_262_57 rfl rfl ?_
          refine r_get cd_262_58 rfl hM rfl ?_
          refine r_con (v := 6) cd_262_61 rfl (by decide) ?_
          refine r_arr (i := 6) cd_262_63 rfl hw rfl (by omega) rfl ?_
          refine r_con (v := 16) cd_262_64 rfl (by decide) ?_
          refine r_ic61 cd_262_66 rfl (inR_of hI.pn (by decide) (by decide)) ⟨by omega, by omega⟩ (fun n32 => ?_) (fun n32 => ?_)
          · refine r_con (v := 1) cd_262_79 rfl (by decide) ?_
            refine r_goto cd_262_80 ?_
            refine r_cI (c_261 hM false true true) cd_262_84 rfl rfl rfl (rc0 hM rfl) rfl rfl rfl ?_
            refine r_if51b cd_262_87 rfl (fun n33 => ?_) (fun n33 => ?_)
            · exact absurd n33 (by decide)
            · refine r_con (v := 0) cd_262_90 rfl (by decide) ?_
              exact r_ret cd_262_91 True.intro (by first | (simp [tParc, bz, n1, n19, n20, n26, n32]; done) | (simp_all [tParc, bz]; done))
          · refine r_aldR cd_262_69 rfl rfl ?_
            refine r_ild cd_262_70 rfl rfl ?_
            refine r_cI (c_202 hM hw hI n hn) cd_262_72 rfl rfl rfl (rc0 hM rfl) rfl rfl rfl ?_
            refine r_con (v := (-1)) cd_262_75 rfl (by decide) ?_
            refine r_ic61 cd_262_76 rfl ⟨by omega, by omega⟩ ⟨by omega, by omega⟩ (fun n34 => ?_) (fun n34 => ?_)
            · refine r_con (v := 0) cd_262_83 rfl (by decide) ?_
              refine r_cI (c_261 hM false true false) cd_262_84 rfl rfl rfl (rc0 hM rfl) rfl rfl rfl ?_
              refine r_if51b cd_262_87 rfl (fun n35 => ?_) (fun n35 => ?_)
              · exact absurd n35 (by decide)
              · refine r_con (v := 0) cd_262_90 rfl (by decide) ?_
                exact r_ret cd_262_91 True.intro (by first | (simp [tParc, bz, n1, n19, n20, n26, n32, n34]; done) | (simp_all [tParc, bz]; done))
            · refine r_con (v := 1) cd_262_79 rfl (by decide) ?_
              refine r_goto cd_262_80 ?_
              refine r_cI (c_261 hM false true true) cd_262_84 rfl rfl rfl (rc0 hM rfl) rfl rfl rfl ?_
              refine r_if51b cd_262_87 rfl (fun n36 => ?_) (fun n36 => ?_)
              · exact absurd n36 (by decide)
              · refine r_con (v := 0) cd_262_90 rfl (by decide) ?_
                exact r_ret cd_262_91 True.intro (by first | (simp [tParc, bz, n1, n19, n20, n26, n32, n34]; done) | (simp_all [tParc, bz]; done))
    · refine r_ild cd_262_15 rfl rfl ?_
      refine r_con (v := 0) cd_262_17 rfl (by decide) ?_
      refine r_con (v := 99) cd_262_18 rfl (by decide) ?_
      refine r_cI (c_186 n hn 0 ⟨by omega, by omega⟩ 99 ⟨by omega, by omega⟩) cd_262_20 rfl rfl rfl True.intro rfl rfl rfl ?_
      refine r_if52b cd_262_23 rfl (fun n37 => ?_) (fun n37 => ?_)
      · refine r_con (v := 1) cd_262_26 rfl (by decide) ?_
        refine r_goto cd_262_27 ?_
        refine r_ist cd_262_31 rfl rfl (L' := [aR 226, aI g, aI x, aI z, aI n, aI 1]) rfl ?_
        refine r_aldR cd_262_33 rfl rfl ?_
        refine r_aldR cd_262_34 rfl rfl ?_
        refine r_ild cd_262_35 rfl rfl ?_
        refine r_cI (c_244 hM hw hI x hx) cd_262_36 rfl rfl rfl (rc0 hM rfl) rfl rfl rfl ?_
        refine r_if51b cd_262_39 rfl (fun n38 => ?_) (fun n38 => ?_)
        · refine r_con (v := 1) cd_262_50 rfl (by decide) ?_
          refine r_goto cd_262_51 ?_
          refine r_ild cd_262_55 rfl rfl ?_
          refine r_aldR cd_262_57 rfl rfl ?_
          refine r_get cd_262_58 rfl hM rfl ?_
          refine r_con (v := 6) cd_262_61 rfl (by decide) ?_
          refine r_arr (i := 6) cd_262_63 rfl hw rfl (by omega) rfl ?_
          refine r_con (v := 16) cd_262_64 rfl (by decide) ?_
          refine r_ic61 cd_262_66 rfl (inR_of hI.pn (by decide) (by decide)) ⟨by omega, by omega⟩ (fun n39 => ?_) (fun n39 => ?_)
          · refine r_con (v := 1) cd_262_79 rfl (by decide) ?_
            refine r_goto cd_262_80 ?_
            refine r_cI (c_261 hM true true true) cd_262_84 rfl rfl rfl (rc0 hM rfl) rfl rfl rfl ?_
            refine r_if51b cd_262_87 rfl (fun n40 => ?_) (fun n40 => ?_)
            · exact absurd n40 (by decide)
            · refine r_con (v := 0) cd_262_90 rfl (by decide) ?_
              exact r_ret cd_262_91 True.intro (by first | (simp [tParc, bz, n1, n19, n37, n38, n39]; done) | (simp_all [tParc, bz]; done))
          · refine r_aldR cd_262_69 rfl rfl ?_
            refine r_ild cd_262_70 rfl rfl ?_
            refine r_cI (c_202 hM hw hI n hn) cd_262_72 rfl rfl rfl (rc0 hM rfl) rfl rfl rfl ?_
            refine r_con (v := (-1)) cd_262_75 rfl (by decide) ?_
            refine r_ic61 cd_262_76 rfl ⟨by omega, by omega⟩ ⟨by omega, by omega⟩ (fun n41 => ?_) (fun n41 => ?_)
            · refine r_con (v := 0) cd_262_83 rfl (by decide) ?_
              refine r_cI (c_261 hM true true false) cd_262_84 rfl rfl rfl (rc0 hM rfl) rfl rfl rfl ?_
              refine r_if51b cd_262_87 rfl (fun n42 => ?_) (fun n42 => ?_)
              · exact absurd n42 (by decide)
              · refine r_con (v := 0) cd_262_90 rfl (by decide) ?_
                exact r_ret cd_262_91 True.intro (by first | (simp [tParc, bz, n1, n19, n37, n38, n39, n41]; done) | (simp_all [tParc, bz]; done))
            · refine r_con (v := 1) cd_262_79 rfl (by decide) ?_
              refine r_goto cd_262_80 ?_
              refine r_cI (c_261 hM true true true) cd_262_84 rfl rfl rfl (rc0 hM rfl) rfl rfl rfl ?_
              refine r_if51b cd_262_87 rfl (fun n43 => ?_) (fun n43 => ?_)
              · exact absurd n43 (by decide)
              · refine r_con (v := 0) cd_262_90 rfl (by decide) ?_
                exact r_ret cd_262_91 True.intro (by first | (simp [tParc, bz, n1, n19, n37, n38, n39, n41]; done) | (simp_all [tParc, bz]; done))
        · refine r_aldR cd_262_42 rfl rfl ?_
          refine r_ild cd_262_43 rfl rfl ?_
          refine r_cI (c_244 hM hw hI z hz) cd_262_44 rfl rfl rfl (rc0 hM rfl) rfl rfl rfl ?_
          refine r_if52b cd_262_47 rfl (fun n44 => ?_) (fun n44 => ?_)
          · refine r_con (v := 1) cd_262_50 rfl (by decide) ?_
            refine r_goto cd_262_51 ?_
            refine r_ild cd_262_55 rfl rfl ?_
            refine r_aldR cd_262_57 rfl rfl ?_
            refine r_get cd_262_58 rfl hM rfl ?_
            refine r_con (v := 6) cd_262_61 rfl (by decide) ?_
            refine r_arr (i := 6) cd_262_63 rfl hw rfl (by omega) rfl ?_
            refine r_con (v := 16) cd_262_64 rfl (by decide) ?_
            refine r_ic61 cd_262_66 rfl (inR_of hI.pn (by decide) (by decide)) ⟨by omega, by omega⟩ (fun n45 => ?_) (fun n45 => ?_)
            · refine r_con (v := 1) cd_262_79 rfl (by decide) ?_
              refine r_goto cd_262_80 ?_
              refine r_cI (c_261 hM true true true) cd_262_84 rfl rfl rfl (rc0 hM rfl) rfl rfl rfl ?_
              refine r_if51b cd_262_87 rfl (fun n46 => ?_) (fun n46 => ?_)
              · exact absurd n46 (by decide)
              · refine r_con (v := 0) cd_262_90 rfl (by decide) ?_
                exact r_ret cd_262_91 True.intro (by first | (simp [tParc, bz, n1, n19, n37, n38, n44, n45]; done) | (simp_all [tParc, bz]; done))
            · refine r_aldR cd_262_69 rfl rfl ?_
              refine r_ild cd_262_70 rfl rfl ?_
              refine r_cI (c_202 hM hw hI n hn) cd_262_72 rfl rfl rfl (rc0 hM rfl) rfl rfl rfl ?_
              refine r_con (v := (-1)) cd_262_75 rfl (by decide) ?_
              refine r_ic61 cd_262_76 rfl ⟨by omega, by omega⟩ ⟨by omega, by omega⟩ (fun n47 => ?_) (fun n47 => ?_)
              · refine r_con (v := 0) cd_262_83 rfl (by decide) ?_
                refine r_cI (c_261 hM true true false) cd_262_84 rfl rfl rfl (rc0 hM rfl) rfl rfl rfl ?_
                refine r_if51b cd_262_87 rfl (fun n48 => ?_) (fun n48 => ?_)
                · exact absurd n48 (by decide)
                · refine r_con (v := 0) cd_262_90 rfl (by decide) ?_
                  exact r_ret cd_262_91 True.intro (by first | (simp [tParc, bz, n1, n19, n37, n38, n44, n45, n47]; done) | (simp_all [tParc, bz]; done))
              · refine r_con (v := 1) cd_262_79 rfl (by decide) ?_
                refine r_goto cd_262_80 ?_
                refine r_cI (c_261 hM true true true) cd_262_84 rfl rfl rfl (rc0 hM rfl) rfl rfl rfl ?_
                refine r_if51b cd_262_87 rfl (fun n49 => ?_) (fun n49 => ?_)
                · exact absurd n49 (by decide)
                · refine r_con (v := 0) cd_262_90 rfl (by decide) ?_
                  exact r_ret cd_262_91 True.intro (by first | (simp [tParc, bz, n1, n19, n37, n38, n44, n45, n47]; done) | (simp_all [tParc, bz]; done))
          · refine r_con (v := 0) cd_262_54 rfl (by decide) ?_
            refine r_ild cd_262_55 rfl rfl ?_
            refine r_aldR cd_262_57 rfl rfl ?_
            refine r_get cd_262_58 rfl hM rfl ?_
            refine r_con (v := 6) cd_262_61 rfl (by decide) ?_
            refine r_arr (i := 6) cd_262_63 rfl hw rfl (by omega) rfl ?_
            refine r_con (v := 16) cd_262_64 rfl (by decide) ?_
            refine r_ic61 cd_262_66 rfl (inR_of hI.pn (by decide) (by decide)) ⟨by omega, by omega⟩ (fun n50 => ?_) (fun n50 => ?_)
            · refine r_con (v := 1) cd_262_79 rfl (by decide) ?_
              refine r_goto cd_262_80 ?_
              refine r_cI (c_261 hM false true true) cd_262_84 rfl rfl rfl (rc0 hM rfl) rfl rfl rfl ?_
              refine r_if51b cd_262_87 rfl (fun n51 => ?_) (fun n51 => ?_)
              · exact absurd n51 (by decide)
              · refine r_con (v := 0) cd_262_90 rfl (by decide) ?_
                exact r_ret cd_262_91 True.intro (by first | (simp [tParc, bz, n1, n19, n37, n38, n44, n50]; done) | (simp_all [tParc, bz]; done))
            · refine r_aldR cd_262_69 rfl rfl ?_
              refine r_ild cd_262_70 rfl rfl ?_
              refine r_cI (c_202 hM hw hI n hn) cd_262_72 rfl rfl rfl (rc0 hM rfl) rfl rfl rfl ?_
              refine r_con (v := (-1)) cd_262_75 rfl (by decide) ?_
              refine r_ic61 cd_262_76 rfl ⟨by omega, by omega⟩ ⟨by omega, by omega⟩ (fun n52 => ?_) (fun n52 => ?_)
              · refine r_con (v := 0) cd_262_83 rfl (by decide) ?_
                refine r_cI (c_261 hM false true false) cd_262_84 rfl rfl rfl (rc0 hM rfl) rfl rfl rfl ?_
                refine r_if51b cd_262_87 rfl (fun n53 => ?_) (fun n53 => ?_)
                · exact absurd n53 (by decide)
                · refine r_con (v := 0) cd_262_90 rfl (by decide) ?_
                  exact r_ret cd_262_91 True.intro (by first | (simp [tParc, bz, n1, n19, n37, n38, n44, n50, n52]; done) | (simp_all [tParc, bz]; done))
              · refine r_con (v := 1) cd_262_79 rfl (by decide) ?_
                refine r_goto cd_262_80 ?_
                refine r_cI (c_261 hM false true true) cd_262_84 rfl rfl rfl (rc0 hM rfl) rfl rfl rfl ?_
                refine r_if51b cd_262_87 rfl (fun n54 => ?_) (fun n54 => ?_)
                · exact absurd n54 (by decide)
                · refine r_con (v := 0) cd_262_90 rfl (by decide) ?_
                  exact r_ret cd_262_91 True.intro (by first | (simp [tParc, bz, n1, n19, n37, n38, n44, n50, n52]; done) | (simp_all [tParc, bz]; done))
      · refine r_con (v := 0) cd_262_30 rfl (by decide) ?_
        refine r_ist cd_262_31 rfl rfl (L' := [aR 226, aI g, aI x, aI z, aI n, aI 0]) rfl ?_
        refine r_aldR cd_262_33 rfl rfl ?_
        refine r_aldR cd_262_34 rfl rfl ?_
        refine r_ild cd_262_35 rfl rfl ?_
        refine r_cI (c_244 hM hw hI x hx) cd_262_36 rfl rfl rfl (rc0 hM rfl) rfl rfl rfl ?_
        refine r_if51b cd_262_39 rfl (fun n55 => ?_) (fun n55 => ?_)
        · refine r_con (v := 1) cd_262_50 rfl (by decide) ?_
          refine r_goto cd_262_51 ?_
          refine r_ild cd_262_55 rfl rfl ?_
          refine r_aldR cd_262_57 rfl rfl ?_
          refine r_get cd_262_58 rfl hM rfl ?_
          refine r_con (v := 6) cd_262_61 rfl (by decide) ?_
          refine r_arr (i := 6) cd_262_63 rfl hw rfl (by omega) rfl ?_
          refine r_con (v := 16) cd_262_64 rfl (by decide) ?_
          refine r_ic61 cd_262_66 rfl (inR_of hI.pn (by decide) (by decide)) ⟨by omega, by omega⟩ (fun n56 => ?_) (fun n56 => ?_)
          · refine r_con (v := 1) cd_262_79 rfl (by decide) ?_
            refine r_goto cd_262_80 ?_
            refine r_cI (c_261 hM true false true) cd_262_84 rfl rfl rfl (rc0 hM rfl) rfl rfl rfl ?_
            refine r_if51b cd_262_87 rfl (fun n57 => ?_) (fun n57 => ?_)
            · exact absurd n57 (by decide)
            · refine r_con (v := 0) cd_262_90 rfl (by decide) ?_
              exact r_ret cd_262_91 True.intro (by first | (simp [tParc, bz, n1, n19, n37, n55, n56]; done) | (simp_all [tParc, bz]; done))
          · refine r_aldR cd_262_69 rfl rfl ?_
            refine r_ild cd_262_70 rfl rfl ?_
            refine r_cI (c_202 hM hw hI n hn) cd_262_72 rfl rfl rfl (rc0 hM rfl) rfl rfl rfl ?_
            refine r_con (v := (-1)) cd_262_75 rfl (by decide) ?_
            refine r_ic61 cd_262_76 rfl ⟨by omega, by omega⟩ ⟨by omega, by omega⟩ (fun n58 => ?_) (fun n58 => ?_)
            · refine r_con (v := 0) cd_262_83 rfl (by decide) ?_
              refine r_cI (c_261 hM true false false) cd_262_84 rfl rfl rfl (rc0 hM rfl) rfl rfl rfl ?_
              refine r_if51b cd_262_87 rfl (fun n59 => ?_) (fun n59 => ?_)
              · exact absurd n59 (by decide)
              · refine r_con (v := 0) cd_262_90 rfl (by decide) ?_
                exact r_ret cd_262_91 True.intro (by first | (simp [tParc, bz, n1, n19, n37, n55, n56, n58]; done) | (simp_all [tParc, bz]; done))
            · refine r_con (v := 1) cd_262_79 rfl (by decide) ?_
              refine r_goto cd_262_80 ?_
              refine r_cI (c_261 hM true false true) cd_262_84 rfl rfl rfl (rc0 hM rfl) rfl rfl rfl ?_
              refine r_if51b cd_262_87 rfl (fun n60 => ?_) (fun n60 => ?_)
              · exact absurd n60 (by decide)
              · refine r_con (v := 0) cd_262_90 rfl (by decide) ?_
                exact r_ret cd_262_91 True.intro (by first | (simp [tParc, bz, n1, n19, n37, n55, n56, n58]; done) | (simp_all [tParc, bz]; done))
        · refine r_aldR cd_262_42 rfl rfl ?_
          refine r_ild cd_262_43 rfl rfl ?_
          refine r_cI (c_244 hM hw hI z hz) cd_262_44 rfl rfl rfl (rc0 hM rfl) rfl rfl rfl ?_
          refine r_if52b cd_262_47 rfl (fun n61 => ?_) (fun n61 => ?_)
          · refine r_con (v := 1) cd_262_50 rfl (by decide) ?_
            refine r_goto cd_262_51 ?_
            refine r_ild cd_262_55 rfl rfl ?_
            refine r_aldR cd_262_57 rfl rfl ?_
            refine r_get cd_262_58 rfl hM rfl ?_
            refine r_con (v := 6) cd_262_61 rfl (by decide) ?_
            refine r_arr (i := 6) cd_262_63 rfl hw rfl (by omega) rfl ?_
            refine r_con (v := 16) cd_262_64 rfl (by decide) ?_
            refine r_ic61 cd_262_66 rfl (inR_of hI.pn (by decide) (by decide)) ⟨by omega, by omega⟩ (fun n62 => ?_) (fun n62 => ?_)
            · refine r_con (v := 1) cd_262_79 rfl (by decide) ?_
              refine r_goto cd_262_80 ?_
              refine r_cI (c_261 hM true false true) cd_262_84 rfl rfl rfl (rc0 hM rfl) rfl rfl rfl ?_
              refine r_if51b cd_262_87 rfl (fun n63 => ?_) (fun n63 => ?_)
              · exact absurd n63 (by decide)
              · refine r_con (v := 0) cd_262_90 rfl (by decide) ?_
                exact r_ret cd_262_91 True.intro (by first | (simp [tParc, bz, n1, n19, n37, n55, n61, n62]; done) | (simp_all [tParc, bz]; done))
            · refine r_aldR cd_262_69 rfl rfl ?_
              refine r_ild cd_262_70 rfl rfl ?_
              refine r_cI (c_202 hM hw hI n hn) cd_262_72 rfl rfl rfl (rc0 hM rfl) rfl rfl rfl ?_
              refine r_con (v := (-1)) cd_262_75 rfl (by decide) ?_
              refine r_ic61 cd_262_76 rfl ⟨by omega, by omega⟩ ⟨by omega, by omega⟩ (fun n64 => ?_) (fun n64 => ?_)
              · refine r_con (v := 0) cd_262_83 rfl (by decide) ?_
                refine r_cI (c_261 hM true false false) cd_262_84 rfl rfl rfl (rc0 hM rfl) rfl rfl rfl ?_
                refine r_if51b cd_262_87 rfl (fun n65 => ?_) (fun n65 => ?_)
                · exact absurd n65 (by decide)
                · refine r_con (v := 0) cd_262_90 rfl (by decide) ?_
                  exact r_ret cd_262_91 True.intro (by first | (simp [tParc, bz, n1, n19, n37, n55, n61, n62, n64]; done) | (simp_all [tParc, bz]; done))
              · refine r_con (v := 1) cd_262_79 rfl (by decide) ?_
                refine r_goto cd_262_80 ?_
                refine r_cI (c_261 hM true false true) cd_262_84 rfl rfl rfl (rc0 hM rfl) rfl rfl rfl ?_
                refine r_if51b cd_262_87 rfl (fun n66 => ?_) (fun n66 => ?_)
                · exact absurd n66 (by decide)
                · refine r_con (v := 0) cd_262_90 rfl (by decide) ?_
                  exact r_ret cd_262_91 True.intro (by first | (simp [tParc, bz, n1, n19, n37, n55, n61, n62, n64]; done) | (simp_all [tParc, bz]; done))
          · refine r_con (v := 0) cd_262_54 rfl (by decide) ?_
            refine r_ild cd_262_55 rfl rfl ?_
            refine r_aldR cd_262_57 rfl rfl ?_
            refine r_get cd_262_58 rfl hM rfl ?_
            refine r_con (v := 6) cd_262_61 rfl (by decide) ?_
            refine r_arr (i := 6) cd_262_63 rfl hw rfl (by omega) rfl ?_
            refine r_con (v := 16) cd_262_64 rfl (by decide) ?_
            refine r_ic61 cd_262_66 rfl (inR_of hI.pn (by decide) (by decide)) ⟨by omega, by omega⟩ (fun n67 => ?_) (fun n67 => ?_)
            · refine r_con (v := 1) cd_262_79 rfl (by decide) ?_
              refine r_goto cd_262_80 ?_
              refine r_cI (c_261 hM false false true) cd_262_84 rfl rfl rfl (rc0 hM rfl) rfl rfl rfl ?_
              refine r_if51b cd_262_87 rfl (fun n68 => ?_) (fun n68 => ?_)
              · exact absurd n68 (by decide)
              · refine r_con (v := 0) cd_262_90 rfl (by decide) ?_
                exact r_ret cd_262_91 True.intro (by first | (simp [tParc, bz, n1, n19, n37, n55, n61, n67]; done) | (simp_all [tParc, bz]; done))
            · refine r_aldR cd_262_69 rfl rfl ?_
              refine r_ild cd_262_70 rfl rfl ?_
              refine r_cI (c_202 hM hw hI n hn) cd_262_72 rfl rfl rfl (rc0 hM rfl) rfl rfl rfl ?_
              refine r_con (v := (-1)) cd_262_75 rfl (by decide) ?_
              refine r_ic61 cd_262_76 rfl ⟨by omega, by omega⟩ ⟨by omega, by omega⟩ (fun n69 => ?_) (fun n69 => ?_)
              · refine r_con (v := 0) cd_262_83 rfl (by decide) ?_
                refine r_cI (c_261 hM false false false) cd_262_84 rfl rfl rfl (rc0 hM rfl) rfl rfl rfl ?_
                show RU _ _ _ (_, _, _, _, _, sw _ 226 (.inr (8, Mo (va_up s 15 0))))
                exact absurd (by simp [tParc, n1, n19, n37, n55, n61, n67, n69]) g9
              · refine r_con (v := 1) cd_262_79 rfl (by decide) ?_
                refine r_goto cd_262_80 ?_
                refine r_cI (c_261 hM false false true) cd_262_84 rfl rfl rfl (rc0 hM rfl) rfl rfl rfl ?_
                refine r_if51b cd_262_87 rfl (fun n70 => ?_) (fun n70 => ?_)
                · exact absurd n70 (by decide)
                · refine r_con (v := 0) cd_262_90 rfl (by decide) ?_
                  exact r_ret cd_262_91 True.intro (by first | (simp [tParc, bz, n1, n19, n37, n55, n61, n67, n69]; done) | (simp_all [tParc, bz]; done))
theorem b_263 {h : aH} {s w : Nat → Int} (hM : h.2.2 226 = .inr (8, Mo s)) (hw : h.2.2 227 = .inl (0, 211, .inl w)) (hI : Inv0 w) (x : Int) (hx : inR x) (z : Int) (hz : inR z) (g9 : ¬ tTie w x z = 0) : Ct 6 263 [aR 226, aI x, aI z] h (.inl (some (aI 0)), sw h 226 (.inr (8, Mo (va_up s 15 (tTie w x z))))) := by
  refine Ct.of [aR 226, aI x, aI z, aU] rfl ?_
  have hbn := hI.bNe
  have hpn := hI.pNe
  have x0 := hI.len
  have x1 := hI.hour
  have x2 := hI.gas
  have x3 := hI.leak
  have x4 := hI.gn
  have x5 := hI.bn
  have x6 := hI.pn
  refine r_aldR cd_263_0 rfl rfl ?_
  refine r_ild cd_263_1 rfl rfl ?_
  refine r_cI (c_264 hM hw hI x hx) cd_263_2 rfl rfl rfl (rc0 hM rfl) rfl rfl rfl ?_
  refine r_if51b cd_263_5 rfl (fun n1 => ?_) (fun n1 => ?_)
  · refine r_con (v := 0) cd_263_20 rfl (by decide) ?_
    refine r_ist cd_263_21 rfl rfl (L' := [aR 226, aI x, aI z, aI 0]) rfl ?_
    refine r_aldR cd_263_22 rfl rfl ?_
    refine r_ild cd_263_23 rfl rfl ?_
    refine r_if52 cd_263_24 rfl ⟨by omega, by omega⟩ (fun n2 => ?_) (fun n2 => ?_)
    · refine r_con (v := 1) cd_263_27 rfl (by decide) ?_
      refine r_goto cd_263_28 ?_
      refine r_ild cd_263_32 rfl rfl ?_
      refine r_if51 cd_263_33 rfl ⟨by omega, by omega⟩ (fun n3 => ?_) (fun n3 => ?_)
      · refine r_con (v := 0) cd_263_49 rfl (by decide) ?_
        refine r_cI (c_255 hM true false) cd_263_50 rfl rfl rfl (rc0 hM rfl) rfl rfl rfl ?_
        refine r_if51b cd_263_53 rfl (fun n4 => ?_) (fun n4 => ?_)
        · exact absurd n4 (by decide)
        · refine r_con (v := 0) cd_263_56 rfl (by decide) ?_
          exact r_ret cd_263_57 True.intro (by first | (simp [tTie, bz, n1]; done) | (simp_all [tTie, bz]; done))
      · exact absurd n3 (by decide)
    · exact absurd n2 (by decide)
  · have e_x := isPa_iff.mp n1
    obtain ⟨qx, rfl⟩ : ∃ qx : Nat, x = (qx : Int) := ⟨x.toNat, by omega⟩
    refine r_aldR cd_263_8 rfl rfl ?_
    refine r_ild cd_263_9 rfl rfl ?_
    refine r_cI (c_265 hM hw hI z hz) cd_263_10 rfl rfl rfl (rc0 hM rfl) rfl rfl rfl ?_
    refine r_if51b cd_263_13 rfl (fun n5 => ?_) (fun n5 => ?_)
    · refine r_con (v := 0) cd_263_20 rfl (by decide) ?_
      refine r_ist cd_263_21 rfl rfl (L' := [aR 226, aI ((qx : Nat) : Int), aI z, aI 0]) rfl ?_
      refine r_aldR cd_263_22 rfl rfl ?_
      refine r_ild cd_263_23 rfl rfl ?_
      refine r_if52 cd_263_24 rfl ⟨by omega, by omega⟩ (fun n6 => ?_) (fun n6 => ?_)
      · refine r_con (v := 1) cd_263_27 rfl (by decide) ?_
        refine r_goto cd_263_28 ?_
        refine r_ild cd_263_32 rfl rfl ?_
        refine r_if51 cd_263_33 rfl ⟨by omega, by omega⟩ (fun n7 => ?_) (fun n7 => ?_)
        · refine r_con (v := 0) cd_263_49 rfl (by decide) ?_
          refine r_cI (c_255 hM true false) cd_263_50 rfl rfl rfl (rc0 hM rfl) rfl rfl rfl ?_
          refine r_if51b cd_263_53 rfl (fun n8 => ?_) (fun n8 => ?_)
          · exact absurd n8 (by decide)
          · refine r_con (v := 0) cd_263_56 rfl (by decide) ?_
            exact r_ret cd_263_57 True.intro (by first | (simp [tTie, bz, n1, n5]; done) | (simp_all [tTie, bz]; done))
        · exact absurd n7 (by decide)
      · exact absurd n6 (by decide)
    · have e_z := isBa_iff.mp n5
      obtain ⟨qz, rfl⟩ : ∃ qz : Nat, z = (qz : Int) := ⟨z.toNat, by omega⟩
      refine r_con (v := 1) cd_263_16 rfl (by decide) ?_
      refine r_goto cd_263_17 ?_
      refine r_ist cd_263_21 rfl rfl (L' := [aR 226, aI ((qx : Nat) : Int), aI ((qz : Nat) : Int), aI 1]) rfl ?_
      refine r_aldR cd_263_22 rfl rfl ?_
      refine r_ild cd_263_23 rfl rfl ?_
      refine r_if52 cd_263_24 rfl ⟨by omega, by omega⟩ (fun n9 => ?_) (fun n9 => ?_)
      · exact absurd n9 (by decide)
      · refine r_con (v := 0) cd_263_31 rfl (by decide) ?_
        refine r_ild cd_263_32 rfl rfl ?_
        refine r_if51 cd_263_33 rfl ⟨by omega, by omega⟩ (fun n10 => ?_) (fun n10 => ?_)
        · exact absurd n10 (by decide)
        · refine r_aldR cd_263_36 rfl rfl ?_
          refine r_ild cd_263_37 rfl rfl ?_
          refine r_ild cd_263_38 rfl rfl ?_
          refine r_cI (c_208 hM hw hI qx qz (by omega) (by omega)) cd_263_39 rfl rfl rfl (rc0 hM rfl) rfl rfl rfl ?_
          refine r_if51 cd_263_42 rfl (inR_of (whyT_b _ _ _) (by decide) (by decide)) (fun n11 => ?_) (fun n11 => ?_)
          · refine r_con (v := 0) cd_263_49 rfl (by decide) ?_
            refine r_cI (c_255 hM false false) cd_263_50 rfl rfl rfl (rc0 hM rfl) rfl rfl rfl ?_
            show RU _ _ _ (_, _, _, _, _, sw _ 226 (.inr (8, Mo (va_up s 15 0))))
            exact absurd (by simp [tTie, n1, n5, n11]) g9
          · refine r_con (v := 1) cd_263_45 rfl (by decide) ?_
            refine r_goto cd_263_46 ?_
            refine r_cI (c_255 hM false true) cd_263_50 rfl rfl rfl (rc0 hM rfl) rfl rfl rfl ?_
            refine r_if51b cd_263_53 rfl (fun n12 => ?_) (fun n12 => ?_)
            · exact absurd n12 (by decide)
            · refine r_con (v := 0) cd_263_56 rfl (by decide) ?_
              exact r_ret cd_263_57 True.intro (by first | (simp [tTie, bz, n1, n5, n11]; done) | (simp_all [tTie, bz]; done))
theorem b_266 {h : aH} {s w : Nat → Int} (hM : h.2.2 226 = .inr (8, Mo s)) (hw : h.2.2 227 = .inl (0, 211, .inl w)) (hI : Inv0 w) (x : Int) (hx : inR x) (g9 : ¬ tUnt w x = 0) : Ct 3 266 [aR 226, aI x] h (.inl (some (aI 0)), sw h 226 (.inr (8, Mo (va_up s 15 (tUnt w x))))) := by
  refine Ct.of [aR 226, aI x, aU] rfl ?_
  have hbn := hI.bNe
  have hpn := hI.pNe
  have x0 := hI.len
  have x1 := hI.hour
  have x2 := hI.gas
  have x3 := hI.leak
  have x4 := hI.gn
  have x5 := hI.bn
  have x6 := hI.pn
  refine r_aldR cd_266_0 rfl rfl ?_
  refine r_ild cd_266_1 rfl rfl ?_
  refine r_cI (c_264 hM hw hI x hx) cd_266_2 rfl rfl rfl (rc0 hM rfl) rfl rfl rfl ?_
  refine r_ist cd_266_5 rfl rfl (L' := [aR 226, aI x, aI (bz (isPa w x))]) rfl ?_
  refine r_aldR cd_266_6 rfl rfl ?_
  refine r_ild cd_266_7 rfl rfl ?_
  refine r_if52b cd_266_8 rfl (fun n1 => ?_) (fun n1 => ?_)
  · refine r_con (v := 1) cd_266_11 rfl (by decide) ?_
    refine r_goto cd_266_12 ?_
    refine r_ild cd_266_16 rfl rfl ?_
    refine r_if51b cd_266_17 rfl (fun n2 => ?_) (fun n2 => ?_)
    · refine r_con (v := 0) cd_266_32 rfl (by decide) ?_
      refine r_cI (c_255 hM true false) cd_266_33 rfl rfl rfl (rc0 hM rfl) rfl rfl rfl ?_
      refine r_if51b cd_266_36 rfl (fun n3 => ?_) (fun n3 => ?_)
      · exact absurd n3 (by decide)
      · refine r_con (v := 0) cd_266_39 rfl (by decide) ?_
        exact r_ret cd_266_40 True.intro (by first | (simp [tUnt, canU, bz, n1, n2]; done) | (simp_all [tUnt, canU, bz]; done))
    · exact Bool.noConfusion (n2.symm.trans n1)
  · have e_x := isPa_iff.mp n1
    obtain ⟨qx, rfl⟩ : ∃ qx : Nat, x = (qx : Int) := ⟨x.toNat, by omega⟩
    refine r_con (v := 0) cd_266_15 rfl (by decide) ?_
    refine r_ild cd_266_16 rfl rfl ?_
    refine r_if51b cd_266_17 rfl (fun n4 => ?_) (fun n4 => ?_)
    · exact Bool.noConfusion (n4.symm.trans n1)
    · refine r_aldR cd_266_20 rfl rfl ?_
      refine r_ild cd_266_21 rfl rfl ?_
      refine r_cI (c_217 hM hw hI qx (by omega)) cd_266_22 rfl rfl rfl (rc0 hM rfl) rfl rfl rfl ?_
      refine r_if52b cd_266_25 rfl (fun n5 => ?_) (fun n5 => ?_)
      · refine r_con (v := 1) cd_266_28 rfl (by decide) ?_
        refine r_goto cd_266_29 ?_
        refine r_cI (c_255 hM false true) cd_266_33 rfl rfl rfl (rc0 hM rfl) rfl rfl rfl ?_
        refine r_if51b cd_266_36 rfl (fun n6 => ?_) (fun n6 => ?_)
        · exact absurd n6 (by decide)
        · refine r_con (v := 0) cd_266_39 rfl (by decide) ?_
          exact r_ret cd_266_40 True.intro (by first | (simp [tUnt, canU, bz, n1, n4, n5]; done) | (simp_all [tUnt, canU, bz]; done))
      · refine r_con (v := 0) cd_266_32 rfl (by decide) ?_
        refine r_cI (c_255 hM false false) cd_266_33 rfl rfl rfl (rc0 hM rfl) rfl rfl rfl ?_
        show RU _ _ _ (_, _, _, _, _, sw _ 226 (.inr (8, Mo (va_up s 15 0))))
        exact absurd (by simp [tUnt, canU, n1, n4, n5]) g9
theorem b_267 {h : aH} {s w : Nat → Int} (hM : h.2.2 226 = .inr (8, Mo s)) (hw : h.2.2 227 = .inl (0, 211, .inl w)) (hI : Inv0 w) (x : Int) (hx : inR x) (g9 : ¬ tLau w x = 0) : Ct 7 267 [aR 226, aI x] h (.inl (some (aI 0)), sw h 226 (.inr (8, Mo (va_up s 15 (tLau w x))))) := by
  refine Ct.of [aR 226, aI x, aU] rfl ?_
  have hbn := hI.bNe
  have hpn := hI.pNe
  have x0 := hI.len
  have x1 := hI.hour
  have x2 := hI.gas
  have x3 := hI.leak
  have x4 := hI.gn
  have x5 := hI.bn
  have x6 := hI.pn
  refine r_aldR cd_267_0 rfl rfl ?_
  refine r_ild cd_267_1 rfl rfl ?_
  refine r_cI (c_265 hM hw hI x hx) cd_267_2 rfl rfl rfl (rc0 hM rfl) rfl rfl rfl ?_
  refine r_ist cd_267_5 rfl rfl (L' := [aR 226, aI x, aI (bz (isBa w x))]) rfl ?_
  refine r_aldR cd_267_6 rfl rfl ?_
  refine r_ild cd_267_7 rfl rfl ?_
  refine r_if52b cd_267_8 rfl (fun n1 => ?_) (fun n1 => ?_)
  · refine r_con (v := 1) cd_267_11 rfl (by decide) ?_
    refine r_goto cd_267_12 ?_
    refine r_ild cd_267_16 rfl rfl ?_
    refine r_if51b cd_267_17 rfl (fun n2 => ?_) (fun n2 => ?_)
    · refine r_con (v := 0) cd_267_32 rfl (by decide) ?_
      refine r_cI (c_255 hM true false) cd_267_33 rfl rfl rfl (rc0 hM rfl) rfl rfl rfl ?_
      refine r_if51b cd_267_36 rfl (fun n3 => ?_) (fun n3 => ?_)
      · exact absurd n3 (by decide)
      · refine r_con (v := 0) cd_267_39 rfl (by decide) ?_
        exact r_ret cd_267_40 True.intro (by first | (simp [tLau, bz, n1, n2]; done) | (simp_all [tLau, bz]; done))
    · exact Bool.noConfusion (n2.symm.trans n1)
  · have e_x := isBa_iff.mp n1
    obtain ⟨qx, rfl⟩ : ∃ qx : Nat, x = (qx : Int) := ⟨x.toNat, by omega⟩
    refine r_con (v := 0) cd_267_15 rfl (by decide) ?_
    refine r_ild cd_267_16 rfl rfl ?_
    refine r_if51b cd_267_17 rfl (fun n4 => ?_) (fun n4 => ?_)
    · exact Bool.noConfusion (n4.symm.trans n1)
    · refine r_aldR cd_267_20 rfl rfl ?_
      refine r_ild cd_267_21 rfl rfl ?_
      refine r_cI (c_220 hM hw hI qx (by omega)) cd_267_22 rfl rfl rfl (rc0 hM rfl) rfl rfl rfl ?_
      refine r_if51 cd_267_25 rfl (inR_of (whyL_b _ _) (by decide) (by decide)) (fun n5 => ?_) (fun n5 => ?_)
      · refine r_con (v := 0) cd_267_32 rfl (by decide) ?_
        refine r_cI (c_255 hM false false) cd_267_33 rfl rfl rfl (rc0 hM rfl) rfl rfl rfl ?_
        show RU _ _ _ (_, _, _, _, _, sw _ 226 (.inr (8, Mo (va_up s 15 0))))
        exact absurd (by simp [tLau, n1, n4, n5]) g9
      · refine r_con (v := 1) cd_267_28 rfl (by decide) ?_
        refine r_goto cd_267_29 ?_
        refine r_cI (c_255 hM false true) cd_267_33 rfl rfl rfl (rc0 hM rfl) rfl rfl rfl ?_
        refine r_if51b cd_267_36 rfl (fun n6 => ?_) (fun n6 => ?_)
        · exact absurd n6 (by decide)
        · refine r_con (v := 0) cd_267_39 rfl (by decide) ?_
          exact r_ret cd_267_40 True.intro (by first | (simp [tLau, bz, n1, n4, n5]; done) | (simp_all [tLau, bz]; done))
theorem b_268 {h : aH} {s w : Nat → Int} (hM : h.2.2 226 = .inr (8, Mo s)) (hw : h.2.2 227 = .inl (0, 211, .inl w)) (hI : Inv0 w) (x : Int) (hx : inR x) (g9 : ¬ tHow w x 1 = 0) : Ct 3 268 [aR 226, aI x] h (.inl (some (aI 0)), sw h 226 (.inr (8, Mo (va_up s 15 (tHow w x 1))))) := by
  refine Ct.of [aR 226, aI x, aU] rfl ?_
  have hbn := hI.bNe
  have hpn := hI.pNe
  have x0 := hI.len
  have x1 := hI.hour
  have x2 := hI.gas
  have x3 := hI.leak
  have x4 := hI.gn
  have x5 := hI.bn
  have x6 := hI.pn
  refine r_aldR cd_268_0 rfl rfl ?_
  refine r_ild cd_268_1 rfl rfl ?_
  refine r_cI (c_265 hM hw hI x hx) cd_268_2 rfl rfl rfl (rc0 hM rfl) rfl rfl rfl ?_
  refine r_ist cd_268_5 rfl rfl (L' := [aR 226, aI x, aI (bz (isBa w x))]) rfl ?_
  refine r_aldR cd_268_6 rfl rfl ?_
  refine r_ild cd_268_7 rfl rfl ?_
  refine r_if52b cd_268_8 rfl (fun n1 => ?_) (fun n1 => ?_)
  · refine r_con (v := 1) cd_268_11 rfl (by decide) ?_
    refine r_goto cd_268_12 ?_
    refine r_ild cd_268_16 rfl rfl ?_
    refine r_if51b cd_268_17 rfl (fun n2 => ?_) (fun n2 => ?_)
    · refine r_con (v := 0) cd_268_34 rfl (by decide) ?_
      refine r_cI (c_255 hM true false) cd_268_35 rfl rfl rfl (rc0 hM rfl) rfl rfl rfl ?_
      refine r_if51b cd_268_38 rfl (fun n3 => ?_) (fun n3 => ?_)
      · exact absurd n3 (by decide)
      · refine r_con (v := 0) cd_268_41 rfl (by decide) ?_
        exact r_ret cd_268_42 True.intro (by first | (simp [tHow, bz, n1, n2]; done) | (simp_all [tHow, bz]; done))
    · exact Bool.noConfusion (n2.symm.trans n1)
  · have e_x := isBa_iff.mp n1
    obtain ⟨qx, rfl⟩ : ∃ qx : Nat, x = (qx : Int) := ⟨x.toNat, by omega⟩
    refine r_con (v := 0) cd_268_15 rfl (by decide) ?_
    refine r_ild cd_268_16 rfl rfl ?_
    refine r_if51b cd_268_17 rfl (fun n4 => ?_) (fun n4 => ?_)
    · exact Bool.noConfusion (n4.symm.trans n1)
    · refine r_aldR cd_268_20 rfl rfl ?_
      refine r_ild cd_268_21 rfl rfl ?_
      refine r_con (v := 3) cd_268_22 rfl (by decide) ?_
      refine r_cI (c_209 hM hw qx 3 (by omega)) cd_268_23 rfl rfl rfl (rc0 hM rfl) rfl rfl rfl ?_
      refine r_con (v := 1) cd_268_26 rfl (by decide) ?_
      refine r_ic61 cd_268_27 rfl (hI.boR (by omega) (by omega)) ⟨by omega, by omega⟩ (fun n5 => ?_) (fun n5 => ?_)
      · refine r_con (v := 0) cd_268_34 rfl (by decide) ?_
        refine r_cI (c_255 hM false false) cd_268_35 rfl rfl rfl (rc0 hM rfl) rfl rfl rfl ?_
        show RU _ _ _ (_, _, _, _, _, sw _ 226 (.inr (8, Mo (va_up s 15 0))))
        exact absurd (by simp [tHow, n1, n4, n5]) g9
      · refine r_con (v := 1) cd_268_30 rfl (by decide) ?_
        refine r_goto cd_268_31 ?_
        refine r_cI (c_255 hM false true) cd_268_35 rfl rfl rfl (rc0 hM rfl) rfl rfl rfl ?_
        refine r_if51b cd_268_38 rfl (fun n6 => ?_) (fun n6 => ?_)
        · exact absurd n6 (by decide)
        · refine r_con (v := 0) cd_268_41 rfl (by decide) ?_
          exact r_ret cd_268_42 True.intro (by first | (simp [tHow, bz, n1, n4, n5]; done) | (simp_all [tHow, bz]; done))
theorem b_269 {h : aH} {s w : Nat → Int} (hM : h.2.2 226 = .inr (8, Mo s)) (hw : h.2.2 227 = .inl (0, 211, .inl w)) (hI : Inv0 w) (x : Int) (hx : inR x) (g9 : ¬ tHow w x 2 = 0) : Ct 7 269 [aR 226, aI x] h (.inl (some (aI 0)), sw h 226 (.inr (8, Mo (va_up s 15 (tHow w x 2))))) := by
  refine Ct.of [aR 226, aI x, aU] rfl ?_
  have hbn := hI.bNe
  have hpn := hI.pNe
  have x0 := hI.len
  have x1 := hI.hour
  have x2 := hI.gas
  have x3 := hI.leak
  have x4 := hI.gn
  have x5 := hI.bn
  have x6 := hI.pn
  refine r_aldR cd_269_0 rfl rfl ?_
  refine r_ild cd_269_1 rfl rfl ?_
  refine r_cI (c_265 hM hw hI x hx) cd_269_2 rfl rfl rfl (rc0 hM rfl) rfl rfl rfl ?_
  refine r_ist cd_269_5 rfl rfl (L' := [aR 226, aI x, aI (bz (isBa w x))]) rfl ?_
  refine r_aldR cd_269_6 rfl rfl ?_
  refine r_ild cd_269_7 rfl rfl ?_
  refine r_if52b cd_269_8 rfl (fun n1 => ?_) (fun n1 => ?_)
  · refine r_con (v := 1) cd_269_11 rfl (by decide) ?_
    refine r_goto cd_269_12 ?_
    refine r_ild cd_269_16 rfl rfl ?_
    refine r_if51b cd_269_17 rfl (fun n2 => ?_) (fun n2 => ?_)
    · refine r_con (v := 0) cd_269_34 rfl (by decide) ?_
      refine r_cI (c_255 hM true false) cd_269_35 rfl rfl rfl (rc0 hM rfl) rfl rfl rfl ?_
      refine r_if51b cd_269_38 rfl (fun n3 => ?_) (fun n3 => ?_)
      · exact absurd n3 (by decide)
      · refine r_con (v := 0) cd_269_41 rfl (by decide) ?_
        exact r_ret cd_269_42 True.intro (by first | (simp [tHow, bz, n1, n2]; done) | (simp_all [tHow, bz]; done))
    · exact Bool.noConfusion (n2.symm.trans n1)
  · have e_x := isBa_iff.mp n1
    obtain ⟨qx, rfl⟩ : ∃ qx : Nat, x = (qx : Int) := ⟨x.toNat, by omega⟩
    refine r_con (v := 0) cd_269_15 rfl (by decide) ?_
    refine r_ild cd_269_16 rfl rfl ?_
    refine r_if51b cd_269_17 rfl (fun n4 => ?_) (fun n4 => ?_)
    · exact Bool.noConfusion (n4.symm.trans n1)
    · refine r_aldR cd_269_20 rfl rfl ?_
      refine r_ild cd_269_21 rfl rfl ?_
      refine r_con (v := 3) cd_269_22 rfl (by decide) ?_
      refine r_cI (c_209 hM hw qx 3 (by omega)) cd_269_23 rfl rfl rfl (rc0 hM rfl) rfl rfl rfl ?_
      refine r_con (v := 2) cd_269_26 rfl (by decide) ?_
      refine r_ic61 cd_269_27 rfl (hI.boR (by omega) (by omega)) ⟨by omega, by omega⟩ (fun n5 => ?_) (fun n5 => ?_)
      · refine r_con (v := 0) cd_269_34 rfl (by decide) ?_
        refine r_cI (c_255 hM false false) cd_269_35 rfl rfl rfl (rc0 hM rfl) rfl rfl rfl ?_
        show RU _ _ _ (_, _, _, _, _, sw _ 226 (.inr (8, Mo (va_up s 15 0))))
        exact absurd (by simp [tHow, n1, n4, n5]) g9
      · refine r_con (v := 1) cd_269_30 rfl (by decide) ?_
        refine r_goto cd_269_31 ?_
        refine r_cI (c_255 hM false true) cd_269_35 rfl rfl rfl (rc0 hM rfl) rfl rfl rfl ?_
        refine r_if51b cd_269_38 rfl (fun n6 => ?_) (fun n6 => ?_)
        · exact absurd n6 (by decide)
        · refine r_con (v := 0) cd_269_41 rfl (by decide) ?_
          exact r_ret cd_269_42 True.intro (by first | (simp [tHow, bz, n1, n4, n5]; done) | (simp_all [tHow, bz]; done))
theorem b_271 {h : aH} {s w : Nat → Int} (hM : h.2.2 226 = .inr (8, Mo s)) (hw : h.2.2 227 = .inl (0, 211, .inl w)) (hI : Inv0 w) (x : Int) (hx : inR x) (g9 : ¬ tGas w x = 0) : Ct 2 271 [aR 226, aI x] h (.inl (some (aI 0)), sw h 226 (.inr (8, Mo (va_up s 15 (tGas w x))))) := by
  refine Ct.of [aR 226, aI x, aU] rfl ?_
  have hbn := hI.bNe
  have hpn := hI.pNe
  have x0 := hI.len
  have x1 := hI.hour
  have x2 := hI.gas
  have x3 := hI.leak
  have x4 := hI.gn
  have x5 := hI.bn
  have x6 := hI.pn
  refine r_ild cd_271_0 rfl rfl ?_
  refine r_con (v := 1) cd_271_1 rfl (by decide) ?_
  refine r_con (v := 200) cd_271_2 rfl (by decide) ?_
  refine r_cI (c_186 x hx 1 ⟨by omega, by omega⟩ 200 ⟨by omega, by omega⟩) cd_271_5 rfl rfl rfl True.intro rfl rfl rfl ?_
  refine r_if52b cd_271_8 rfl (fun n1 => ?_) (fun n1 => ?_)
  · refine r_con (v := 1) cd_271_11 rfl (by decide) ?_
    refine r_goto cd_271_12 ?_
    refine r_ist cd_271_16 rfl rfl (L' := [aR 226, aI x, aI 1]) rfl ?_
    refine r_aldR cd_271_17 rfl rfl ?_
    refine r_ild cd_271_18 rfl rfl ?_
    refine r_ild cd_271_19 rfl rfl ?_
    refine r_if52 cd_271_20 rfl ⟨by omega, by omega⟩ (fun n2 => ?_) (fun n2 => ?_)
    · exact absurd n2 (by decide)
    · refine r_con (v := 0) cd_271_41 rfl (by decide) ?_
      refine r_cI (c_255 hM true false) cd_271_42 rfl rfl rfl (rc0 hM rfl) rfl rfl rfl ?_
      refine r_if51b cd_271_45 rfl (fun n3 => ?_) (fun n3 => ?_)
      · exact absurd n3 (by decide)
      · refine r_con (v := 0) cd_271_48 rfl (by decide) ?_
        exact r_ret cd_271_49 True.intro (by first | (simp [tGas, bz, n1]; done) | (simp_all [tGas, bz]; done))
  · have e_x := inB_iff.mp n1
    refine r_con (v := 0) cd_271_15 rfl (by decide) ?_
    refine r_ist cd_271_16 rfl rfl (L' := [aR 226, aI x, aI 0]) rfl ?_
    refine r_aldR cd_271_17 rfl rfl ?_
    refine r_ild cd_271_18 rfl rfl ?_
    refine r_ild cd_271_19 rfl rfl ?_
    refine r_if52 cd_271_20 rfl ⟨by omega, by omega⟩ (fun n4 => ?_) (fun n4 => ?_)
    · refine r_aldR cd_271_23 rfl rfl ?_
      refine r_get cd_271_24 rfl hM rfl ?_
      refine r_con (v := 2) cd_271_27 rfl (by decide) ?_
      refine r_arr (i := 2) cd_271_28 rfl hw rfl (by omega) rfl ?_
      refine r_ild cd_271_29 rfl rfl ?_
      refine r_add (v := (w 2) + x) cd_271_30 rfl (by rfl) ?_
      refine r_con (v := 999) cd_271_31 rfl (by decide) ?_
      refine r_ic66 cd_271_34 rfl ⟨by omega, by omega⟩ ⟨by omega, by omega⟩ (fun n5 => ?_) (fun n5 => ?_)
      · refine r_con (v := 1) cd_271_37 rfl (by decide) ?_
        refine r_goto cd_271_38 ?_
        refine r_cI (c_255 hM false true) cd_271_42 rfl rfl rfl (rc0 hM rfl) rfl rfl rfl ?_
        refine r_if51b cd_271_45 rfl (fun n6 => ?_) (fun n6 => ?_)
        · exact absurd n6 (by decide)
        · refine r_con (v := 0) cd_271_48 rfl (by decide) ?_
          exact r_ret cd_271_49 True.intro (by first | (simp [tGas, bz, n1, n5]; done) | (simp_all [tGas, bz]; done))
      · refine r_con (v := 0) cd_271_41 rfl (by decide) ?_
        refine r_cI (c_255 hM false false) cd_271_42 rfl rfl rfl (rc0 hM rfl) rfl rfl rfl ?_
        show RU _ _ _ (_, _, _, _, _, sw _ 226 (.inr (8, Mo (va_up s 15 0))))
        exact absurd (by simp [tGas, n1, n5]) g9
    · exact absurd n4 (by decide)
theorem b_273 {h : aH} {s w : Nat → Int} (hM : h.2.2 226 = .inr (8, Mo s)) (hw : h.2.2 227 = .inl (0, 211, .inl w)) (hI : Inv0 w) (x : Int) (hx : inR x) (g9 : ¬ tHrs w x = 0) : Ct 8 273 [aR 226, aI x] h (.inl (some (aI 0)), sw h 226 (.inr (8, Mo (va_up s 15 (tHrs w x))))) := by
  refine Ct.of [aR 226, aI x, aU] rfl ?_
  have hbn := hI.bNe
  have hpn := hI.pNe
  have x0 := hI.len
  have x1 := hI.hour
  have x2 := hI.gas
  have x3 := hI.leak
  have x4 := hI.gn
  have x5 := hI.bn
  have x6 := hI.pn
  refine r_ild cd_273_0 rfl rfl ?_
  refine r_con (v := 1) cd_273_1 rfl (by decide) ?_
  refine r_con (v := 24) cd_273_2 rfl (by decide) ?_
  refine r_cI (c_186 x hx 1 ⟨by omega, by omega⟩ 24 ⟨by omega, by omega⟩) cd_273_4 rfl rfl rfl True.intro rfl rfl rfl ?_
  refine r_if52b cd_273_7 rfl (fun n1 => ?_) (fun n1 => ?_)
  · refine r_con (v := 1) cd_273_10 rfl (by decide) ?_
    refine r_goto cd_273_11 ?_
    refine r_ist cd_273_15 rfl rfl (L' := [aR 226, aI x, aI 1]) rfl ?_
    refine r_aldR cd_273_16 rfl rfl ?_
    refine r_ild cd_273_17 rfl rfl ?_
    refine r_ild cd_273_18 rfl rfl ?_
    refine r_if52 cd_273_19 rfl ⟨by omega, by omega⟩ (fun n2 => ?_) (fun n2 => ?_)
    · exact absurd n2 (by decide)
    · refine r_con (v := 0) cd_273_40 rfl (by decide) ?_
      refine r_cI (c_255 hM true false) cd_273_41 rfl rfl rfl (rc0 hM rfl) rfl rfl rfl ?_
      refine r_if51b cd_273_44 rfl (fun n3 => ?_) (fun n3 => ?_)
      · exact absurd n3 (by decide)
      · refine r_con (v := 0) cd_273_47 rfl (by decide) ?_
        exact r_ret cd_273_48 True.intro (by first | (simp [tHrs, bz, n1]; done) | (simp_all [tHrs, bz]; done))
  · have e_x := inB_iff.mp n1
    refine r_con (v := 0) cd_273_14 rfl (by decide) ?_
    refine r_ist cd_273_15 rfl rfl (L' := [aR 226, aI x, aI 0]) rfl ?_
    refine r_aldR cd_273_16 rfl rfl ?_
    refine r_ild cd_273_17 rfl rfl ?_
    refine r_ild cd_273_18 rfl rfl ?_
    refine r_if52 cd_273_19 rfl ⟨by omega, by omega⟩ (fun n4 => ?_) (fun n4 => ?_)
    · refine r_aldR cd_273_22 rfl rfl ?_
      refine r_get cd_273_23 rfl hM rfl ?_
      refine r_con (v := 1) cd_273_26 rfl (by decide) ?_
      refine r_arr (i := 1) cd_273_27 rfl hw rfl (by omega) rfl ?_
      refine r_ild cd_273_28 rfl rfl ?_
      refine r_add (v := (w 1) + x) cd_273_29 rfl (by rfl) ?_
      refine r_con (v := 999) cd_273_30 rfl (by decide) ?_
      refine r_ic66 cd_273_33 rfl ⟨by omega, by omega⟩ ⟨by omega, by omega⟩ (fun n5 => ?_) (fun n5 => ?_)
      · refine r_con (v := 1) cd_273_36 rfl (by decide) ?_
        refine r_goto cd_273_37 ?_
        refine r_cI (c_255 hM false true) cd_273_41 rfl rfl rfl (rc0 hM rfl) rfl rfl rfl ?_
        refine r_if51b cd_273_44 rfl (fun n6 => ?_) (fun n6 => ?_)
        · exact absurd n6 (by decide)
        · refine r_con (v := 0) cd_273_47 rfl (by decide) ?_
          exact r_ret cd_273_48 True.intro (by first | (simp [tHrs, bz, n1, n5]; done) | (simp_all [tHrs, bz]; done))
      · refine r_con (v := 0) cd_273_40 rfl (by decide) ?_
        refine r_cI (c_255 hM false false) cd_273_41 rfl rfl rfl (rc0 hM rfl) rfl rfl rfl ?_
        show RU _ _ _ (_, _, _, _, _, sw _ 226 (.inr (8, Mo (va_up s 15 0))))
        exact absurd (by simp [tHrs, n1, n5]) g9
    · exact absurd n4 (by decide)
