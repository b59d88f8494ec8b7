/-! THE REFERENCE: hours (written by wip/whole/gen20.py) -/
theorem gustI_b {w : Nat → Int} (hI : Inv0 w) {x : Int} (hx : 0 ≤ x) : -3 ≤ gustI w x ∧ gustI w x ≤ 3 := by
  unfold gustI
  have h1 := hI.gn
  split
  · omega
  · rename_i h2
    have h3 := Int.emod_nonneg x h2
    have h4 := Int.emod_lt_of_pos x (show 0 < w 4 by omega)
    exact hI.gusts _ (by omega)
theorem lp_241_9 {s : Nat → Int} {res : aRes} (n k : Int) : ∀ (m b : Nat) {h : aH} {w : Nat → Int}, h.2.2 226 = .inr (8, Mo s) → h.2.2 227 = .inl (0, 211, .inl (w)) → Inv0 w → b + m = nB w → RU 7 241 res (50, [aR 226, aI n, aI k, aI ((b + m : Nat) : Int)], [], 0, 0, sw h 227 (.inl (0, 211, .inl (itF drG b m w)))) → RU 7 241 res (9, [aR 226, aI n, aI k, aI ((b : Nat) : Int)], [], 0, 0, h) := by
  intro m
  induction m with
  | zero =>
    intro b h w hM hw hI hb hk
    have hbn := hI.bNe
    have hpn := hI.pNe
    have x0 := hI.len
    have x1 := hI.hour
    have x2 := hI.gas
    have x3 := hI.leak
    have x4 := hI.gn
    have x5 := hI.bn
    have x6 := hI.pn
    refine r_ild cd_241_9 rfl rfl ?_
    refine r_aldR cd_241_10 rfl rfl ?_
    refine r_get cd_241_11 rfl hM rfl ?_
    refine r_con (v := 5) cd_241_14 rfl (by decide) ?_
    refine r_arr (i := 5) cd_241_15 rfl hw rfl (by omega) rfl ?_
    refine r_ic64 cd_241_16 rfl ⟨by omega, by omega⟩ (inR_of hI.bn (by decide) (by decide)) (fun n1 => ?_) (fun n1 => ?_)
    · exact absurd n1 (by omega)
    · rw [sw_id (show h.2.2 227 = .inl (0, 211, .inl (itF drG b 0 w)) from hw)] at hk
      exact hk
  | succ m ih =>
    intro b h w hM hw hI hb hk
    have hbn := hI.bNe
    have hpn := hI.pNe
    have x0 := hI.len
    have x1 := hI.hour
    have x2 := hI.gas
    have x3 := hI.leak
    have x4 := hI.gn
    have x5 := hI.bn
    have x6 := hI.pn
    refine r_ild cd_241_9 rfl rfl ?_
    refine r_aldR cd_241_10 rfl rfl ?_
    refine r_get cd_241_11 rfl hM rfl ?_
    refine r_con (v := 5) cd_241_14 rfl (by decide) ?_
    refine r_arr (i := 5) cd_241_15 rfl hw rfl (by omega) rfl ?_
    refine r_ic64 cd_241_16 rfl ⟨by omega, by omega⟩ (inR_of hI.bn (by decide) (by decide)) (fun n1 => ?_) (fun n1 => ?_)
    · refine r_aldR cd_241_19 rfl rfl ?_
      refine r_ild cd_241_20 rfl rfl ?_
      refine r_con (v := 3) cd_241_21 rfl (by decide) ?_
      refine r_cI (c_209 hM hw b 3 (by omega)) cd_241_22 rfl rfl rfl (rc0 hM rfl) rfl rfl rfl ?_
      refine r_con (v := 1) cd_241_25 rfl (by decide) ?_
      refine r_ic62 cd_241_26 rfl (hI.boR (by omega) (by omega)) ⟨by omega, by omega⟩ (fun n2 => ?_) (fun n2 => ?_)
      · refine r_aldR cd_241_29 rfl rfl ?_
        refine r_ild cd_241_30 rfl rfl ?_
        refine r_aldR cd_241_31 rfl rfl ?_
        refine r_aldR cd_241_32 rfl rfl ?_
        refine r_get cd_241_33 rfl hM rfl ?_
        refine r_con (v := 1) cd_241_36 rfl (by decide) ?_
        refine r_arr (i := 1) cd_241_37 rfl hw rfl (by omega) rfl ?_
        refine r_cI (c_242 hM hw hI (w 1) (inR_of hI.hour (by decide) (by decide)) (by omega)) cd_241_38 rfl rfl rfl (rc0 hM rfl) rfl rfl rfl ?_
        have hgu := gustI_b hI (x := w 1) (by omega)
        refine r_cV (c_243 hM hw hI b (gustI w (w 1)) (inR_of (gustI_b hI (x := w 1) (by omega)) (by decide) (by decide)) (by omega) (by omega) (by omega)) cd_241_41 rfl rfl rfl (rc0 hM rfl) rfl rfl rfl ?_
        refine r_inc (v := ((b + 1 : Nat) : Int)) cd_241_44 rfl rfl rfl (by omega) (L' := [aR 226, aI n, aI k, aI ((b + 1 : Nat) : Int)]) rfl ?_
        refine r_goto cd_241_47 ?_
        have hI2 := (carF_inv hI (b := b) (sense := sens (gustI w (w 1))) (m := (absI (gustI w (w 1))).toNat) (by omega))
        have eb : nB (carW w b (gustI w (w 1))) = nB w := Sm.eB fun j hj => hI2.2 j (by omega)
        refine ih (b + 1) (h := sw h 227 (.inl (0, 211, .inl (carW w b (gustI w (w 1)))))) (w := (carW w b (gustI w (w 1)))) ((sw_ne (by decide)).trans hM) (sw_at _ _ _) hI2.1 (by omega) ?_
        have e9 : itF drG b (m + 1) w = itF drG (b + 1) m (carW w b (gustI w (w 1))) := itF_step (by simp [drG, n1, n2])
        rw [e9, show b + (m + 1) = b + 1 + m by omega] at hk
        rw [sw_sw]
        exact hk
      · refine r_inc (v := ((b + 1 : Nat) : Int)) cd_241_44 rfl rfl rfl (by omega) (L' := [aR 226, aI n, aI k, aI ((b + 1 : Nat) : Int)]) rfl ?_
        refine r_goto cd_241_47 ?_
        refine ih (b + 1) hM hw hI (by omega) ?_
        have e9 : itF drG b (m + 1) w = itF drG (b + 1) m w := itF_step (by simp [drG, n1, n2])
        rw [e9, show b + (m + 1) = b + 1 + m by omega] at hk
        exact hk
    · exact absurd n1 (by omega)
theorem lp_241_62 {s : Nat → Int} {res : aRes} (n k : Int) : ∀ (m b : Nat) {h : aH} {w : Nat → Int}, h.2.2 226 = .inr (8, Mo s) → h.2.2 227 = .inl (0, 211, .inl (w)) → Inv0 w → b + m = nB w → w 1 % w 3 = 0 → (∀ t : aV, RU 7 241 res (99, [aR 226, aI n, aI k, t], [], 0, 0, sw h 227 (.inl (0, 211, .inl (itF (fun b u => leakW u b) b m w))))) → RU 7 241 res (62, [aR 226, aI n, aI k, aI ((b : Nat) : Int)], [], 0, 0, h) := by
  intro m
  induction m with
  | zero =>
    intro b h w hM hw hI hb hd hk
    have hbn := hI.bNe
    have hpn := hI.pNe
    have x0 := hI.len
    have x1 := hI.hour
    have x2 := hI.gas
    have x3 := hI.leak
    have x4 := hI.gn
    have x5 := hI.bn
    have x6 := hI.pn
    refine r_ild cd_241_62 rfl rfl ?_
    refine r_aldR cd_241_63 rfl rfl ?_
    refine r_get cd_241_64 rfl hM rfl ?_
    refine r_con (v := 5) cd_241_67 rfl (by decide) ?_
    refine r_arr (i := 5) cd_241_68 rfl hw rfl (by omega) rfl ?_
    refine r_ic64 cd_241_69 rfl ⟨by omega, by omega⟩ (inR_of hI.bn (by decide) (by decide)) (fun n1 => ?_) (fun n1 => ?_)
    · exact absurd n1 (by omega)
    · have hk9 := hk (aI ((b : Nat) : Int))
      rw [sw_id (show h.2.2 227 = .inl (0, 211, .inl (itF (fun b u => leakW u b) b 0 w)) from hw)] at hk9
      exact hk9
  | succ m ih =>
    intro b h w hM hw hI hb hd hk
    have hbn := hI.bNe
    have hpn := hI.pNe
    have x0 := hI.len
    have x1 := hI.hour
    have x2 := hI.gas
    have x3 := hI.leak
    have x4 := hI.gn
    have x5 := hI.bn
    have x6 := hI.pn
    refine r_ild cd_241_62 rfl rfl ?_
    refine r_aldR cd_241_63 rfl rfl ?_
    refine r_get cd_241_64 rfl hM rfl ?_
    refine r_con (v := 5) cd_241_67 rfl (by decide) ?_
    refine r_arr (i := 5) cd_241_68 rfl hw rfl (by omega) rfl ?_
    refine r_ic64 cd_241_69 rfl ⟨by omega, by omega⟩ (inR_of hI.bn (by decide) (by decide)) (fun n1 => ?_) (fun n1 => ?_)
    · refine r_aldR cd_241_72 rfl rfl ?_
      refine r_get cd_241_73 rfl hM rfl ?_
      refine r_con (v := 1) cd_241_76 rfl (by decide) ?_
      refine r_arr (i := 1) cd_241_77 rfl hw rfl (by omega) rfl ?_
      refine r_aldR cd_241_78 rfl rfl ?_
      refine r_get cd_241_79 rfl hM rfl ?_
      refine r_con (v := 3) cd_241_82 rfl (by decide) ?_
      refine r_arr (i := 3) cd_241_83 rfl hw rfl (by omega) rfl ?_
      refine r_rem cd_241_84 rfl (by omega) (by omega) (by omega) (by omega) ?_
      refine r_if52 cd_241_85 rfl ⟨by have := Int.emod_nonneg (w 1) (show w 3 ≠ 0 by omega); omega, by have := Int.emod_lt_of_pos (w 1) (show 0 < w 3 by omega); omega⟩ (fun n2 => ?_) (fun n2 => ?_)
      · refine r_aldR cd_241_88 rfl rfl ?_
        refine r_ild cd_241_89 rfl rfl ?_
        refine r_cV (c_245 hM hw hI b (by omega)) cd_241_90 rfl rfl rfl (rc0 hM rfl) rfl rfl rfl ?_
        refine r_inc (v := ((b + 1 : Nat) : Int)) cd_241_93 rfl rfl rfl (by omega) (L' := [aR 226, aI n, aI k, aI ((b + 1 : Nat) : Int)]) rfl ?_
        refine r_goto cd_241_96 ?_
        have hI2 := leak_inv hI (b := b) (by omega)
        have eb : nB (leakW w b) = nB w := Sm.eB fun j hj => hI2.2 j (by omega) (by omega)
        refine ih (b + 1) (h := sw h 227 (.inl (0, 211, .inl (leakW w b)))) (w := (leakW w b)) ((sw_ne (by decide)).trans hM) (sw_at _ _ _) hI2.1 (by omega) (by rw [hI2.2 1 (by omega) (by omega), hI2.2 3 (by omega) (by omega)]; exact hd) (fun t => ?_)
        have hk9 := hk t
        rw [show itF (fun b u => leakW u b) b (m + 1) w = itF (fun b u => leakW u b) (b + 1) m (leakW w b) from rfl] at hk9
        rw [sw_sw]
        exact hk9
      · exact absurd hd n2
    · exact absurd n1 (by omega)
theorem lp_241_6 {s : Nat → Int} {res : aRes} (n k : Int) {h : aH} {w : Nat → Int} (hM : h.2.2 226 = .inr (8, Mo s)) (hw : h.2.2 227 = .inl (0, 211, .inl (w))) (hI : Inv0 w) (hk : ∀ t : aV, RU 7 241 res (99, [aR 226, aI n, aI k, t], [], 0, 0, sw h 227 (.inl (0, 211, .inl (lkW w))))) : RU 7 241 res (62, [aR 226, aI n, aI k, aI ((0 : Nat) : Int)], [], 0, 0, h) := by
  have hbn := hI.bNe
  have hpn := hI.pNe
  have x0 := hI.len
  have x1 := hI.hour
  have x2 := hI.gas
  have x3 := hI.leak
  have x4 := hI.gn
  have x5 := hI.bn
  have x6 := hI.pn
  by_cases hd : w 1 % w 3 = 0
  · refine lp_241_62 n k (nB w) 0 hM hw hI (by omega) hd (fun t => ?_)
    have hk9 := hk t
    rw [show lkW w = itF (fun b u => leakW u b) 0 (nB w) w from if_pos hd] at hk9
    exact hk9
  · have e9 : lkW w = w := if_neg hd
    rw [e9, sw_id hw] at hk
    refine r_ild cd_241_62 rfl rfl ?_
    refine r_aldR cd_241_63 rfl rfl ?_
    refine r_get cd_241_64 rfl hM rfl ?_
    refine r_con (v := 5) cd_241_67 rfl (by decide) ?_
    refine r_arr (i := 5) cd_241_68 rfl hw rfl (by omega) rfl ?_
    refine r_ic64 cd_241_69 rfl ⟨by omega, by omega⟩ (inR_of hI.bn (by decide) (by decide)) (fun n1 => ?_) (fun n1 => ?_)
    · refine r_aldR cd_241_72 rfl rfl ?_
      refine r_get cd_241_73 rfl hM rfl ?_
      refine r_con (v := 1) cd_241_76 rfl (by decide) ?_
      refine r_arr (i := 1) cd_241_77 rfl hw rfl (by omega) rfl ?_
      refine r_aldR cd_241_78 rfl rfl ?_
      refine r_get cd_241_79 rfl hM rfl ?_
      refine r_con (v := 3) cd_241_82 rfl (by decide) ?_
      refine r_arr (i := 3) cd_241_83 rfl hw rfl (by omega) rfl ?_
      refine r_rem cd_241_84 rfl (by omega) (by omega) (by omega) (by omega) ?_
      refine r_if52 cd_241_85 rfl ⟨by have := Int.emod_nonneg (w 1) (show w 3 ≠ 0 by omega); omega, by have := Int.emod_lt_of_pos (w 1) (show 0 < w 3 by omega); omega⟩ (fun n2 => ?_) (fun n2 => ?_)
      · exact absurd n2 hd
      · exact hk _
    · exact hk _
theorem lp_241_2 {s : Nat → Int} (n : Nat) (hn : n ≤ 1000) : ∀ (m k : Nat) {h : aH} {w : Nat → Int} (t : aV), h.2.2 226 = .inr (8, Mo s) → h.2.2 227 = .inl (0, 211, .inl (w)) → Inv0 w → k + m = n → w 1 + m ≤ 100000 → RU 7 241 (.inl (some (aI (itF (fun _ u => hrW u) k m w 1))), sw h 227 (.inl (0, 211, .inl (itF (fun _ u => hrW u) k m w)))) (2, [aR 226, aI ((n : Nat) : Int), aI ((k : Nat) : Int), t], [], 0, 0, h) := by
  intro m
  induction m with
  | zero =>
    intro k h w t hM hw hI hb hh
    have hbn := hI.bNe
    have hpn := hI.pNe
    have x0 := hI.len
    have x1 := hI.hour
    have x2 := hI.gas
    have x3 := hI.leak
    have x4 := hI.gn
    have x5 := hI.bn
    have x6 := hI.pn
    refine r_ild cd_241_2 rfl rfl ?_
    refine r_ild cd_241_3 rfl rfl ?_
    refine r_ic64 cd_241_4 rfl ⟨by omega, by omega⟩ ⟨by omega, by omega⟩ (fun n1 => ?_) (fun n1 => ?_)
    · exact absurd n1 (by omega)
    · refine r_aldR cd_241_105 rfl rfl ?_
      refine r_get cd_241_106 rfl hM rfl ?_
      refine r_con (v := 1) cd_241_109 rfl (by decide) ?_
      refine r_arr (i := 1) cd_241_110 rfl hw rfl (by omega) rfl ?_
      exact r_ret cd_241_111 True.intro (by rw [sw_id (show h.2.2 227 = .inl (0, 211, .inl (itF (fun _ u => hrW u) k 0 w)) from hw)]; rfl)
  | succ m ih =>
    intro k h w t hM hw hI hb hh
    have hbn := hI.bNe
    have hpn := hI.pNe
    have x0 := hI.len
    have x1 := hI.hour
    have x2 := hI.gas
    have x3 := hI.leak
    have x4 := hI.gn
    have x5 := hI.bn
    have x6 := hI.pn
    refine r_ild cd_241_2 rfl rfl ?_
    refine r_ild cd_241_3 rfl rfl ?_
    refine r_ic64 cd_241_4 rfl ⟨by omega, by omega⟩ ⟨by omega, by omega⟩ (fun n1 => ?_) (fun n1 => ?_)
    · refine r_con (v := 0) cd_241_7 rfl (by decide) ?_
      refine r_ist cd_241_8 rfl rfl (L' := [aR 226, aI ((n : Nat) : Int), aI ((k : Nat) : Int), aI 0]) rfl ?_
      refine lp_241_9 _ _ (nB w) 0 hM hw hI (by omega) ?_
      have hD := drW_inv hI
      have hD1 := hD.2 1 (by omega)
      show RU 7 241 _ (50, _, [], 0, 0, sw h 227 (.inl (0, 211, .inl (drW w))))
      refine r_aldR cd_241_50 rfl rfl ?_
      refine r_get cd_241_51 rfl ((sw_ne (by decide)).trans hM) rfl ?_
      refine r_con (v := 1) cd_241_54 rfl (by decide) ?_
      refine r_dup2 cd_241_55 rfl rfl rfl ?_
      refine r_arr (i := 1) cd_241_56 rfl (sw_at _ _ _) rfl (by omega) rfl ?_
      refine r_con (v := 1) cd_241_57 rfl (by decide) ?_
      refine r_add (v := ((drW w) 1) + 1) cd_241_58 rfl (by rfl) ?_
      refine r_arsI (i := 1) cd_241_59 rfl rfl (sw_at _ _ _) rfl (by omega) rfl ?_
      rw [sw_sw]
      refine r_con (v := 0) cd_241_60 rfl (by decide) ?_
      refine r_ist cd_241_61 rfl rfl (L' := [aR 226, aI ((n : Nat) : Int), aI ((k : Nat) : Int), aI 0]) rfl ?_
      have hT := tk_inv hD.1 (by rw [hD1]; omega)
      refine lp_241_6 (w := tkW (drW w)) _ _ ((sw_ne (by decide)).trans hM) (sw_at _ _ _) hT (fun t9 => ?_)
      rw [sw_sw]
      show RU 7 241 _ (99, _, [], 0, 0, sw h 227 (.inl (0, 211, .inl (hrW w))))
      refine r_inc (v := ((k + 1 : Nat) : Int)) cd_241_99 rfl rfl rfl (by omega) (L' := [aR 226, aI ((n : Nat) : Int), aI ((k + 1 : Nat) : Int), t9]) rfl ?_
      refine r_goto cd_241_102 ?_
      have hH := hr_inv hI (by omega)
      have hH1 := hH.2 1 (by omega) (by omega)
      rw [if_pos rfl] at hH1
      refine RU.res ?_ (ih (k + 1) (h := sw h 227 (.inl (0, 211, .inl (hrW w)))) (w := hrW w) t9 ((sw_ne (by decide)).trans hM) (sw_at _ _ _) hH.1 (by omega) (by rw [hH1]; omega))
      rw [sw_sw]
      rfl
    · exact absurd n1 (by omega)
theorem c_241 {h : aH} {s w : Nat → Int} (hM : h.2.2 226 = .inr (8, Mo s)) (hw : h.2.2 227 = .inl (0, 211, .inl w)) (hI : Inv0 w) (n : Nat) (g0 : n ≤ 1000) (g1 : w 1 + n ≤ 100000) : Ct 7 241 [aR 226, aI ((n : Nat) : Int)] h (.inl (some (aI (passW w n 1))), sw h 227 (.inl (0, 211, .inl (passW w n)))) := by
  refine Ct.of [aR 226, aI ((n : Nat) : Int), aU, aU] rfl ?_
  have hbn := hI.bNe
  have hpn := hI.pNe
  have x0 := hI.len
  have x1 := hI.hour
  have x2 := hI.gas
  have x3 := hI.leak
  have x4 := hI.gn
  have x5 := hI.bn
  have x6 := hI.pn
  refine r_con (v := 0) cd_241_0 rfl (by decide) ?_
  refine r_ist cd_241_1 rfl rfl (L' := [aR 226, aI ((n : Nat) : Int), aI 0, aU]) rfl ?_
  exact lp_241_2 n g0 n 0 aU hM hw hI (by omega) g1
