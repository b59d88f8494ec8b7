/-! THE REFERENCE: what its face answers (written by wip/whole/gen21.py) -/
section RAW
variable {K y : Nat} {res : aRes} {pc pc' len a b c : Nat} {L S : List aV} {kc ks : Nat} {h : aH}
theorem r_if54w {x : Int} (hc : code_ y pc = some (54, len, a, b, c)) (hp : pc + len = pc') (k1 : i32 x < 0 → RU K y res (pc', L, S, kc, ks, h)) (k2 : ¬ i32 x < 0 → RU K y res (a, L, S, kc, ks, h)) : RU K y res (pc, L, aI x :: S, kc, ks, h) := by
  subst hp
  by_cases e : i32 x < 0
  · exact RU.st m_54 hc (by rw [lst_54]; dsimp only; rw [if_pos e]) (k1 e)
  · exact RU.st m_54 hc (by rw [lst_54]; dsimp only; rw [if_neg e]) (k2 e)
end RAW
theorem c_239v {h : aH} (x : Int) : Ct 1 239 [aI x] h (.inl (some (aI (absV x))), h) := by
  refine Ct.of [aI x] rfl ?_
  refine r_ild cd_239_0 rfl rfl ?_
  refine r_if54w cd_239_1 rfl (fun n1 => ?_) (fun n1 => ?_)
  · refine r_ild cd_239_4 rfl rfl ?_
    refine r_neg (v := -x) cd_239_5 rfl (by rfl) ?_
    refine r_goto cd_239_6 ?_
    exact r_ret cd_239_10 True.intro (rI (by unfold absV; rw [if_pos n1]))
  · refine r_ild cd_239_9 rfl rfl ?_
    exact r_ret cd_239_10 True.intro (rI (by unfold absV; rw [if_neg n1]))
theorem c_250 {h : aH} {s : Nat → Int} (hM : h.2.2 226 = .inr (8, Mo s)) (t : Bool) : Ct 1 250 [aR 226, aI (bz t)] h (.inl (some (aI (bz (t)))), sw h 226 (.inr (8, Mo (va_up s 15 (bz t))))) := by
  refine Ct.of [aR 226, aI (bz t)] rfl ?_
  refine r_aldR cd_250_0 rfl rfl ?_
  refine r_ild cd_250_1 rfl rfl ?_
  refine r_if51b cd_250_2 rfl (fun n1 => ?_) (fun n1 => ?_)
  · refine r_con (v := 0) cd_250_9 rfl (by decide) ?_
    refine r_put (fs' := Mo (va_up s 15 0)) cd_250_10 rfl hM rfl rfl ?_
    refine r_ild cd_250_13 rfl rfl ?_
    exact r_ret cd_250_14 (bz_fit _) (by first | rfl | (simp [bz, n1]; done) | (simp_all [bz]; done))
  · refine r_con (v := 1) cd_250_5 rfl (by decide) ?_
    refine r_goto cd_250_6 ?_
    refine r_put (fs' := Mo (va_up s 15 1)) cd_250_10 rfl hM rfl rfl ?_
    refine r_ild cd_250_13 rfl rfl ?_
    exact r_ret cd_250_14 (bz_fit _) (by first | rfl | (simp [bz, n1]; done) | (simp_all [bz]; done))
theorem c_255 {h : aH} {s : Nat → Int} (hM : h.2.2 226 = .inr (8, Mo s)) (t : Bool) (u : Bool) : Ct 1 255 [aR 226, aI (bz t), aI (bz u)] h (.inl (some (aI (bz (t || u)))), sw h 226 (.inr (8, Mo (va_up s 15 (if t = true then 1 else if u = true then 2 else 0))))) := by
  refine Ct.of [aR 226, aI (bz t), aI (bz u)] rfl ?_
  refine r_aldR cd_255_0 rfl rfl ?_
  refine r_ild cd_255_1 rfl rfl ?_
  refine r_if51b cd_255_2 rfl (fun n1 => ?_) (fun n1 => ?_)
  · refine r_ild cd_255_9 rfl rfl ?_
    refine r_if51b cd_255_10 rfl (fun n2 => ?_) (fun n2 => ?_)
    · refine r_con (v := 0) cd_255_17 rfl (by decide) ?_
      refine r_put (fs' := Mo (va_up s 15 0)) cd_255_18 rfl hM rfl rfl ?_
      refine r_ild cd_255_21 rfl rfl ?_
      refine r_if52b cd_255_22 rfl (fun n3 => ?_) (fun n3 => ?_)
      · refine r_ild cd_255_25 rfl rfl ?_
        refine r_if51b cd_255_26 rfl (fun n4 => ?_) (fun n4 => ?_)
        · refine r_con (v := 0) cd_255_33 rfl (by decide) ?_
          exact r_ret cd_255_34 (Or.inl rfl) (by first | rfl | (simp [bz, n1, n2, n3, n4]; done) | (simp_all [bz]; done))
        · exact Bool.noConfusion (n4.symm.trans n2)
      · exact Bool.noConfusion (n3.symm.trans n1)
    · refine r_con (v := 2) cd_255_13 rfl (by decide) ?_
      refine r_goto cd_255_14 ?_
      refine r_put (fs' := Mo (va_up s 15 2)) cd_255_18 rfl hM rfl rfl ?_
      refine r_ild cd_255_21 rfl rfl ?_
      refine r_if52b cd_255_22 rfl (fun n5 => ?_) (fun n5 => ?_)
      · refine r_ild cd_255_25 rfl rfl ?_
        refine r_if51b cd_255_26 rfl (fun n6 => ?_) (fun n6 => ?_)
        · exact Bool.noConfusion (n6.symm.trans n2)
        · refine r_con (v := 1) cd_255_29 rfl (by decide) ?_
          refine r_goto cd_255_30 ?_
          exact r_ret cd_255_34 (Or.inr rfl) (by first | rfl | (simp [bz, n1, n2, n5, n6]; done) | (simp_all [bz]; done))
      · exact Bool.noConfusion (n5.symm.trans n1)
  · refine r_con (v := 1) cd_255_5 rfl (by decide) ?_
    refine r_goto cd_255_6 ?_
    refine r_put (fs' := Mo (va_up s 15 1)) cd_255_18 rfl hM rfl rfl ?_
    refine r_ild cd_255_21 rfl rfl ?_
    refine r_if52b cd_255_22 rfl (fun n7 => ?_) (fun n7 => ?_)
    · exact Bool.noConfusion (n7.symm.trans n1)
    · refine r_con (v := 1) cd_255_29 rfl (by decide) ?_
      refine r_goto cd_255_30 ?_
      exact r_ret cd_255_34 (Or.inr rfl) (by first | rfl | (simp [bz, n1, n7]; done) | (simp_all [bz]; done))
theorem c_261 {h : aH} {s : Nat → Int} (hM : h.2.2 226 = .inr (8, Mo s)) (t : Bool) (u : Bool) (v : Bool) : Ct 1 261 [aR 226, aI (bz t), aI (bz u), aI (bz v)] h (.inl (some (aI (bz (t || u || v)))), sw h 226 (.inr (8, Mo (va_up s 15 (if t = true then 1 else if u = true then 2 else if v = true then 3 else 0))))) := by
  refine Ct.of [aR 226, aI (bz t), aI (bz u), aI (bz v)] rfl ?_
  refine r_aldR cd_261_0 rfl rfl ?_
  refine r_ild cd_261_1 rfl rfl ?_
  refine r_if51b cd_261_2 rfl (fun n1 => ?_) (fun n1 => ?_)
  · refine r_ild cd_261_9 rfl rfl ?_
    refine r_if51b cd_261_10 rfl (fun n2 => ?_) (fun n2 => ?_)
    · refine r_ild cd_261_17 rfl rfl ?_
      refine r_if51b cd_261_18 rfl (fun n3 => ?_) (fun n3 => ?_)
      · refine r_con (v := 0) cd_261_25 rfl (by decide) ?_
        refine r_put (fs' := Mo (va_up s 15 0)) cd_261_26 rfl hM rfl rfl ?_
        refine r_ild cd_261_29 rfl rfl ?_
        refine r_if52b cd_261_30 rfl (fun n4 => ?_) (fun n4 => ?_)
        · refine r_ild cd_261_33 rfl rfl ?_
          refine r_if52b cd_261_34 rfl (fun n5 => ?_) (fun n5 => ?_)
          · refine r_ild cd_261_37 rfl rfl ?_
            refine r_if51b cd_261_38 rfl (fun n6 => ?_) (fun n6 => ?_)
            · refine r_con (v := 0) cd_261_45 rfl (by decide) ?_
              exact r_ret cd_261_46 (Or.inl rfl) (by first | rfl | (simp [bz, n1, n2, n3, n4, n5, n6]; done) | (simp_all [bz]; done))
            · exact Bool.noConfusion (n6.symm.trans n3)
          · exact Bool.noConfusion (n5.symm.trans n2)
        · exact Bool.noConfusion (n4.symm.trans n1)
      · refine r_con (v := 3) cd_261_21 rfl (by decide) ?_
        refine r_goto cd_261_22 ?_
        refine r_put (fs' := Mo (va_up s 15 3)) cd_261_26 rfl hM rfl rfl ?_
        refine r_ild cd_261_29 rfl rfl ?_
        refine r_if52b cd_261_30 rfl (fun n7 => ?_) (fun n7 => ?_)
        · refine r_ild cd_261_33 rfl rfl ?_
          refine r_if52b cd_261_34 rfl (fun n8 => ?_) (fun n8 => ?_)
          · refine r_ild cd_261_37 rfl rfl ?_
            refine r_if51b cd_261_38 rfl (fun n9 => ?_) (fun n9 => ?_)
            · exact Bool.noConfusion (n9.symm.trans n3)
            · refine r_con (v := 1) cd_261_41 rfl (by decide) ?_
              refine r_goto cd_261_42 ?_
              exact r_ret cd_261_46 (Or.inr rfl) (by first | rfl | (simp [bz, n1, n2, n3, n7, n8, n9]; done) | (simp_all [bz]; done))
          · exact Bool.noConfusion (n8.symm.trans n2)
        · exact Bool.noConfusion (n7.symm.trans n1)
    · refine r_con (v := 2) cd_261_13 rfl (by decide) ?_
      refine r_goto cd_261_14 ?_
      refine r_put (fs' := Mo (va_up s 15 2)) cd_261_26 rfl hM rfl rfl ?_
      refine r_ild cd_261_29 rfl rfl ?_
      refine r_if52b cd_261_30 rfl (fun n10 => ?_) (fun n10 => ?_)
      · refine r_ild cd_261_33 rfl rfl ?_
        refine r_if52b cd_261_34 rfl (fun n11 => ?_) (fun n11 => ?_)
        · exact Bool.noConfusion (n11.symm.trans n2)
        · refine r_con (v := 1) cd_261_41 rfl (by decide) ?_
          refine r_goto cd_261_42 ?_
          exact r_ret cd_261_46 (Or.inr rfl) (by first | rfl | (simp [bz, n1, n2, n10, n11]; done) | (simp_all [bz]; done))
      · exact Bool.noConfusion (n10.symm.trans n1)
  · refine r_con (v := 1) cd_261_5 rfl (by decide) ?_
    refine r_goto cd_261_6 ?_
    refine r_put (fs' := Mo (va_up s 15 1)) cd_261_26 rfl hM rfl rfl ?_
    refine r_ild cd_261_29 rfl rfl ?_
    refine r_if52b cd_261_30 rfl (fun n12 => ?_) (fun n12 => ?_)
    · exact Bool.noConfusion (n12.symm.trans n1)
    · refine r_con (v := 1) cd_261_41 rfl (by decide) ?_
      refine r_goto cd_261_42 ?_
      exact r_ret cd_261_46 (Or.inr rfl) (by first | rfl | (simp [bz, n1, n12]; done) | (simp_all [bz]; done))
theorem c_281 {h : aH} {s w : Nat → Int} (hM : h.2.2 226 = .inr (8, Mo s)) (hw : h.2.2 227 = .inl (0, 211, .inl w)) (k : Nat) (g0 : k < 211) : Ct 1 281 [aR 226, aI ((k : Nat) : Int)] h (.inl (some (aI (w k))), sw h 226 (.inr (8, Mo (va_up s 15 (0))))) := by
  refine Ct.of [aR 226, aI ((k : Nat) : Int)] rfl ?_
  refine r_aldR cd_281_0 rfl rfl ?_
  refine r_con (v := 0) cd_281_1 rfl (by decide) ?_
  refine r_put (fs' := Mo (va_up s 15 0)) cd_281_2 rfl hM rfl rfl ?_
  refine r_aldR cd_281_5 rfl rfl ?_
  refine r_get cd_281_6 rfl (sw_at _ _ _) rfl ?_
  refine r_ild cd_281_9 rfl rfl ?_
  refine r_arr (i := k) cd_281_10 rfl ((sw_ne (by decide)).trans hw) rfl (by omega) rfl ?_
  exact r_ret cd_281_11 True.intro (rfl)
theorem c_280 {h : aH} {s w : Nat → Int} (hM : h.2.2 226 = .inr (8, Mo s)) (hw : h.2.2 227 = .inl (0, 211, .inl w))  : Ct 2 280 [aR 226] h (.inl (some (aI (w 0))), sw h 226 (.inr (8, Mo (va_up s 15 (0))))) := by
  refine Ct.of [aR 226] rfl ?_
  refine r_aldR cd_280_0 rfl rfl ?_
  refine r_con (v := 0) cd_280_1 rfl (by decide) ?_
  refine r_cI (c_281 hM hw 0 (by omega)) cd_280_2 rfl rfl rfl (rc0 hM rfl) rfl rfl rfl ?_
  exact r_ret cd_280_5 True.intro (rfl)
theorem c_282 {h : aH} {s w : Nat → Int} (hM : h.2.2 226 = .inr (8, Mo s)) (hw : h.2.2 227 = .inl (0, 211, .inl w))  : Ct 2 282 [aR 226] h (.inl (some (aI (w 1))), sw h 226 (.inr (8, Mo (va_up s 15 (0))))) := by
  refine Ct.of [aR 226] rfl ?_
  refine r_aldR cd_282_0 rfl rfl ?_
  refine r_con (v := 1) cd_282_1 rfl (by decide) ?_
  refine r_cI (c_281 hM hw 1 (by omega)) cd_282_2 rfl rfl rfl (rc0 hM rfl) rfl rfl rfl ?_
  exact r_ret cd_282_5 True.intro (rfl)
theorem c_283 {h : aH} {s w : Nat → Int} (hM : h.2.2 226 = .inr (8, Mo s)) (hw : h.2.2 227 = .inl (0, 211, .inl w))  : Ct 2 283 [aR 226] h (.inl (some (aI (w 2))), sw h 226 (.inr (8, Mo (va_up s 15 (0))))) := by
  refine Ct.of [aR 226] rfl ?_
  refine r_aldR cd_283_0 rfl rfl ?_
  refine r_con (v := 2) cd_283_1 rfl (by decide) ?_
  refine r_cI (c_281 hM hw 2 (by omega)) cd_283_2 rfl rfl rfl (rc0 hM rfl) rfl rfl rfl ?_
  exact r_ret cd_283_5 True.intro (rfl)
theorem c_284 {h : aH} {s w : Nat → Int} (hM : h.2.2 226 = .inr (8, Mo s)) (hw : h.2.2 227 = .inl (0, 211, .inl w))  : Ct 2 284 [aR 226] h (.inl (some (aI (w 5))), sw h 226 (.inr (8, Mo (va_up s 15 (0))))) := by
  refine Ct.of [aR 226] rfl ?_
  refine r_aldR cd_284_0 rfl rfl ?_
  refine r_con (v := 5) cd_284_1 rfl (by decide) ?_
  refine r_cI (c_281 hM hw 5 (by omega)) cd_284_2 rfl rfl rfl (rc0 hM rfl) rfl rfl rfl ?_
  exact r_ret cd_284_5 True.intro (rfl)
theorem c_285 {h : aH} {s w : Nat → Int} (hM : h.2.2 226 = .inr (8, Mo s)) (hw : h.2.2 227 = .inl (0, 211, .inl w))  : Ct 2 285 [aR 226] h (.inl (some (aI (w 6))), sw h 226 (.inr (8, Mo (va_up s 15 (0))))) := by
  refine Ct.of [aR 226] rfl ?_
  refine r_aldR cd_285_0 rfl rfl ?_
  refine r_con (v := 6) cd_285_1 rfl (by decide) ?_
  refine r_cI (c_281 hM hw 6 (by omega)) cd_285_3 rfl rfl rfl (rc0 hM rfl) rfl rfl rfl ?_
  exact r_ret cd_285_6 True.intro (rfl)
theorem c_319 {h : aH} {s w : Nat → Int} (hM : h.2.2 226 = .inr (8, Mo s)) (hw : h.2.2 227 = .inl (0, 211, .inl w))  : Ct 2 319 [aR 226] h (.inl (some (aI (w 7))), sw h 226 (.inr (8, Mo (va_up s 15 (0))))) := by
  refine Ct.of [aR 226] rfl ?_
  refine r_aldR cd_319_0 rfl rfl ?_
  refine r_con (v := 7) cd_319_1 rfl (by decide) ?_
  refine r_cI (c_281 hM hw 7 (by omega)) cd_319_3 rfl rfl rfl (rc0 hM rfl) rfl rfl rfl ?_
  exact r_ret cd_319_6 True.intro (rfl)
theorem c_320 {h : aH} {s w : Nat → Int} (hM : h.2.2 226 = .inr (8, Mo s)) (hw : h.2.2 227 = .inl (0, 211, .inl w))  : Ct 2 320 [aR 226] h (.inl (some (aI (w 8))), sw h 226 (.inr (8, Mo (va_up s 15 (0))))) := by
  refine Ct.of [aR 226] rfl ?_
  refine r_aldR cd_320_0 rfl rfl ?_
  refine r_con (v := 8) cd_320_1 rfl (by decide) ?_
  refine r_cI (c_281 hM hw 8 (by omega)) cd_320_3 rfl rfl rfl (rc0 hM rfl) rfl rfl rfl ?_
  exact r_ret cd_320_6 True.intro (rfl)
theorem c_278 {h : aH} {s w : Nat → Int} (hM : h.2.2 226 = .inr (8, Mo s)) (hw : h.2.2 227 = .inl (0, 211, .inl w))  : Ct 1 278 [aR 226] h (.inl (some (aI (s 11))), sw h 226 (.inr (8, Mo (va_up s 15 (0))))) := by
  refine Ct.of [aR 226] rfl ?_
  refine r_aldR cd_278_0 rfl rfl ?_
  refine r_con (v := 0) cd_278_1 rfl (by decide) ?_
  refine r_put (fs' := Mo (va_up s 15 0)) cd_278_2 rfl hM rfl rfl ?_
  refine r_aldR cd_278_5 rfl rfl ?_
  refine r_get cd_278_6 rfl (sw_at _ _ _) rfl ?_
  exact r_ret cd_278_9 True.intro (rfl)
theorem c_279 {h : aH} {s w : Nat → Int} (hM : h.2.2 226 = .inr (8, Mo s)) (hw : h.2.2 227 = .inl (0, 211, .inl w))  : Ct 1 279 [aR 226] h (.inl (some (aI (s 12))), sw h 226 (.inr (8, Mo (va_up s 15 (0))))) := by
  refine Ct.of [aR 226] rfl ?_
  refine r_aldR cd_279_0 rfl rfl ?_
  refine r_con (v := 0) cd_279_1 rfl (by decide) ?_
  refine r_put (fs' := Mo (va_up s 15 0)) cd_279_2 rfl hM rfl rfl ?_
  refine r_aldR cd_279_5 rfl rfl ?_
  refine r_get cd_279_6 rfl (sw_at _ _ _) rfl ?_
  exact r_ret cd_279_9 True.intro (rfl)
theorem c_275 {h : aH} {s w : Nat → Int} (hM : h.2.2 226 = .inr (8, Mo s)) (hw : h.2.2 227 = .inl (0, 211, .inl w))  : Ct 1 275 [aR 226] h (.inl (some (aI (s 5))), sw h 226 (.inr (8, Mo (va_up s 15 (0))))) := by
  refine Ct.of [aR 226] rfl ?_
  refine r_aldR cd_275_0 rfl rfl ?_
  refine r_con (v := 0) cd_275_1 rfl (by decide) ?_
  refine r_put (fs' := Mo (va_up s 15 0)) cd_275_2 rfl hM rfl rfl ?_
  refine r_aldR cd_275_5 rfl rfl ?_
  refine r_get cd_275_6 rfl (sw_at _ _ _) rfl ?_
  exact r_ret cd_275_9 True.intro (rfl)
theorem c_246 {h : aH} {s : Nat → Int} (hM : h.2.2 226 = .inr (8, Mo s)) : Ct 1 246 [aR 226] h (.inl (some (aI (s 15))), h) := by
  refine Ct.of [aR 226] rfl ?_
  refine r_aldR cd_246_0 rfl rfl ?_
  refine r_get cd_246_1 rfl hM rfl ?_
  exact r_ret cd_246_4 True.intro (rfl)
theorem c_286 {h : aH} {s w : Nat → Int} (hM : h.2.2 226 = .inr (8, Mo s)) (hw : h.2.2 227 = .inl (0, 211, .inl w)) (hI : Inv0 w) (x : Int) (hx : inR x) : Ct 3 286 [aR 226, aI x] h (.inl (some (aI (if isPl w x = true then w (23 + x.toNat) else 0))), sw h 226 (.inr (8, Mo (va_up s 15 (bz (!isPl w x)))))) := by
  refine Ct.of [aR 226, aI x] rfl ?_
  have hbn := hI.bNe
  have hpn := hI.pNe
  have x0 := hI.len
  have x1 := hI.hour
  have x2 := hI.gas
  have x3 := hI.leak
  have x4 := hI.gn
  have x5 := hI.bn
  have x6 := hI.pn
  refine r_aldR cd_286_0 rfl rfl ?_
  refine r_aldR cd_286_1 rfl rfl ?_
  refine r_ild cd_286_2 rfl rfl ?_
  refine r_cI (c_244 hM hw hI x hx) cd_286_3 rfl rfl rfl (rc0 hM rfl) rfl rfl rfl ?_
  refine r_if52b cd_286_6 rfl (fun n1 => ?_) (fun n1 => ?_)
  · refine r_con (v := 1) cd_286_9 rfl (by decide) ?_
    refine r_goto cd_286_10 ?_
    refine r_cI (c_250 hM true) cd_286_14 rfl rfl rfl (rc0 hM rfl) rfl rfl rfl ?_
    refine r_if51b cd_286_17 rfl (fun n2 => ?_) (fun n2 => ?_)
    · exact absurd n2 (by decide)
    · refine r_con (v := 0) cd_286_20 rfl (by decide) ?_
      refine r_goto cd_286_21 ?_
      exact r_ret cd_286_33 True.intro (by first | rfl | (simp [bz, n1]; done))
  · have e_x := isPl_iff.mp n1
    obtain ⟨qx, rfl⟩ : ∃ qx : Nat, x = (qx : Int) := ⟨x.toNat, by omega⟩
    refine r_con (v := 0) cd_286_13 rfl (by decide) ?_
    refine r_cI (c_250 hM false) cd_286_14 rfl rfl rfl (rc0 hM rfl) rfl rfl rfl ?_
    show RU _ _ _ (_, _, _, _, _, sw _ 226 (.inr (8, Mo (va_up s 15 0))))
    refine r_if51b cd_286_17 rfl (fun n3 => ?_) (fun n3 => ?_)
    · refine r_aldR cd_286_24 rfl rfl ?_
      refine r_get cd_286_25 rfl (sw_at _ _ _) rfl ?_
      refine r_con (v := 23) cd_286_28 rfl (by decide) ?_
      refine r_ild cd_286_30 rfl rfl ?_
      refine r_add (v := ((23 + qx : Nat) : Int)) cd_286_31 rfl (by omega) ?_
      refine r_arr (i := 23 + qx) cd_286_32 rfl ((sw_ne (by decide)).trans hw) rfl (by omega) rfl ?_
      exact r_ret cd_286_33 True.intro (by first | rfl | (simp [bz, n1]; done))
    · exact absurd n3 (by decide)
theorem c_287 {h : aH} {s w : Nat → Int} (hM : h.2.2 226 = .inr (8, Mo s)) (hw : h.2.2 227 = .inl (0, 211, .inl w)) (hI : Inv0 w) (x : Int) (hx : inR x) : Ct 3 287 [aR 226, aI x] h (.inl (some (aI (if isPl w x = true then w (53 + x.toNat) else 0))), sw h 226 (.inr (8, Mo (va_up s 15 (bz (!isPl w x)))))) := by
  refine Ct.of [aR 226, aI x] rfl ?_
  have hbn := hI.bNe
  have hpn := hI.pNe
  have x0 := hI.len
  have x1 := hI.hour
  have x2 := hI.gas
  have x3 := hI.leak
  have x4 := hI.gn
  have x5 := hI.bn
  have x6 := hI.pn
  refine r_aldR cd_287_0 rfl rfl ?_
  refine r_aldR cd_287_1 rfl rfl ?_
  refine r_ild cd_287_2 rfl rfl ?_
  refine r_cI (c_244 hM hw hI x hx) cd_287_3 rfl rfl rfl (rc0 hM rfl) rfl rfl rfl ?_
  refine r_if52b cd_287_6 rfl (fun n1 => ?_) (fun n1 => ?_)
  · refine r_con (v := 1) cd_287_9 rfl (by decide) ?_
    refine r_goto cd_287_10 ?_
    refine r_cI (c_250 hM true) cd_287_14 rfl rfl rfl (rc0 hM rfl) rfl rfl rfl ?_
    refine r_if51b cd_287_17 rfl (fun n2 => ?_) (fun n2 => ?_)
    · exact absurd n2 (by decide)
    · refine r_con (v := 0) cd_287_20 rfl (by decide) ?_
      refine r_goto cd_287_21 ?_
      exact r_ret cd_287_33 True.intro (by first | rfl | (simp [bz, n1]; done))
  · have e_x := isPl_iff.mp n1
    obtain ⟨qx, rfl⟩ : ∃ qx : Nat, x = (qx : Int) := ⟨x.toNat, by omega⟩
    refine r_con (v := 0) cd_287_13 rfl (by decide) ?_
    refine r_cI (c_250 hM false) cd_287_14 rfl rfl rfl (rc0 hM rfl) rfl rfl rfl ?_
    show RU _ _ _ (_, _, _, _, _, sw _ 226 (.inr (8, Mo (va_up s 15 0))))
    refine r_if51b cd_287_17 rfl (fun n3 => ?_) (fun n3 => ?_)
    · refine r_aldR cd_287_24 rfl rfl ?_
      refine r_get cd_287_25 rfl (sw_at _ _ _) rfl ?_
      refine r_con (v := 53) cd_287_28 rfl (by decide) ?_
      refine r_ild cd_287_30 rfl rfl ?_
      refine r_add (v := ((53 + qx : Nat) : Int)) cd_287_31 rfl (by omega) ?_
      refine r_arr (i := 53 + qx) cd_287_32 rfl ((sw_ne (by decide)).trans hw) rfl (by omega) rfl ?_
      exact r_ret cd_287_33 True.intro (by first | rfl | (simp [bz, n1]; done))
    · exact absurd n3 (by decide)
theorem c_288 {h : aH} {s w : Nat → Int} (hM : h.2.2 226 = .inr (8, Mo s)) (hw : h.2.2 227 = .inl (0, 211, .inl w)) (hI : Inv0 w) (x : Int) (hx : inR x) : Ct 2 288 [aR 226, aI x] h (.inl (some (aI (if inB x 0 999 = true then gustI w x else 0))), sw h 226 (.inr (8, Mo (va_up s 15 (bz (!inB x 0 999)))))) := by
  refine Ct.of [aR 226, aI x] rfl ?_
  have hbn := hI.bNe
  have hpn := hI.pNe
  have x0 := hI.len
  have x1 := hI.hour
  have x2 := hI.gas
  have x3 := hI.leak
  have x4 := hI.gn
  have x5 := hI.bn
  have x6 := hI.pn
  refine r_aldR cd_288_0 rfl rfl ?_
  refine r_ild cd_288_1 rfl rfl ?_
  refine r_con (v := 0) cd_288_2 rfl (by decide) ?_
  refine r_con (v := 999) cd_288_3 rfl (by decide) ?_
  refine r_cI (c_186 x hx 0 ⟨by omega, by omega⟩ 999 ⟨by omega, by omega⟩) cd_288_6 rfl rfl rfl True.intro rfl rfl rfl ?_
  refine r_if52b cd_288_9 rfl (fun n1 => ?_) (fun n1 => ?_)
  · refine r_con (v := 1) cd_288_12 rfl (by decide) ?_
    refine r_goto cd_288_13 ?_
    refine r_cI (c_250 hM true) cd_288_17 rfl rfl rfl (rc0 hM rfl) rfl rfl rfl ?_
    refine r_if51b cd_288_20 rfl (fun n2 => ?_) (fun n2 => ?_)
    · exact absurd n2 (by decide)
    · refine r_con (v := 0) cd_288_23 rfl (by decide) ?_
      refine r_goto cd_288_24 ?_
      exact r_ret cd_288_32 True.intro (by first | rfl | (simp [bz, n1]; done))
  · have e_x := inB_iff.mp n1
    refine r_con (v := 0) cd_288_16 rfl (by decide) ?_
    refine r_cI (c_250 hM false) cd_288_17 rfl rfl rfl (rc0 hM rfl) rfl rfl rfl ?_
    show RU _ _ _ (_, _, _, _, _, sw _ 226 (.inr (8, Mo (va_up s 15 0))))
    refine r_if51b cd_288_20 rfl (fun n3 => ?_) (fun n3 => ?_)
    · refine r_aldR cd_288_27 rfl rfl ?_
      refine r_ild cd_288_28 rfl rfl ?_
      refine r_cI (c_242 (sw_at _ _ _) ((sw_ne (by decide)).trans hw) hI x hx (by omega)) cd_288_29 rfl rfl rfl (rc0 (sw_at _ _ _) rfl) rfl rfl rfl ?_
      exact r_ret cd_288_32 True.intro (by first | rfl | (simp [bz, n1]; done))
    · exact absurd n3 (by decide)
theorem c_291 {h : aH} {s w : Nat → Int} (hM : h.2.2 226 = .inr (8, Mo s)) (hw : h.2.2 227 = .inl (0, 211, .inl w)) (hI : Inv0 w) (x : Int) (hx : inR x) (k : Nat) (g0 : k < 4) : Ct 3 291 [aR 226, aI x, aI ((k : Nat) : Int)] h (.inl (some (aI (if isBa w x = true then bo w x.toNat k else 0))), sw h 226 (.inr (8, Mo (va_up s 15 (bz (!isBa w x)))))) := by
  refine Ct.of [aR 226, aI x, aI ((k : Nat) : Int)] rfl ?_
  have hbn := hI.bNe
  have hpn := hI.pNe
  have x0 := hI.len
  have x1 := hI.hour
  have x2 := hI.gas
  have x3 := hI.leak
  have x4 := hI.gn
  have x5 := hI.bn
  have x6 := hI.pn
  refine r_aldR cd_291_0 rfl rfl ?_
  refine r_aldR cd_291_1 rfl rfl ?_
  refine r_ild cd_291_2 rfl rfl ?_
  refine r_cI (c_265 hM hw hI x hx) cd_291_3 rfl rfl rfl (rc0 hM rfl) rfl rfl rfl ?_
  refine r_if52b cd_291_6 rfl (fun n1 => ?_) (fun n1 => ?_)
  · refine r_con (v := 1) cd_291_9 rfl (by decide) ?_
    refine r_goto cd_291_10 ?_
    refine r_cI (c_250 hM true) cd_291_14 rfl rfl rfl (rc0 hM rfl) rfl rfl rfl ?_
    refine r_if51b cd_291_17 rfl (fun n2 => ?_) (fun n2 => ?_)
    · exact absurd n2 (by decide)
    · refine r_con (v := 0) cd_291_20 rfl (by decide) ?_
      refine r_goto cd_291_21 ?_
      exact r_ret cd_291_30 True.intro (by first | rfl | (simp [bz, n1]; done))
  · have e_x := isBa_iff.mp n1
    obtain ⟨qx, rfl⟩ : ∃ qx : Nat, x = (qx : Int) := ⟨x.toNat, by omega⟩
    refine r_con (v := 0) cd_291_13 rfl (by decide) ?_
    refine r_cI (c_250 hM false) cd_291_14 rfl rfl rfl (rc0 hM rfl) rfl rfl rfl ?_
    show RU _ _ _ (_, _, _, _, _, sw _ 226 (.inr (8, Mo (va_up s 15 0))))
    refine r_if51b cd_291_17 rfl (fun n3 => ?_) (fun n3 => ?_)
    · refine r_aldR cd_291_24 rfl rfl ?_
      refine r_ild cd_291_25 rfl rfl ?_
      refine r_ild cd_291_26 rfl rfl ?_
      refine r_cI (c_209 (sw_at _ _ _) ((sw_ne (by decide)).trans hw) qx k (by omega)) cd_291_27 rfl rfl rfl (rc0 (sw_at _ _ _) rfl) rfl rfl rfl ?_
      exact r_ret cd_291_30 True.intro (by first | rfl | (simp [bz, n1]; done))
    · exact absurd n3 (by decide)
theorem c_300 {h : aH} {s w : Nat → Int} (hM : h.2.2 226 = .inr (8, Mo s)) (hw : h.2.2 227 = .inl (0, 211, .inl w)) (hI : Inv0 w) (x : Int) (hx : inR x) (k : Nat) (g0 : k < 6) : Ct 3 300 [aR 226, aI x, aI ((k : Nat) : Int)] h (.inl (some (aI (if isPa w x = true then pa w x.toNat k else 0))), sw h 226 (.inr (8, Mo (va_up s 15 (bz (!isPa w x)))))) := by
  refine Ct.of [aR 226, aI x, aI ((k : Nat) : Int)] rfl ?_
  have hbn := hI.bNe
  have hpn := hI.pNe
  have x0 := hI.len
  have x1 := hI.hour
  have x2 := hI.gas
  have x3 := hI.leak
  have x4 := hI.gn
  have x5 := hI.bn
  have x6 := hI.pn
  refine r_aldR cd_300_0 rfl rfl ?_
  refine r_aldR cd_300_1 rfl rfl ?_
  refine r_ild cd_300_2 rfl rfl ?_
  refine r_cI (c_264 hM hw hI x hx) cd_300_3 rfl rfl rfl (rc0 hM rfl) rfl rfl rfl ?_
  refine r_if52b cd_300_6 rfl (fun n1 => ?_) (fun n1 => ?_)
  · refine r_con (v := 1) cd_300_9 rfl (by decide) ?_
    refine r_goto cd_300_10 ?_
    refine r_cI (c_250 hM true) cd_300_14 rfl rfl rfl (rc0 hM rfl) rfl rfl rfl ?_
    refine r_if51b cd_300_17 rfl (fun n2 => ?_) (fun n2 => ?_)
    · exact absurd n2 (by decide)
    · refine r_con (v := 0) cd_300_20 rfl (by decide) ?_
      refine r_goto cd_300_21 ?_
      exact r_ret cd_300_30 True.intro (by first | rfl | (simp [bz, n1]; done))
  · have e_x := isPa_iff.mp n1
    obtain ⟨qx, rfl⟩ : ∃ qx : Nat, x = (qx : Int) := ⟨x.toNat, by omega⟩
    refine r_con (v := 0) cd_300_13 rfl (by decide) ?_
    refine r_cI (c_250 hM false) cd_300_14 rfl rfl rfl (rc0 hM rfl) rfl rfl rfl ?_
    show RU _ _ _ (_, _, _, _, _, sw _ 226 (.inr (8, Mo (va_up s 15 0))))
    refine r_if51b cd_300_17 rfl (fun n3 => ?_) (fun n3 => ?_)
    · refine r_aldR cd_300_24 rfl rfl ?_
      refine r_ild cd_300_25 rfl rfl ?_
      refine r_ild cd_300_26 rfl rfl ?_
      refine r_cI (c_203 (sw_at _ _ _) ((sw_ne (by decide)).trans hw) qx k (by omega)) cd_300_27 rfl rfl rfl (rc0 (sw_at _ _ _) rfl) rfl rfl rfl ?_
      exact r_ret cd_300_30 True.intro (by first | rfl | (simp [bz, n1]; done))
    · exact absurd n3 (by decide)
theorem c_290 {h : aH} {s w : Nat → Int} (hM : h.2.2 226 = .inr (8, Mo s)) (hw : h.2.2 227 = .inl (0, 211, .inl w)) (hI : Inv0 w) (x : Int) (hx : inR x) : Ct 4 290 [aR 226, aI x] h (.inl (some (aI (if isBa w x = true then bo w x.toNat 0 else 0))), sw h 226 (.inr (8, Mo (va_up s 15 (bz (!isBa w x)))))) := by
  refine Ct.of [aR 226, aI x] rfl ?_
  have hbn := hI.bNe
  have hpn := hI.pNe
  have x0 := hI.len
  have x1 := hI.hour
  have x2 := hI.gas
  have x3 := hI.leak
  have x4 := hI.gn
  have x5 := hI.bn
  have x6 := hI.pn
  refine r_aldR cd_290_0 rfl rfl ?_
  refine r_ild cd_290_1 rfl rfl ?_
  refine r_con (v := 0) cd_290_2 rfl (by decide) ?_
  refine r_cI (c_291 hM hw hI x hx 0 (by omega)) cd_290_3 rfl rfl rfl (rc0 hM rfl) rfl rfl rfl ?_
  exact r_ret cd_290_6 True.intro (rfl)
theorem c_292 {h : aH} {s w : Nat → Int} (hM : h.2.2 226 = .inr (8, Mo s)) (hw : h.2.2 227 = .inl (0, 211, .inl w)) (hI : Inv0 w) (x : Int) (hx : inR x) : Ct 4 292 [aR 226, aI x] h (.inl (some (aI (if isBa w x = true then bo w x.toNat 1 else 0))), sw h 226 (.inr (8, Mo (va_up s 15 (bz (!isBa w x)))))) := by
  refine Ct.of [aR 226, aI x] rfl ?_
  have hbn := hI.bNe
  have hpn := hI.pNe
  have x0 := hI.len
  have x1 := hI.hour
  have x2 := hI.gas
  have x3 := hI.leak
  have x4 := hI.gn
  have x5 := hI.bn
  have x6 := hI.pn
  refine r_aldR cd_292_0 rfl rfl ?_
  refine r_ild cd_292_1 rfl rfl ?_
  refine r_con (v := 1) cd_292_2 rfl (by decide) ?_
  refine r_cI (c_291 hM hw hI x hx 1 (by omega)) cd_292_3 rfl rfl rfl (rc0 hM rfl) rfl rfl rfl ?_
  exact r_ret cd_292_6 True.intro (rfl)
theorem c_293 {h : aH} {s w : Nat → Int} (hM : h.2.2 226 = .inr (8, Mo s)) (hw : h.2.2 227 = .inl (0, 211, .inl w)) (hI : Inv0 w) (x : Int) (hx : inR x) : Ct 4 293 [aR 226, aI x] h (.inl (some (aI (if isBa w x = true then bo w x.toNat 2 else 0))), sw h 226 (.inr (8, Mo (va_up s 15 (bz (!isBa w x)))))) := by
  refine Ct.of [aR 226, aI x] rfl ?_
  have hbn := hI.bNe
  have hpn := hI.pNe
  have x0 := hI.len
  have x1 := hI.hour
  have x2 := hI.gas
  have x3 := hI.leak
  have x4 := hI.gn
  have x5 := hI.bn
  have x6 := hI.pn
  refine r_aldR cd_293_0 rfl rfl ?_
  refine r_ild cd_293_1 rfl rfl ?_
  refine r_con (v := 2) cd_293_2 rfl (by decide) ?_
  refine r_cI (c_291 hM hw hI x hx 2 (by omega)) cd_293_3 rfl rfl rfl (rc0 hM rfl) rfl rfl rfl ?_
  exact r_ret cd_293_6 True.intro (rfl)
theorem c_296 {h : aH} {s w : Nat → Int} (hM : h.2.2 226 = .inr (8, Mo s)) (hw : h.2.2 227 = .inl (0, 211, .inl w)) (hI : Inv0 w) (x : Int) (hx : inR x) : Ct 4 296 [aR 226, aI x] h (.inl (some (aI (if isBa w x = true then bo w x.toNat 3 else 0))), sw h 226 (.inr (8, Mo (va_up s 15 (bz (!isBa w x)))))) := by
  refine Ct.of [aR 226, aI x] rfl ?_
  have hbn := hI.bNe
  have hpn := hI.pNe
  have x0 := hI.len
  have x1 := hI.hour
  have x2 := hI.gas
  have x3 := hI.leak
  have x4 := hI.gn
  have x5 := hI.bn
  have x6 := hI.pn
  refine r_aldR cd_296_0 rfl rfl ?_
  refine r_ild cd_296_1 rfl rfl ?_
  refine r_con (v := 3) cd_296_2 rfl (by decide) ?_
  refine r_cI (c_291 hM hw hI x hx 3 (by omega)) cd_296_3 rfl rfl rfl (rc0 hM rfl) rfl rfl rfl ?_
  exact r_ret cd_296_6 True.intro (rfl)
theorem c_299 {h : aH} {s w : Nat → Int} (hM : h.2.2 226 = .inr (8, Mo s)) (hw : h.2.2 227 = .inl (0, 211, .inl w)) (hI : Inv0 w) (x : Int) (hx : inR x) : Ct 4 299 [aR 226, aI x] h (.inl (some (aI (if isPa w x = true then pa w x.toNat 0 else 0))), sw h 226 (.inr (8, Mo (va_up s 15 (bz (!isPa w x)))))) := by
  refine Ct.of [aR 226, aI x] rfl ?_
  have hbn := hI.bNe
  have hpn := hI.pNe
  have x0 := hI.len
  have x1 := hI.hour
  have x2 := hI.gas
  have x3 := hI.leak
  have x4 := hI.gn
  have x5 := hI.bn
  have x6 := hI.pn
  refine r_aldR cd_299_0 rfl rfl ?_
  refine r_ild cd_299_1 rfl rfl ?_
  refine r_con (v := 0) cd_299_2 rfl (by decide) ?_
  refine r_cI (c_300 hM hw hI x hx 0 (by omega)) cd_299_3 rfl rfl rfl (rc0 hM rfl) rfl rfl rfl ?_
  exact r_ret cd_299_6 True.intro (rfl)
theorem c_301 {h : aH} {s w : Nat → Int} (hM : h.2.2 226 = .inr (8, Mo s)) (hw : h.2.2 227 = .inl (0, 211, .inl w)) (hI : Inv0 w) (x : Int) (hx : inR x) : Ct 4 301 [aR 226, aI x] h (.inl (some (aI (if isPa w x = true then pa w x.toNat 2 else 0))), sw h 226 (.inr (8, Mo (va_up s 15 (bz (!isPa w x)))))) := by
  refine Ct.of [aR 226, aI x] rfl ?_
  have hbn := hI.bNe
  have hpn := hI.pNe
  have x0 := hI.len
  have x1 := hI.hour
  have x2 := hI.gas
  have x3 := hI.leak
  have x4 := hI.gn
  have x5 := hI.bn
  have x6 := hI.pn
  refine r_aldR cd_301_0 rfl rfl ?_
  refine r_ild cd_301_1 rfl rfl ?_
  refine r_con (v := 2) cd_301_2 rfl (by decide) ?_
  refine r_cI (c_300 hM hw hI x hx 2 (by omega)) cd_301_3 rfl rfl rfl (rc0 hM rfl) rfl rfl rfl ?_
  exact r_ret cd_301_6 True.intro (rfl)
theorem c_302 {h : aH} {s w : Nat → Int} (hM : h.2.2 226 = .inr (8, Mo s)) (hw : h.2.2 227 = .inl (0, 211, .inl w)) (hI : Inv0 w) (x : Int) (hx : inR x) : Ct 4 302 [aR 226, aI x] h (.inl (some (aI (if isPa w x = true then pa w x.toNat 4 else 0))), sw h 226 (.inr (8, Mo (va_up s 15 (bz (!isPa w x)))))) := by
  refine Ct.of [aR 226, aI x] rfl ?_
  have hbn := hI.bNe
  have hpn := hI.pNe
  have x0 := hI.len
  have x1 := hI.hour
  have x2 := hI.gas
  have x3 := hI.leak
  have x4 := hI.gn
  have x5 := hI.bn
  have x6 := hI.pn
  refine r_aldR cd_302_0 rfl rfl ?_
  refine r_ild cd_302_1 rfl rfl ?_
  refine r_con (v := 4) cd_302_2 rfl (by decide) ?_
  refine r_cI (c_300 hM hw hI x hx 4 (by omega)) cd_302_3 rfl rfl rfl (rc0 hM rfl) rfl rfl rfl ?_
  exact r_ret cd_302_6 True.intro (rfl)
theorem c_294 {h : aH} {s w : Nat → Int} (hM : h.2.2 226 = .inr (8, Mo s)) (hw : h.2.2 227 = .inl (0, 211, .inl w)) (hI : Inv0 w) (x : Int) (hx : inR x) : Ct 4 294 [aR 226, aI x] h (.inl (some (aI (if isBa w x = true then loadOf w x.toNat else 0))), sw h 226 (.inr (8, Mo (va_up s 15 (bz (!isBa w x)))))) := by
  refine Ct.of [aR 226, aI x] rfl ?_
  have hbn := hI.bNe
  have hpn := hI.pNe
  have x0 := hI.len
  have x1 := hI.hour
  have x2 := hI.gas
  have x3 := hI.leak
  have x4 := hI.gn
  have x5 := hI.bn
  have x6 := hI.pn
  refine r_aldR cd_294_0 rfl rfl ?_
  refine r_aldR cd_294_1 rfl rfl ?_
  refine r_ild cd_294_2 rfl rfl ?_
  refine r_cI (c_265 hM hw hI x hx) cd_294_3 rfl rfl rfl (rc0 hM rfl) rfl rfl rfl ?_
  refine r_if52b cd_294_6 rfl (fun n1 => ?_) (fun n1 => ?_)
  · refine r_con (v := 1) cd_294_9 rfl (by decide) ?_
    refine r_goto cd_294_10 ?_
    refine r_cI (c_250 hM true) cd_294_14 rfl rfl rfl (rc0 hM rfl) rfl rfl rfl ?_
    refine r_if51b cd_294_17 rfl (fun n2 => ?_) (fun n2 => ?_)
    · exact absurd n2 (by decide)
    · refine r_con (v := 0) cd_294_20 rfl (by decide) ?_
      refine r_goto cd_294_21 ?_
      exact r_ret cd_294_29 True.intro (by first | rfl | (simp [bz, n1]; done))
  · have e_x := isBa_iff.mp n1
    obtain ⟨qx, rfl⟩ : ∃ qx : Nat, x = (qx : Int) := ⟨x.toNat, by omega⟩
    refine r_con (v := 0) cd_294_13 rfl (by decide) ?_
    refine r_cI (c_250 hM false) cd_294_14 rfl rfl rfl (rc0 hM rfl) rfl rfl rfl ?_
    show RU _ _ _ (_, _, _, _, _, sw _ 226 (.inr (8, Mo (va_up s 15 0))))
    refine r_if51b cd_294_17 rfl (fun n3 => ?_) (fun n3 => ?_)
    · refine r_aldR cd_294_24 rfl rfl ?_
      refine r_ild cd_294_25 rfl rfl ?_
      refine r_cI (c_213 (sw_at _ _ _) ((sw_ne (by decide)).trans hw) hI qx (by omega)) cd_294_26 rfl rfl rfl (rc0 (sw_at _ _ _) rfl) rfl rfl rfl ?_
      exact r_ret cd_294_29 True.intro (by first | rfl | (simp [bz, n1]; done))
    · exact absurd n3 (by decide)
theorem c_295 {h : aH} {s w : Nat → Int} (hM : h.2.2 226 = .inr (8, Mo s)) (hw : h.2.2 227 = .inl (0, 211, .inl w)) (hI : Inv0 w) (x : Int) (hx : inR x) : Ct 6 295 [aR 226, aI x] h (.inl (some (aI (if isBa w x = true then hOf w x.toNat else 0))), sw h 226 (.inr (8, Mo (va_up s 15 (bz (!isBa w x)))))) := by
  refine Ct.of [aR 226, aI x] rfl ?_
  have hbn := hI.bNe
  have hpn := hI.pNe
  have x0 := hI.len
  have x1 := hI.hour
  have x2 := hI.gas
  have x3 := hI.leak
  have x4 := hI.gn
  have x5 := hI.bn
  have x6 := hI.pn
  refine r_aldR cd_295_0 rfl rfl ?_
  refine r_aldR cd_295_1 rfl rfl ?_
  refine r_ild cd_295_2 rfl rfl ?_
  refine r_cI (c_265 hM hw hI x hx) cd_295_3 rfl rfl rfl (rc0 hM rfl) rfl rfl rfl ?_
  refine r_if52b cd_295_6 rfl (fun n1 => ?_) (fun n1 => ?_)
  · refine r_con (v := 1) cd_295_9 rfl (by decide) ?_
    refine r_goto cd_295_10 ?_
    refine r_cI (c_250 hM true) cd_295_14 rfl rfl rfl (rc0 hM rfl) rfl rfl rfl ?_
    refine r_if51b cd_295_17 rfl (fun n2 => ?_) (fun n2 => ?_)
    · exact absurd n2 (by decide)
    · refine r_con (v := 0) cd_295_20 rfl (by decide) ?_
      refine r_goto cd_295_21 ?_
      exact r_ret cd_295_29 True.intro (by first | rfl | (simp [bz, n1]; done))
  · have e_x := isBa_iff.mp n1
    obtain ⟨qx, rfl⟩ : ∃ qx : Nat, x = (qx : Int) := ⟨x.toNat, by omega⟩
    refine r_con (v := 0) cd_295_13 rfl (by decide) ?_
    refine r_cI (c_250 hM false) cd_295_14 rfl rfl rfl (rc0 hM rfl) rfl rfl rfl ?_
    show RU _ _ _ (_, _, _, _, _, sw _ 226 (.inr (8, Mo (va_up s 15 0))))
    refine r_if51b cd_295_17 rfl (fun n3 => ?_) (fun n3 => ?_)
    · refine r_aldR cd_295_24 rfl rfl ?_
      refine r_ild cd_295_25 rfl rfl ?_
      refine r_cI (c_221 (sw_at _ _ _) ((sw_ne (by decide)).trans hw) hI qx (by omega)) cd_295_26 rfl rfl rfl (rc0 (sw_at _ _ _) rfl) rfl rfl rfl ?_
      exact r_ret cd_295_29 True.intro (by first | rfl | (simp [bz, n1]; done))
    · exact absurd n3 (by decide)
theorem c_303 {h : aH} {s w : Nat → Int} (hM : h.2.2 226 = .inr (8, Mo s)) (hw : h.2.2 227 = .inl (0, 211, .inl w)) (hI : Inv0 w) (x : Int) (hx : inR x) : Ct 3 303 [aR 226, aI x] h (.inl (some (aI (if isPa w x = true then (if pa w x.toNat 4 = 1 then pa w x.toNat 5 else -1) else 0))), sw h 226 (.inr (8, Mo (va_up s 15 (bz (!isPa w x)))))) := by
  refine Ct.of [aR 226, aI x] rfl ?_
  have hbn := hI.bNe
  have hpn := hI.pNe
  have x0 := hI.len
  have x1 := hI.hour
  have x2 := hI.gas
  have x3 := hI.leak
  have x4 := hI.gn
  have x5 := hI.bn
  have x6 := hI.pn
  refine r_aldR cd_303_0 rfl rfl ?_
  refine r_aldR cd_303_1 rfl rfl ?_
  refine r_ild cd_303_2 rfl rfl ?_
  refine r_cI (c_264 hM hw hI x hx) cd_303_3 rfl rfl rfl (rc0 hM rfl) rfl rfl rfl ?_
  refine r_if52b cd_303_6 rfl (fun n1 => ?_) (fun n1 => ?_)
  · refine r_con (v := 1) cd_303_9 rfl (by decide) ?_
    refine r_goto cd_303_10 ?_
    refine r_cI (c_250 hM true) cd_303_14 rfl rfl rfl (rc0 hM rfl) rfl rfl rfl ?_
    refine r_if51b cd_303_17 rfl (fun n2 => ?_) (fun n2 => ?_)
    · exact absurd n2 (by decide)
    · refine r_con (v := 0) cd_303_20 rfl (by decide) ?_
      refine r_goto cd_303_21 ?_
      exact r_ret cd_303_44 True.intro (by first | rfl | (simp [bz, n1]; done))
  · have e_x := isPa_iff.mp n1
    obtain ⟨qx, rfl⟩ : ∃ qx : Nat, x = (qx : Int) := ⟨x.toNat, by omega⟩
    refine r_con (v := 0) cd_303_13 rfl (by decide) ?_
    refine r_cI (c_250 hM false) cd_303_14 rfl rfl rfl (rc0 hM rfl) rfl rfl rfl ?_
    show RU _ _ _ (_, _, _, _, _, sw _ 226 (.inr (8, Mo (va_up s 15 0))))
    refine r_if51b cd_303_17 rfl (fun n3 => ?_) (fun n3 => ?_)
    · refine r_aldR cd_303_24 rfl rfl ?_
      refine r_ild cd_303_25 rfl rfl ?_
      refine r_con (v := 4) cd_303_26 rfl (by decide) ?_
      refine r_cI (c_203 (sw_at _ _ _) ((sw_ne (by decide)).trans hw) qx 4 (by omega)) cd_303_27 rfl rfl rfl (rc0 (sw_at _ _ _) rfl) rfl rfl rfl ?_
      refine r_con (v := 1) cd_303_30 rfl (by decide) ?_
      refine r_ic62 cd_303_31 rfl (hI.paR (by omega) (by omega)) ⟨by omega, by omega⟩ (fun n4 => ?_) (fun n4 => ?_)
      · refine r_aldR cd_303_34 rfl rfl ?_
        refine r_ild cd_303_35 rfl rfl ?_
        refine r_con (v := 5) cd_303_36 rfl (by decide) ?_
        refine r_cI (c_203 (sw_at _ _ _) ((sw_ne (by decide)).trans hw) qx 5 (by omega)) cd_303_37 rfl rfl rfl (rc0 (sw_at _ _ _) rfl) rfl rfl rfl ?_
        refine r_goto cd_303_40 ?_
        exact r_ret cd_303_44 True.intro (by first | rfl | (simp [bz, n1, n4]; done))
      · refine r_con (v := (-1)) cd_303_43 rfl (by decide) ?_
        exact r_ret cd_303_44 True.intro (by first | rfl | (simp [bz, n1, n4]; done))
    · exact absurd n3 (by decide)
theorem c_304 {h : aH} {s w : Nat → Int} (hM : h.2.2 226 = .inr (8, Mo s)) (hw : h.2.2 227 = .inl (0, 211, .inl w)) (hI : Inv0 w) (x : Int) (hx : inR x) : Ct 3 304 [aR 226, aI x] h (.inl (some (aI (if isPa w x = true then plOf w x.toNat else 0))), sw h 226 (.inr (8, Mo (va_up s 15 (bz (!isPa w x)))))) := by
  refine Ct.of [aR 226, aI x] rfl ?_
  have hbn := hI.bNe
  have hpn := hI.pNe
  have x0 := hI.len
  have x1 := hI.hour
  have x2 := hI.gas
  have x3 := hI.leak
  have x4 := hI.gn
  have x5 := hI.bn
  have x6 := hI.pn
  refine r_aldR cd_304_0 rfl rfl ?_
  refine r_aldR cd_304_1 rfl rfl ?_
  refine r_ild cd_304_2 rfl rfl ?_
  refine r_cI (c_264 hM hw hI x hx) cd_304_3 rfl rfl rfl (rc0 hM rfl) rfl rfl rfl ?_
  refine r_if52b cd_304_6 rfl (fun n1 => ?_) (fun n1 => ?_)
  · refine r_con (v := 1) cd_304_9 rfl (by decide) ?_
    refine r_goto cd_304_10 ?_
    refine r_cI (c_250 hM true) cd_304_14 rfl rfl rfl (rc0 hM rfl) rfl rfl rfl ?_
    refine r_if51b cd_304_17 rfl (fun n2 => ?_) (fun n2 => ?_)
    · exact absurd n2 (by decide)
    · refine r_con (v := 0) cd_304_20 rfl (by decide) ?_
      refine r_goto cd_304_21 ?_
      exact r_ret cd_304_29 True.intro (by first | rfl | (simp [bz, n1]; done))
  · have e_x := isPa_iff.mp n1
    obtain ⟨qx, rfl⟩ : ∃ qx : Nat, x = (qx : Int) := ⟨x.toNat, by omega⟩
    refine r_con (v := 0) cd_304_13 rfl (by decide) ?_
    refine r_cI (c_250 hM false) cd_304_14 rfl rfl rfl (rc0 hM rfl) rfl rfl rfl ?_
    show RU _ _ _ (_, _, _, _, _, sw _ 226 (.inr (8, Mo (va_up s 15 0))))
    refine r_if51b cd_304_17 rfl (fun n3 => ?_) (fun n3 => ?_)
    · refine r_aldR cd_304_24 rfl rfl ?_
      refine r_ild cd_304_25 rfl rfl ?_
      refine r_cI (c_305 (sw_at _ _ _) ((sw_ne (by decide)).trans hw) hI qx (by omega)) cd_304_26 rfl rfl rfl (rc0 (sw_at _ _ _) rfl) rfl rfl rfl ?_
      exact r_ret cd_304_29 True.intro (by first | rfl | (simp [bz, n1]; done))
    · exact absurd n3 (by decide)
theorem c_306 {h : aH} {s w : Nat → Int} (hM : h.2.2 226 = .inr (8, Mo s)) (hw : h.2.2 227 = .inl (0, 211, .inl w)) (hI : Inv0 w) (x : Int) (hx : inR x) : Ct 3 306 [aR 226, aI x] h (.inl (some (aI (if isPa w x = true then fareP w x.toNat else 0))), sw h 226 (.inr (8, Mo (va_up s 15 (bz (!isPa w x)))))) := by
  refine Ct.of [aR 226, aI x] rfl ?_
  have hbn := hI.bNe
  have hpn := hI.pNe
  have x0 := hI.len
  have x1 := hI.hour
  have x2 := hI.gas
  have x3 := hI.leak
  have x4 := hI.gn
  have x5 := hI.bn
  have x6 := hI.pn
  refine r_aldR cd_306_0 rfl rfl ?_
  refine r_aldR cd_306_1 rfl rfl ?_
  refine r_ild cd_306_2 rfl rfl ?_
  refine r_cI (c_264 hM hw hI x hx) cd_306_3 rfl rfl rfl (rc0 hM rfl) rfl rfl rfl ?_
  refine r_if52b cd_306_6 rfl (fun n1 => ?_) (fun n1 => ?_)
  · refine r_con (v := 1) cd_306_9 rfl (by decide) ?_
    refine r_goto cd_306_10 ?_
    refine r_cI (c_250 hM true) cd_306_14 rfl rfl rfl (rc0 hM rfl) rfl rfl rfl ?_
    refine r_if51b cd_306_17 rfl (fun n2 => ?_) (fun n2 => ?_)
    · exact absurd n2 (by decide)
    · refine r_con (v := 0) cd_306_20 rfl (by decide) ?_
      refine r_goto cd_306_21 ?_
      exact r_ret cd_306_29 True.intro (by first | rfl | (simp [bz, n1]; done))
  · have e_x := isPa_iff.mp n1
    obtain ⟨qx, rfl⟩ : ∃ qx : Nat, x = (qx : Int) := ⟨x.toNat, by omega⟩
    refine r_con (v := 0) cd_306_13 rfl (by decide) ?_
    refine r_cI (c_250 hM false) cd_306_14 rfl rfl rfl (rc0 hM rfl) rfl rfl rfl ?_
    show RU _ _ _ (_, _, _, _, _, sw _ 226 (.inr (8, Mo (va_up s 15 0))))
    refine r_if51b cd_306_17 rfl (fun n3 => ?_) (fun n3 => ?_)
    · refine r_aldR cd_306_24 rfl rfl ?_
      refine r_ild cd_306_25 rfl rfl ?_
      refine r_cI (c_238 (sw_at _ _ _) ((sw_ne (by decide)).trans hw) hI qx (by omega)) cd_306_26 rfl rfl rfl (rc0 (sw_at _ _ _) rfl) rfl rfl rfl ?_
      exact r_ret cd_306_29 True.intro (by first | rfl | (simp [bz, n1]; done))
    · exact absurd n3 (by decide)
theorem c_307 {h : aH} {s w : Nat → Int} (hM : h.2.2 226 = .inr (8, Mo s)) (hw : h.2.2 227 = .inl (0, 211, .inl w)) (hI : Inv0 w) (x : Int) (hx : inR x) : Ct 3 307 [aR 226, aI x] h (.inl (some (aI (numbd w x))), sw h 226 (.inr (8, Mo (va_up s 15 (0))))) := by
  refine Ct.of [aR 226, aI x] rfl ?_
  have hbn := hI.bNe
  have hpn := hI.pNe
  have x0 := hI.len
  have x1 := hI.hour
  have x2 := hI.gas
  have x3 := hI.leak
  have x4 := hI.gn
  have x5 := hI.bn
  have x6 := hI.pn
  refine r_aldR cd_307_0 rfl rfl ?_
  refine r_con (v := 0) cd_307_1 rfl (by decide) ?_
  refine r_put (fs' := Mo (va_up s 15 0)) cd_307_2 rfl hM rfl rfl ?_
  refine r_aldR cd_307_5 rfl rfl ?_
  refine r_ild cd_307_6 rfl rfl ?_
  refine r_cI (c_202 (sw_at _ _ _) ((sw_ne (by decide)).trans hw) hI x hx) cd_307_7 rfl rfl rfl (rc0 (sw_at _ _ _) rfl) rfl rfl rfl ?_
  exact r_ret cd_307_10 True.intro (rfl)
theorem c_309 {h : aH} {s w : Nat → Int} (hM : h.2.2 226 = .inr (8, Mo s)) (hw : h.2.2 227 = .inl (0, 211, .inl w)) (hI : Inv0 w) (x : Int) (hx : inR x) : Ct 7 309 [aR 226, aI x] h (.inl (some (aI (if isBa w x = true then whyL w x.toNat else 0))), sw h 226 (.inr (8, Mo (va_up s 15 (bz (!isBa w x)))))) := by
  refine Ct.of [aR 226, aI x] rfl ?_
  have hbn := hI.bNe
  have hpn := hI.pNe
  have x0 := hI.len
  have x1 := hI.hour
  have x2 := hI.gas
  have x3 := hI.leak
  have x4 := hI.gn
  have x5 := hI.bn
  have x6 := hI.pn
  refine r_aldR cd_309_0 rfl rfl ?_
  refine r_aldR cd_309_1 rfl rfl ?_
  refine r_ild cd_309_2 rfl rfl ?_
  refine r_cI (c_265 hM hw hI x hx) cd_309_3 rfl rfl rfl (rc0 hM rfl) rfl rfl rfl ?_
  refine r_if52b cd_309_6 rfl (fun n1 => ?_) (fun n1 => ?_)
  · refine r_con (v := 1) cd_309_9 rfl (by decide) ?_
    refine r_goto cd_309_10 ?_
    refine r_cI (c_250 hM true) cd_309_14 rfl rfl rfl (rc0 hM rfl) rfl rfl rfl ?_
    refine r_if51b cd_309_17 rfl (fun n2 => ?_) (fun n2 => ?_)
    · exact absurd n2 (by decide)
    · refine r_con (v := 0) cd_309_20 rfl (by decide) ?_
      refine r_goto cd_309_21 ?_
      exact r_ret cd_309_29 True.intro (by first | rfl | (simp [bz, n1]; done))
  · have e_x := isBa_iff.mp n1
    obtain ⟨qx, rfl⟩ : ∃ qx : Nat, x = (qx : Int) := ⟨x.toNat, by omega⟩
    refine r_con (v := 0) cd_309_13 rfl (by decide) ?_
    refine r_cI (c_250 hM false) cd_309_14 rfl rfl rfl (rc0 hM rfl) rfl rfl rfl ?_
    show RU _ _ _ (_, _, _, _, _, sw _ 226 (.inr (8, Mo (va_up s 15 0))))
    refine r_if51b cd_309_17 rfl (fun n3 => ?_) (fun n3 => ?_)
    · refine r_aldR cd_309_24 rfl rfl ?_
      refine r_ild cd_309_25 rfl rfl ?_
      refine r_cI (c_220 (sw_at _ _ _) ((sw_ne (by decide)).trans hw) hI qx (by omega)) cd_309_26 rfl rfl rfl (rc0 (sw_at _ _ _) rfl) rfl rfl rfl ?_
      exact r_ret cd_309_29 True.intro (by first | rfl | (simp [bz, n1]; done))
    · exact absurd n3 (by decide)
theorem c_308 {h : aH} {s w : Nat → Int} (hM : h.2.2 226 = .inr (8, Mo s)) (hw : h.2.2 227 = .inl (0, 211, .inl w)) (hI : Inv0 w) (x : Int) (hx : inR x) (z : Int) (hz : inR z) : Ct 6 308 [aR 226, aI x, aI z] h (.inl (some (aI (if (isPa w x && isBa w z) = true then whyT w x.toNat z.toNat else 0))), sw h 226 (.inr (8, Mo (va_up s 15 (bz (!(isPa w x && isBa w z))))))) := by
  refine Ct.of [aR 226, aI x, aI z] rfl ?_
  have hbn := hI.bNe
  have hpn := hI.pNe
  have x0 := hI.len
  have x1 := hI.hour
  have x2 := hI.gas
  have x3 := hI.leak
  have x4 := hI.gn
  have x5 := hI.bn
  have x6 := hI.pn
  refine r_aldR cd_308_0 rfl rfl ?_
  refine r_aldR cd_308_1 rfl rfl ?_
  refine r_ild cd_308_2 rfl rfl ?_
  refine r_cI (c_264 hM hw hI x hx) cd_308_3 rfl rfl rfl (rc0 hM rfl) rfl rfl rfl ?_
  refine r_if51b cd_308_6 rfl (fun n1 => ?_) (fun n1 => ?_)
  · refine r_con (v := 1) cd_308_17 rfl (by decide) ?_
    refine r_goto cd_308_18 ?_
    refine r_cI (c_250 hM true) cd_308_22 rfl rfl rfl (rc0 hM rfl) rfl rfl rfl ?_
    refine r_if51b cd_308_25 rfl (fun n2 => ?_) (fun n2 => ?_)
    · exact absurd n2 (by decide)
    · refine r_con (v := 0) cd_308_28 rfl (by decide) ?_
      refine r_goto cd_308_29 ?_
      exact r_ret cd_308_38 True.intro (by first | rfl | (simp [bz, n1]; done))
  · have e_x := isPa_iff.mp n1
    obtain ⟨qx, rfl⟩ : ∃ qx : Nat, x = (qx : Int) := ⟨x.toNat, by omega⟩
    refine r_aldR cd_308_9 rfl rfl ?_
    refine r_ild cd_308_10 rfl rfl ?_
    refine r_cI (c_265 hM hw hI z hz) cd_308_11 rfl rfl rfl (rc0 hM rfl) rfl rfl rfl ?_
    refine r_if52b cd_308_14 rfl (fun n3 => ?_) (fun n3 => ?_)
    · refine r_con (v := 1) cd_308_17 rfl (by decide) ?_
      refine r_goto cd_308_18 ?_
      refine r_cI (c_250 hM true) cd_308_22 rfl rfl rfl (rc0 hM rfl) rfl rfl rfl ?_
      refine r_if51b cd_308_25 rfl (fun n4 => ?_) (fun n4 => ?_)
      · exact absurd n4 (by decide)
      · refine r_con (v := 0) cd_308_28 rfl (by decide) ?_
        refine r_goto cd_308_29 ?_
        exact r_ret cd_308_38 True.intro (by first | rfl | (simp [bz, n1, n3]; done))
    · have e_z := isBa_iff.mp n3
      obtain ⟨qz, rfl⟩ : ∃ qz : Nat, z = (qz : Int) := ⟨z.toNat, by omega⟩
      refine r_con (v := 0) cd_308_21 rfl (by decide) ?_
      refine r_cI (c_250 hM false) cd_308_22 rfl rfl rfl (rc0 hM rfl) rfl rfl rfl ?_
      show RU _ _ _ (_, _, _, _, _, sw _ 226 (.inr (8, Mo (va_up s 15 0))))
      refine r_if51b cd_308_25 rfl (fun n5 => ?_) (fun n5 => ?_)
      · refine r_aldR cd_308_32 rfl rfl ?_
        refine r_ild cd_308_33 rfl rfl ?_
        refine r_ild cd_308_34 rfl rfl ?_
        refine r_cI (c_208 (sw_at _ _ _) ((sw_ne (by decide)).trans hw) hI qx qz (by omega) (by omega)) cd_308_35 rfl rfl rfl (rc0 (sw_at _ _ _) rfl) rfl rfl rfl ?_
        exact r_ret cd_308_38 True.intro (by first | rfl | (simp [bz, n1, n3]; done))
      · exact absurd n5 (by decide)
theorem c_310 {h : aH} {s w : Nat → Int} (hM : h.2.2 226 = .inr (8, Mo s)) (hw : h.2.2 227 = .inl (0, 211, .inl w)) (hI : Inv0 w) (x : Int) (hx : inR x) : Ct 5 310 [aR 226, aI x] h (.inl (some (aI (if isBa w x = true then heav w x.toNat else 0))), sw h 226 (.inr (8, Mo (va_up s 15 (bz (!isBa w x)))))) := by
  refine Ct.of [aR 226, aI x] rfl ?_
  have hbn := hI.bNe
  have hpn := hI.pNe
  have x0 := hI.len
  have x1 := hI.hour
  have x2 := hI.gas
  have x3 := hI.leak
  have x4 := hI.gn
  have x5 := hI.bn
  have x6 := hI.pn
  refine r_aldR cd_310_0 rfl rfl ?_
  refine r_aldR cd_310_1 rfl rfl ?_
  refine r_ild cd_310_2 rfl rfl ?_
  refine r_cI (c_265 hM hw hI x hx) cd_310_3 rfl rfl rfl (rc0 hM rfl) rfl rfl rfl ?_
  refine r_if52b cd_310_6 rfl (fun n1 => ?_) (fun n1 => ?_)
  · refine r_con (v := 1) cd_310_9 rfl (by decide) ?_
    refine r_goto cd_310_10 ?_
    refine r_cI (c_250 hM true) cd_310_14 rfl rfl rfl (rc0 hM rfl) rfl rfl rfl ?_
    refine r_if52b cd_310_17 rfl (fun n2 => ?_) (fun n2 => ?_)
    · exact absurd n2 (by decide)
    · refine r_con (v := 0) cd_310_29 rfl (by decide) ?_
      exact r_ret cd_310_30 True.intro (by first | rfl | (simp [heav, bz, n1]; done))
  · have e_x := isBa_iff.mp n1
    obtain ⟨qx, rfl⟩ : ∃ qx : Nat, x = (qx : Int) := ⟨x.toNat, by omega⟩
    refine r_con (v := 0) cd_310_13 rfl (by decide) ?_
    refine r_cI (c_250 hM false) cd_310_14 rfl rfl rfl (rc0 hM rfl) rfl rfl rfl ?_
    show RU _ _ _ (_, _, _, _, _, sw _ 226 (.inr (8, Mo (va_up s 15 0))))
    refine r_if52b cd_310_17 rfl (fun n3 => ?_) (fun n3 => ?_)
    · refine r_aldR cd_310_20 rfl rfl ?_
      refine r_ild cd_310_21 rfl rfl ?_
      refine r_cI (c_210 (sw_at _ _ _) ((sw_ne (by decide)).trans hw) hI qx (by omega)) cd_310_22 rfl rfl rfl (rc0 (sw_at _ _ _) rfl) rfl rfl rfl ?_
      refine r_con (v := 4) cd_310_25 rfl (by decide) ?_
      refine r_ic62 cd_310_26 rfl (inR_of (hI.knot qx) (by decide) (by decide)) ⟨by omega, by omega⟩ (fun n4 => ?_) (fun n4 => ?_)
      · refine r_con (v := 0) cd_310_29 rfl (by decide) ?_
        exact r_ret cd_310_30 True.intro (by first | rfl | (simp [heav, bz, n1, n4]; done))
      · refine r_con (v := 0) cd_310_31 rfl (by decide) ?_
        refine r_con (v := 9) cd_310_32 rfl (by decide) ?_
        refine r_aldR cd_310_34 rfl rfl ?_
        refine r_ild cd_310_35 rfl rfl ?_
        refine r_cI (c_212 (sw_at _ _ _) ((sw_ne (by decide)).trans hw) hI qx (by omega)) cd_310_36 rfl rfl rfl (rc0 (sw_at _ _ _) rfl) rfl rfl rfl ?_
        refine r_con (v := 1) cd_310_39 rfl (by decide) ?_
        refine r_sub (v := (spare w qx) - 1) cd_310_40 rfl (by rfl) ?_
        refine r_cI (c_373 9 ⟨by omega, by omega⟩ ((spare w qx) - 1) ⟨by have := hI.spr (b := qx) (by omega); omega, by have := hI.spr (b := qx) (by omega); omega⟩) cd_310_41 rfl rfl rfl True.intro rfl rfl rfl ?_
        refine r_cI (c_376 0 ⟨by omega, by omega⟩ (minI 9 ((spare w qx) - 1)) ⟨by have := hI.spr (b := qx) (by omega); unfold minI; split <;> omega, by have := hI.spr (b := qx) (by omega); unfold minI; split <;> omega⟩) cd_310_44 rfl rfl rfl True.intro rfl rfl rfl ?_
        exact r_ret cd_310_47 True.intro (by first | rfl | (simp [heav, bz, n1, n4]; done))
    · exact absurd n3 (by decide)
