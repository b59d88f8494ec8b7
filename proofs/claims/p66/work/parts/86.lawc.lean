/-! THE LAW: its check of a World (written by wip/p66/gen86.py) -/
theorem carr_0 {w : Nat → Int} (hI : Inv0 w) {p : Nat} (hp : p < nP w) : carr w p = -1 ↔ ¬ pa w p 4 = 1 := by
  have h := (hI.ps p hp).2.2.2.2
  unfold carr
  split <;> omega
theorem pl_c {w : Nat → Int} {p : Nat} (h : pa w p 4 = 2) : plOf w p = -1 := by
  unfold plOf
  rw [if_neg (by omega), if_neg (by omega)]
theorem pl_n {w : Nat → Int} (hI : Inv0 w) {p : Nat} (hp : p < nP w) (h : ¬ pa w p 4 = 2) : ¬ plOf w p = -1 := by
  have h1 := (hI.ps p hp).2.2.2.2
  have h2 := hI.bNe
  unfold plOf
  split
  · omega
  · rw [if_pos (by omega)]
    have := (hI.bs (pa w p 5).toNat (by omega)).1
    omega
theorem pl_t {w : Nat → Int} {p b : Nat} (h : tied w p b = true) : plOf w p = bo w b 0 := by
  obtain ⟨h1, h2⟩ := tied_iff.mp h
  unfold plOf
  rw [if_neg (by omega), if_pos h1, h2, Int.toNat_natCast]
theorem bz_if (t : Bool) : (if t = true then (1 : Int) else 0) = bz t := by cases t <;> rfl
/-- parcels of the balloons before b; of all balloons and the places before q; all that are not claimed -/
def fB (w : Nat → Int) (b p : Nat) : Bool := decide (pa w p 4 = 1) && decide (pa w p 5 < ((b : Nat) : Int))
def fQ (w : Nat → Int) (q p : Nat) : Bool := decide (pa w p 4 = 1) || (decide (pa w p 4 = 0) && decide (pa w p 5 < ((q : Nat) : Int)))
def fA (w : Nat → Int) (p : Nat) : Bool := !(decide (pa w p 4 = 2))
theorem Ms.cg {m n : Nat} {f g : Nat → Bool} (h : Ms m f n) (e : ∀ p, p < n → g p = f p) : Ms m g n := ⟨h.1, fun p => by
  rw [h.2]
  by_cases hp : p < n
  · rw [e p hp]
  · rw [decide_eq_false hp]; rfl⟩
theorem lt_suc {x : Int} {b : Nat} : decide (x < ((b + 1 : Nat) : Int)) = (decide (x < ((b : Nat) : Int)) || decide (x = ((b : Nat) : Int))) := by
  by_cases h4 : x = ((b : Nat) : Int)
  · rw [decide_eq_true h4, decide_eq_true (show x < ((b + 1 : Nat) : Int) by omega), Bool.or_true]
  · by_cases h2 : x < ((b : Nat) : Int)
    · rw [decide_eq_true h2, decide_eq_true (show x < ((b + 1 : Nat) : Int) by omega), Bool.true_or]
    · rw [decide_eq_false h2, decide_eq_false h4, decide_eq_false (show ¬ x < ((b + 1 : Nat) : Int) by omega), Bool.false_or]
theorem fB_s {w : Nat → Int} {b p : Nat} : fB w (b + 1) p = (fB w b p || tied w p b) := by
  unfold fB tied
  rw [lt_suc]
  cases decide (pa w p 4 = 1) <;> simp
theorem fB_d {w : Nat → Int} {b p : Nat} (h : fB w b p = true) : tied w p b = false := by
  unfold fB at h
  rw [Bool.and_eq_true, decide_eq_true_eq, decide_eq_true_eq] at h
  exact untied_iff.mpr (by omega)
theorem fQ_s {w : Nat → Int} {q p : Nat} : fQ w (q + 1) p = (fQ w q p || lies w p ((q : Nat) : Int)) := by
  unfold fQ lies
  rw [lt_suc]
  cases decide (pa w p 4 = 1) <;> cases decide (pa w p 4 = 0) <;> simp
theorem fQ_d {w : Nat → Int} {q p : Nat} (h : fQ w q p = true) : lies w p ((q : Nat) : Int) = false := by
  unfold fQ at h
  unfold lies
  by_cases h1 : pa w p 4 = 1
  · simp [h1]
  · by_cases h0 : pa w p 4 = 0
    · rw [Bool.or_eq_true, Bool.and_eq_true, decide_eq_true_eq, decide_eq_true_eq, decide_eq_true_eq] at h
      have h4 : ¬ pa w p 5 = ((q : Nat) : Int) := by omega
      simp [h4]
    · simp [h0]
theorem fBQ {w : Nat → Int} (hI : Inv0 w) {p : Nat} (hp : p < nP w) : fQ w 0 p = fB w (nB w) p := by
  have h := (hI.ps p hp).2.2.2.2
  have hb := hI.bNe
  unfold fQ fB
  by_cases h1 : pa w p 4 = 1
  · have h2 : pa w p 5 < ((nB w : Nat) : Int) := by omega
    simp [h1, h2]
  · by_cases h0 : pa w p 4 = 0
    · have h2 : ¬ pa w p 5 < ((0 : Nat) : Int) := by omega
      simp [h0, h2]
      omega
    · simp [h1, h0]
theorem fQA {w : Nat → Int} (hI : Inv0 w) {p : Nat} (hp : p < nP w) : fA w p = fQ w (w 0).toNat p := by
  have h := (hI.ps p hp).2.2.2.2
  have hl := hI.len
  unfold fQ fA
  by_cases h1 : pa w p 4 = 1
  · simp [h1]
  · by_cases h0 : pa w p 4 = 0
    · have h2 : pa w p 5 < (((w 0).toNat : Nat) : Int) := by omega
      rw [decide_eq_true h2, decide_eq_true h0, decide_eq_false h1, decide_eq_false (show ¬ pa w p 4 = 2 by omega)]
      rfl
    · have h2 : pa w p 4 = 2 := by omega
      simp [h2]
section HOLDS
variable {h : aH} {w : Nat → Int} {ps : List (Nat → Int)} {kp : Option (Nat → Int)} {T : Nat} {bu : Nat → Int} {ek eo : Int} {rl : Nat} {rp : Nat → Int} {k : Nat}
theorem q_153 (C : CR h w ps kp T bu ek eo rl rp) (hI : Inv0 w) (x : Nat) (hx : ((x : Nat) : Int) < w 0) : Ct 3 153 [aR 0, aI ((x : Nat) : Int)] h (.inl (some (aI ((valN (fun p => lies w p (((x : Nat)) : Int)) (nP w) : Nat) : Int))), h) := (x_153 C hI ((x : Nat) : Int) ⟨by have := hI.len; omega, by have := hI.len; omega⟩ (isPl_iff.mpr ⟨by omega, by omega⟩)).eq (by rw [set_val hI.pNe.2])
theorem q_160 (C : CR h w ps kp T bu ek eo rl rp) (hI : Inv0 w) (b : Nat) (hb : b < nB w) : Ct 3 160 [aR 0, aI ((b : Nat) : Int)] h (.inl (some (aI ((valN (fun p => tied w p b) (nP w) : Nat) : Int))), h) := (x_160 C hI b (isBa_iff.mpr ⟨by omega, by have := hI.bNe; omega⟩)).eq (by rw [set_val hI.pNe.2])
theorem l4_333 (C : CR h w ps kp T bu ek eo rl rp) (hI : Inv0 w) (sm : Nat) (hs : Ms sm (fA w) (nP w)) (u5 u6 : aV) : ∀ (m i : Nat) (u4 : aV), i + m = nP w → RU 5 333 (.inl (some (aI 1)), h) (323, [aR 0, aI ((sm : Nat) : Int), aI (setF (flyF w) (nB w)), aI ((i : Nat) : Int), u4, u5, u6], [], 0, 0, h) := by
  have hbn := hI.bNe
  have hpn := hI.pNe
  have x0 := hI.len
  have x1 := hI.hour
  have x2 := hI.gas
  have x5 := hI.bn
  have x6 := hI.pn
  obtain ⟨h0, -⟩ := id C
  intro m
  induction m with
  | zero =>
    intro i u4 hm
    refine r_ild cd_333_323 rfl rfl ?_
    refine r_aldR cd_333_324 rfl rfl ?_
    refine r_cI (x_118 C hI) cd_333_325 rfl rfl rfl (rc0 h0 rfl) rfl rfl rfl ?_
    refine r_ic64 cd_333_328 rfl ⟨by omega, by omega⟩ (inR_of hI.pn (by decide) (by decide)) (fun n1 => ?_) (fun n1 => ?_)
    · exact absurd n1 (by omega)
    · refine r_aldR cd_333_423 rfl rfl ?_
      refine r_cI (x_119 C hI) cd_333_424 rfl rfl rfl (rc0 h0 rfl) rfl rfl rfl ?_
      refine r_ild cd_333_427 rfl rfl ?_
      refine r_ic62e cd_333_428 rfl (rfl) ?_
      refine r_con (v := 1) cd_333_431 rfl (by decide) ?_
      refine r_goto cd_333_432 ?_
      exact r_ret cd_333_436 (Or.inr rfl) (rfl)
  | succ m ih =>
    intro i u4 hm
    refine r_ild cd_333_323 rfl rfl ?_
    refine r_aldR cd_333_324 rfl rfl ?_
    refine r_cI (x_118 C hI) cd_333_325 rfl rfl rfl (rc0 h0 rfl) rfl rfl rfl ?_
    refine r_ic64 cd_333_328 rfl ⟨by omega, by omega⟩ (inR_of hI.pn (by decide) (by decide)) (fun n1 => ?_) (fun n1 => ?_)
    · refine r_aldR cd_333_331 rfl rfl ?_
      refine r_ild cd_333_332 rfl rfl ?_
      refine r_cI (x_163 C hI i (isPa_iff.mpr ⟨by omega, by omega⟩)) cd_333_333 rfl rfl rfl (rc0 h0 rfl) rfl rfl rfl ?_
      refine r_con (v := 2) cd_333_336 rfl (by decide) ?_
      refine r_ic62 cd_333_337 rfl (hI.paR (p := i) (k := 4) (by omega) (by decide)) ⟨by omega, by omega⟩ (fun n2 => ?_) (fun n2 => ?_)
      · refine r_con (v := 1) cd_333_340 rfl (by decide) ?_
        refine r_goto cd_333_341 ?_
        refine r_ist cd_333_345 rfl rfl (L' := [aR 0, aI ((sm : Nat) : Int), aI (setF (flyF w) (nB w)), aI ((i : Nat) : Int), aI 1, u5, u6]) rfl ?_
        refine r_ild cd_333_347 rfl rfl ?_
        refine r_ild cd_333_348 rfl rfl ?_
        refine r_shr cd_333_349 rfl ?_
        refine r_con (v := 1) cd_333_350 rfl (by decide) ?_
        refine r_and cd_333_351 rfl ?_
        rw [show andI (shrI ((sm : Nat) : Int) ((i : Nat) : Int)) 1 = 0 from by rw [hs.at (by omega) hpn.2]; exact if_neg (by simp [fA, n2])]
        refine r_if52 cd_333_352 rfl ⟨by omega, by omega⟩ (fun n3 => ?_) (fun n3 => ?_)
        · refine r_con (v := 1) cd_333_355 rfl (by decide) ?_
          refine r_goto cd_333_356 ?_
          refine r_ild cd_333_360 rfl rfl ?_
          refine r_ic62e cd_333_362 rfl (rfl) ?_
          refine r_aldR cd_333_365 rfl rfl ?_
          refine r_ild cd_333_366 rfl rfl ?_
          refine r_cI (x_165 C hI i (isPa_iff.mpr ⟨by omega, by omega⟩)) cd_333_367 rfl rfl rfl (rc0 h0 rfl) rfl rfl rfl ?_
          refine r_con (v := (-1)) cd_333_370 rfl (by decide) ?_
          refine r_ic62e cd_333_371 rfl (pl_c n2) ?_
          refine r_con (v := 1) cd_333_374 rfl (by decide) ?_
          refine r_goto cd_333_375 ?_
          refine r_ild cd_333_379 rfl rfl ?_
          refine r_ic62e cd_333_381 rfl (rfl) ?_
          refine r_aldR cd_333_384 rfl rfl ?_
          refine r_ild cd_333_385 rfl rfl ?_
          refine r_cI (x_164 C hI i (isPa_iff.mpr ⟨by omega, by omega⟩)) cd_333_386 rfl rfl rfl (rc0 h0 rfl) rfl rfl rfl ?_
          refine r_con (v := (-1)) cd_333_389 rfl (by decide) ?_
          refine r_ic61e cd_333_390 rfl ((carr_0 hI (by omega)).mpr (by omega)) ?_
          refine r_con (v := 0) cd_333_397 rfl (by decide) ?_
          refine r_aldR cd_333_398 rfl rfl ?_
          refine r_ild cd_333_399 rfl rfl ?_
          refine r_cI (x_163 C hI i (isPa_iff.mpr ⟨by omega, by omega⟩)) cd_333_400 rfl rfl rfl (rc0 h0 rfl) rfl rfl rfl ?_
          refine r_con (v := 1) cd_333_403 rfl (by decide) ?_
          refine r_ic62 cd_333_404 rfl (hI.paR (p := i) (k := 4) (by omega) (by decide)) ⟨by omega, by omega⟩ (fun n8 => ?_) (fun n8 => ?_)
          · exact absurd n8 (by omega)
          · refine r_con (v := 0) cd_333_411 rfl (by decide) ?_
            refine r_ic61e cd_333_412 rfl (rfl) ?_
            refine r_inc (v := ((i + 1 : Nat) : Int)) cd_333_417 rfl rfl rfl (by omega) (L' := [aR 0, aI ((sm : Nat) : Int), aI (setF (flyF w) (nB w)), aI ((i + 1 : Nat) : Int), aI 1, u5, u6]) rfl ?_
            refine r_goto cd_333_420 ?_
            exact ih (i + 1) _ (by omega)
        · exact absurd n3 (by decide)
      · refine r_con (v := 0) cd_333_344 rfl (by decide) ?_
        refine r_ist cd_333_345 rfl rfl (L' := [aR 0, aI ((sm : Nat) : Int), aI (setF (flyF w) (nB w)), aI ((i : Nat) : Int), aI 0, u5, u6]) rfl ?_
        refine r_ild cd_333_347 rfl rfl ?_
        refine r_ild cd_333_348 rfl rfl ?_
        refine r_shr cd_333_349 rfl ?_
        refine r_con (v := 1) cd_333_350 rfl (by decide) ?_
        refine r_and cd_333_351 rfl ?_
        rw [show andI (shrI ((sm : Nat) : Int) ((i : Nat) : Int)) 1 = 1 from by rw [hs.at (by omega) hpn.2]; exact if_pos (by simp [fA, n2])]
        refine r_if52 cd_333_352 rfl ⟨by omega, by omega⟩ (fun n10 => ?_) (fun n10 => ?_)
        · exact absurd n10 (by decide)
        · refine r_con (v := 0) cd_333_359 rfl (by decide) ?_
          refine r_ild cd_333_360 rfl rfl ?_
          refine r_ic62e cd_333_362 rfl (rfl) ?_
          refine r_aldR cd_333_365 rfl rfl ?_
          refine r_ild cd_333_366 rfl rfl ?_
          refine r_cI (x_165 C hI i (isPa_iff.mpr ⟨by omega, by omega⟩)) cd_333_367 rfl rfl rfl (rc0 h0 rfl) rfl rfl rfl ?_
          refine r_con (v := (-1)) cd_333_370 rfl (by decide) ?_
          refine r_ic62 cd_333_371 rfl (plOf_R hI (p := i) (by omega)) ⟨by omega, by omega⟩ (fun n12 => ?_) (fun n12 => ?_)
          · exact absurd n12 (pl_n hI (by omega) n2)
          · refine r_con (v := 0) cd_333_378 rfl (by decide) ?_
            refine r_ild cd_333_379 rfl rfl ?_
            refine r_ic62e cd_333_381 rfl (rfl) ?_
            refine r_aldR cd_333_384 rfl rfl ?_
            refine r_ild cd_333_385 rfl rfl ?_
            refine r_cI (x_164 C hI i (isPa_iff.mpr ⟨by omega, by omega⟩)) cd_333_386 rfl rfl rfl (rc0 h0 rfl) rfl rfl rfl ?_
            refine r_con (v := (-1)) cd_333_389 rfl (by decide) ?_
            refine r_ic61 cd_333_390 rfl (hI.caR (p := i) (by omega)) ⟨by omega, by omega⟩ (fun n14 => ?_) (fun n14 => ?_)
            · refine r_con (v := 0) cd_333_397 rfl (by decide) ?_
              refine r_aldR cd_333_398 rfl rfl ?_
              refine r_ild cd_333_399 rfl rfl ?_
              refine r_cI (x_163 C hI i (isPa_iff.mpr ⟨by omega, by omega⟩)) cd_333_400 rfl rfl rfl (rc0 h0 rfl) rfl rfl rfl ?_
              refine r_con (v := 1) cd_333_403 rfl (by decide) ?_
              refine r_ic62 cd_333_404 rfl (hI.paR (p := i) (k := 4) (by omega) (by decide)) ⟨by omega, by omega⟩ (fun n15 => ?_) (fun n15 => ?_)
              · exact absurd n15 ((carr_0 hI (by omega)).mp n14)
              · refine r_con (v := 0) cd_333_411 rfl (by decide) ?_
                refine r_ic61e cd_333_412 rfl (rfl) ?_
                refine r_inc (v := ((i + 1 : Nat) : Int)) cd_333_417 rfl rfl rfl (by omega) (L' := [aR 0, aI ((sm : Nat) : Int), aI (setF (flyF w) (nB w)), aI ((i + 1 : Nat) : Int), aI 0, u5, u6]) rfl ?_
                refine r_goto cd_333_420 ?_
                exact ih (i + 1) _ (by omega)
            · refine r_con (v := 1) cd_333_393 rfl (by decide) ?_
              refine r_goto cd_333_394 ?_
              refine r_aldR cd_333_398 rfl rfl ?_
              refine r_ild cd_333_399 rfl rfl ?_
              refine r_cI (x_163 C hI i (isPa_iff.mpr ⟨by omega, by omega⟩)) cd_333_400 rfl rfl rfl (rc0 h0 rfl) rfl rfl rfl ?_
              refine r_con (v := 1) cd_333_403 rfl (by decide) ?_
              refine r_ic62 cd_333_404 rfl (hI.paR (p := i) (k := 4) (by omega) (by decide)) ⟨by omega, by omega⟩ (fun n17 => ?_) (fun n17 => ?_)
              · refine r_con (v := 1) cd_333_407 rfl (by decide) ?_
                refine r_goto cd_333_408 ?_
                refine r_ic61e cd_333_412 rfl (rfl) ?_
                refine r_inc (v := ((i + 1 : Nat) : Int)) cd_333_417 rfl rfl rfl (by omega) (L' := [aR 0, aI ((sm : Nat) : Int), aI (setF (flyF w) (nB w)), aI ((i + 1 : Nat) : Int), aI 0, u5, u6]) rfl ?_
                refine r_goto cd_333_420 ?_
                exact ih (i + 1) _ (by omega)
              · exact absurd ((carr_0 hI (by omega)).mpr n17) n14
    · exact absurd n1 (by omega)
theorem l3_333 (C : CR h w ps kp T bu ek eo rl rp) (hI : Inv0 w) (u4 u5 u6 : aV) : ∀ (m i sm : Nat), i + m = (w 0).toNat → Ms sm (fQ w i) (nP w) → RU 5 333 (.inl (some (aI 1)), h) (287, [aR 0, aI ((sm : Nat) : Int), aI (setF (flyF w) (nB w)), aI ((i : Nat) : Int), u4, u5, u6], [], 0, 0, h) := by
  have hbn := hI.bNe
  have hpn := hI.pNe
  have x0 := hI.len
  have x1 := hI.hour
  have x2 := hI.gas
  have x5 := hI.bn
  have x6 := hI.pn
  obtain ⟨h0, -⟩ := id C
  intro m
  induction m with
  | zero =>
    intro i sm hm hs
    have hA : Ms sm (fA w) (nP w) := hs.cg fun p hp => by rw [fQA hI hp, show i = (w 0).toNat by omega]
    refine r_ild cd_333_287 rfl rfl ?_
    refine r_aldR cd_333_288 rfl rfl ?_
    refine r_cI (x_114 C hI) cd_333_289 rfl rfl rfl (rc0 h0 rfl) rfl rfl rfl ?_
    refine r_ic64 cd_333_292 rfl ⟨by omega, by omega⟩ (inR_of hI.len (by decide) (by decide)) (fun n1 => ?_) (fun n1 => ?_)
    · exact absurd n1 (by omega)
    · refine r_con (v := 0) cd_333_321 rfl (by decide) ?_
      refine r_ist cd_333_322 rfl rfl (L' := [aR 0, aI ((sm : Nat) : Int), aI (setF (flyF w) (nB w)), aI 0, u4, u5, u6]) rfl ?_
      exact l4_333 C hI sm hA u5 u6 (nP w) 0 _ (by omega)
  | succ m ih =>
    intro i sm hm hs
    have hv := Ms.of (f := fun p => lies w p ((i : Nat) : Int)) hpn.2
    refine r_ild cd_333_287 rfl rfl ?_
    refine r_aldR cd_333_288 rfl rfl ?_
    refine r_cI (x_114 C hI) cd_333_289 rfl rfl rfl (rc0 h0 rfl) rfl rfl rfl ?_
    refine r_ic64 cd_333_292 rfl ⟨by omega, by omega⟩ (inR_of hI.len (by decide) (by decide)) (fun n1 => ?_) (fun n1 => ?_)
    · refine r_ild cd_333_295 rfl rfl ?_
      refine r_aldR cd_333_296 rfl rfl ?_
      refine r_ild cd_333_297 rfl rfl ?_
      refine r_cI (q_153 C hI i (by omega)) cd_333_298 rfl rfl rfl (rc0 h0 rfl) rfl rfl rfl ?_
      refine r_and cd_333_301 rfl ?_
      rw [show andI ((sm : Nat) : Int) ((valN (fun p => lies w p (((i : Nat)) : Int)) (nP w) : Nat) : Int) = 0 from by rw [and_nat (by have := hs.1; omega) (by have := hv.1; omega), hs.dis hv fun p _ h => fQ_d h]; rfl]
      refine r_if51 cd_333_302 rfl ⟨by omega, by omega⟩ (fun n2 => ?_) (fun n2 => ?_)
      · refine r_ild cd_333_307 rfl rfl ?_
        refine r_aldR cd_333_308 rfl rfl ?_
        refine r_ild cd_333_309 rfl rfl ?_
        refine r_cI (q_153 C hI i (by omega)) cd_333_310 rfl rfl rfl (rc0 h0 rfl) rfl rfl rfl ?_
        refine r_or cd_333_313 rfl ?_
        rw [or_nat hs.1 hv.1]
        refine r_ist cd_333_314 rfl rfl (L' := [aR 0, aI ((sm ||| valN (fun p => lies w p (((i : Nat)) : Int)) (nP w) : Nat) : Int), aI (setF (flyF w) (nB w)), aI ((i : Nat) : Int), u4, u5, u6]) rfl ?_
        refine r_inc (v := ((i + 1 : Nat) : Int)) cd_333_315 rfl rfl rfl (by omega) (L' := [aR 0, aI ((sm ||| valN (fun p => lies w p (((i : Nat)) : Int)) (nP w) : Nat) : Int), aI (setF (flyF w) (nB w)), aI ((i + 1 : Nat) : Int), u4, u5, u6]) rfl ?_
        refine r_goto cd_333_318 ?_
        exact ih (i + 1) _ (by omega) (hs.or hv fun p _ => fQ_s)
      · exact absurd n2 (by decide)
    · exact absurd n1 (by omega)
theorem l1_333 (C : CR h w ps kp T bu ek eo rl rp) (hI : Inv0 w) (i : Nat) (hi : i < nB w) (sm : Nat) (fl : Int) {res : aRes} (K : RU 5 333 res (152, [aR 0, aI ((sm : Nat) : Int), aI fl, aI ((i : Nat) : Int), aI (loadOf w i), aI ((valN (fun p => tied w p i) (nP w) : Nat) : Int), aI ((nP w : Nat) : Int)], [], 0, 0, h)) : ∀ (m p : Nat) (acc : Int), p + m = nP w → acc = itF (loadG w i) 0 p 0 → RU 5 333 res (77, [aR 0, aI ((sm : Nat) : Int), aI fl, aI ((i : Nat) : Int), aI acc, aI ((valN (fun p => tied w p i) (nP w) : Nat) : Int), aI ((p : Nat) : Int)], [], 0, 0, h) := by
  have hbn := hI.bNe
  have hpn := hI.pNe
  have x0 := hI.len
  have x1 := hI.hour
  have x2 := hI.gas
  have x5 := hI.bn
  have x6 := hI.pn
  obtain ⟨h0, -⟩ := id C
  have hv := Ms.of (f := fun p => tied w p i) hpn.2
  intro m
  induction m with
  | zero =>
    intro p acc hm hac
    obtain rfl : p = nP w := by omega
    subst hac
    refine r_ild cd_333_77 rfl rfl ?_
    refine r_aldR cd_333_79 rfl rfl ?_
    refine r_cI (x_118 C hI) cd_333_80 rfl rfl rfl (rc0 h0 rfl) rfl rfl rfl ?_
    refine r_ic64 cd_333_83 rfl ⟨by omega, by omega⟩ (inR_of hI.pn (by decide) (by decide)) (fun n1 => ?_) (fun n1 => ?_)
    · exact absurd n1 (by omega)
    · exact K
  | succ m ih =>
    intro p acc hm hac
    refine r_ild cd_333_77 rfl rfl ?_
    refine r_aldR cd_333_79 rfl rfl ?_
    refine r_cI (x_118 C hI) cd_333_80 rfl rfl rfl (rc0 h0 rfl) rfl rfl rfl ?_
    refine r_ic64 cd_333_83 rfl ⟨by omega, by omega⟩ (inR_of hI.pn (by decide) (by decide)) (fun n1 => ?_) (fun n1 => ?_)
    · refine r_ild cd_333_86 rfl rfl ?_
      refine r_ild cd_333_88 rfl rfl ?_
      refine r_shr cd_333_90 rfl ?_
      refine r_con (v := 1) cd_333_91 rfl (by decide) ?_
      refine r_and cd_333_92 rfl ?_
      rw [hv.at (p := p) (by omega) hpn.2, bz_if]
      refine r_if52b cd_333_93 rfl (fun n2 => ?_) (fun n2 => ?_)
      · refine r_goto cd_333_96 ?_
        refine r_inc (v := ((p + 1 : Nat) : Int)) cd_333_146 rfl rfl rfl (by omega) (L' := [aR 0, aI ((sm : Nat) : Int), aI fl, aI ((i : Nat) : Int), aI acc, aI ((valN (fun p => tied w p i) (nP w) : Nat) : Int), aI ((p + 1 : Nat) : Int)]) rfl ?_
        refine r_goto cd_333_149 ?_
        exact ih (p + 1) _ (by omega) (by rw [itF_last, Nat.zero_add, ← hac]; unfold loadG; rw [n2]; simp)
      · refine r_ild cd_333_99 rfl rfl ?_
        refine r_aldR cd_333_101 rfl rfl ?_
        refine r_ild cd_333_102 rfl rfl ?_
        refine r_cI (x_161 C hI p (isPa_iff.mpr ⟨by omega, by omega⟩)) cd_333_104 rfl rfl rfl (rc0 h0 rfl) rfl rfl rfl ?_
        refine r_add (v := acc + (pa w p 0)) cd_333_107 rfl (by rfl) ?_
        refine r_ist cd_333_108 rfl rfl (L' := [aR 0, aI ((sm : Nat) : Int), aI fl, aI ((i : Nat) : Int), aI (acc + (pa w p 0)), aI ((valN (fun p => tied w p i) (nP w) : Nat) : Int), aI ((p : Nat) : Int)]) rfl ?_
        refine r_aldR cd_333_110 rfl rfl ?_
        refine r_ild cd_333_111 rfl rfl ?_
        refine r_cI (x_163 C hI p (isPa_iff.mpr ⟨by omega, by omega⟩)) cd_333_113 rfl rfl rfl (rc0 h0 rfl) rfl rfl rfl ?_
        refine r_con (v := 1) cd_333_116 rfl (by decide) ?_
        refine r_ic62e cd_333_117 rfl ((tied_iff.mp n2).1) ?_
        refine r_aldR cd_333_120 rfl rfl ?_
        refine r_ild cd_333_121 rfl rfl ?_
        refine r_cI (x_164 C hI p (isPa_iff.mpr ⟨by omega, by omega⟩)) cd_333_123 rfl rfl rfl (rc0 h0 rfl) rfl rfl rfl ?_
        refine r_ild cd_333_126 rfl rfl ?_
        refine r_ic62e cd_333_127 rfl (carr_iff.mpr n2) ?_
        refine r_aldR cd_333_130 rfl rfl ?_
        refine r_ild cd_333_131 rfl rfl ?_
        refine r_cI (x_165 C hI p (isPa_iff.mpr ⟨by omega, by omega⟩)) cd_333_133 rfl rfl rfl (rc0 h0 rfl) rfl rfl rfl ?_
        refine r_aldR cd_333_136 rfl rfl ?_
        refine r_ild cd_333_137 rfl rfl ?_
        refine r_cI (x_154 C hI i (isBa_iff.mpr ⟨by omega, by omega⟩)) cd_333_138 rfl rfl rfl (rc0 h0 rfl) rfl rfl rfl ?_
        refine r_ic61e cd_333_141 rfl (pl_t n2) ?_
        refine r_inc (v := ((p + 1 : Nat) : Int)) cd_333_146 rfl rfl rfl (by omega) (L' := [aR 0, aI ((sm : Nat) : Int), aI fl, aI ((i : Nat) : Int), aI (acc + (pa w p 0)), aI ((valN (fun p => tied w p i) (nP w) : Nat) : Int), aI ((p + 1 : Nat) : Int)]) rfl ?_
        refine r_goto cd_333_149 ?_
        exact ih (p + 1) _ (by omega) (by rw [itF_last, Nat.zero_add, ← hac]; unfold loadG; rw [n2]; simp)
    · exact absurd n1 (by omega)
theorem l2_333 (C : CR h w ps kp T bu ek eo rl rp) (G : Gd k w) : ∀ (m i sm : Nat) (u4 u5 u6 : aV), i + m = nB w → Ms sm (fB w i) (nP w) → RU 5 333 (.inl (some (aI 1)), h) (56, [aR 0, aI ((sm : Nat) : Int), aI (itF (setG (flyF w)) 0 i 0), aI ((i : Nat) : Int), u4, u5, u6], [], 0, 0, h) := by
  have hI := G.1.1
  have hbn := hI.bNe
  have hpn := hI.pNe
  have x0 := hI.len
  have x1 := hI.hour
  have x2 := hI.gas
  have x5 := hI.bn
  have x6 := hI.pn
  obtain ⟨h0, -⟩ := id C
  intro m
  induction m with
  | zero =>
    intro i sm u4 u5 u6 hm hs
    obtain rfl : i = nB w := by omega
    refine r_ild cd_333_56 rfl rfl ?_
    refine r_aldR cd_333_57 rfl rfl ?_
    refine r_cI (x_117 C hI) cd_333_58 rfl rfl rfl (rc0 h0 rfl) rfl rfl rfl ?_
    refine r_ic64 cd_333_61 rfl ⟨by omega, by omega⟩ (inR_of hI.bn (by decide) (by decide)) (fun n1 => ?_) (fun n1 => ?_)
    · exact absurd n1 (by omega)
    · refine r_con (v := 0) cd_333_285 rfl (by decide) ?_
      refine r_ist cd_333_286 rfl rfl (L' := [aR 0, aI ((sm : Nat) : Int), aI (itF (setG (flyF w)) 0 (nB w) 0), aI 0, u4, u5, u6]) rfl ?_
      exact l3_333 C hI u4 u5 u6 (w 0).toNat 0 sm (by omega) (hs.cg fun p hp => fBQ hI hp)
  | succ m ih =>
    intro i sm u4 u5 u6 hm hs
    have hi : i < nB w := by omega
    have hv := Ms.of (f := fun p => tied w p i) hpn.2
    have hbs := hI.bs i hi
    have hld := G.1.2.2 i hi
    have hlo := hI.load i
    refine r_ild cd_333_56 rfl rfl ?_
    refine r_aldR cd_333_57 rfl rfl ?_
    refine r_cI (x_117 C hI) cd_333_58 rfl rfl rfl (rc0 h0 rfl) rfl rfl rfl ?_
    refine r_ic64 cd_333_61 rfl ⟨by omega, by omega⟩ (inR_of hI.bn (by decide) (by decide)) (fun n1 => ?_) (fun n1 => ?_)
    · refine r_con (v := 0) cd_333_64 rfl (by decide) ?_
      refine r_ist cd_333_65 rfl rfl (L' := [aR 0, aI ((sm : Nat) : Int), aI (itF (setG (flyF w)) 0 i 0), aI ((i : Nat) : Int), aI 0, u5, u6]) rfl ?_
      refine r_aldR cd_333_67 rfl rfl ?_
      refine r_ild cd_333_68 rfl rfl ?_
      refine r_cI (q_160 C hI i (by omega)) cd_333_69 rfl rfl rfl (rc0 h0 rfl) rfl rfl rfl ?_
      refine r_ist cd_333_72 rfl rfl (L' := [aR 0, aI ((sm : Nat) : Int), aI (itF (setG (flyF w)) 0 i 0), aI ((i : Nat) : Int), aI 0, aI ((valN (fun p => tied w p i) (nP w) : Nat) : Int), u6]) rfl ?_
      refine r_con (v := 0) cd_333_74 rfl (by decide) ?_
      refine r_ist cd_333_75 rfl rfl (L' := [aR 0, aI ((sm : Nat) : Int), aI (itF (setG (flyF w)) 0 i 0), aI ((i : Nat) : Int), aI 0, aI ((valN (fun p => tied w p i) (nP w) : Nat) : Int), aI 0]) rfl ?_
      refine l1_333 C hI i hi sm _ ?_ (nP w) 0 0 (by omega) rfl
      refine r_ild cd_333_152 rfl rfl ?_
      refine r_ild cd_333_153 rfl rfl ?_
      refine r_and cd_333_155 rfl ?_
      rw [show andI ((sm : Nat) : Int) ((valN (fun p => tied w p i) (nP w) : Nat) : Int) = 0 from by rw [and_nat (by have := hs.1; omega) (by have := hv.1; omega), hs.dis hv fun p _ h => fB_d h]; rfl]
      refine r_if52 cd_333_156 rfl ⟨by omega, by omega⟩ (fun n2 => ?_) (fun n2 => ?_)
      · refine r_ild cd_333_159 rfl rfl ?_
        refine r_cI (k_377 (valN (fun p => tied w p i) (nP w)) (Ms.of (f := fun p => tied w p i) hpn.2).1) cd_333_161 rfl rfl rfl True.intro rfl rfl rfl ?_
        rw [bc_knots hpn.2]
        refine r_con (v := 4) cd_333_164 rfl (by decide) ?_
        refine r_ic65 cd_333_165 rfl (inR_of (hI.knot i) (by decide) (by decide)) ⟨by omega, by omega⟩ (fun n3 => ?_) (fun n3 => ?_)
        · exact absurd n3 (by omega)
        · refine r_aldR cd_333_168 rfl rfl ?_
          refine r_ild cd_333_169 rfl rfl ?_
          refine r_cI (x_157 C hI i (isBa_iff.mpr ⟨by omega, by omega⟩)) cd_333_170 rfl rfl rfl (rc0 h0 rfl) rfl rfl rfl ?_
          refine r_ild cd_333_173 rfl rfl ?_
          refine r_ic62e cd_333_175 rfl (rfl) ?_
          refine r_ild cd_333_178 rfl rfl ?_
          refine r_aldR cd_333_180 rfl rfl ?_
          refine r_ild cd_333_181 rfl rfl ?_
          refine r_cI (x_155 C hI i (isBa_iff.mpr ⟨by omega, by omega⟩)) cd_333_182 rfl rfl rfl (rc0 h0 rfl) rfl rfl rfl ?_
          refine r_ic64 cd_333_185 rfl (inR_of (hI.load i) (by decide) (by decide)) (hI.boR (b := i) (k := 1) (by omega) (by decide)) (fun n5 => ?_) (fun n5 => ?_)
          · refine r_aldR cd_333_188 rfl rfl ?_
            refine r_ild cd_333_189 rfl rfl ?_
            refine r_cI (x_155 C hI i (isBa_iff.mpr ⟨by omega, by omega⟩)) cd_333_190 rfl rfl rfl (rc0 h0 rfl) rfl rfl rfl ?_
            refine r_con (v := 1) cd_333_193 rfl (by decide) ?_
            refine r_ic63 cd_333_194 rfl (hI.boR (b := i) (k := 1) (by omega) (by decide)) ⟨by omega, by omega⟩ (fun n6 => ?_) (fun n6 => ?_)
            · exact absurd n6 (by omega)
            · refine r_aldR cd_333_197 rfl rfl ?_
              refine r_ild cd_333_198 rfl rfl ?_
              refine r_cI (x_155 C hI i (isBa_iff.mpr ⟨by omega, by omega⟩)) cd_333_199 rfl rfl rfl (rc0 h0 rfl) rfl rfl rfl ?_
              refine r_con (v := 30) cd_333_202 rfl (by decide) ?_
              refine r_ic66 cd_333_204 rfl (hI.boR (b := i) (k := 1) (by omega) (by decide)) ⟨by omega, by omega⟩ (fun n7 => ?_) (fun n7 => ?_)
              · exact absurd n7 (by omega)
              · refine r_aldR cd_333_209 rfl rfl ?_
                refine r_ild cd_333_210 rfl rfl ?_
                refine r_cI (x_158 C hI i (isBa_iff.mpr ⟨by omega, by omega⟩)) cd_333_211 rfl rfl rfl (rc0 h0 rfl) rfl rfl rfl ?_
                refine r_aldR cd_333_214 rfl rfl ?_
                refine r_ild cd_333_215 rfl rfl ?_
                refine r_cI (x_156 C hI i (isBa_iff.mpr ⟨by omega, by omega⟩)) cd_333_216 rfl rfl rfl (rc0 h0 rfl) rfl rfl rfl ?_
                refine r_aldR cd_333_219 rfl rfl ?_
                refine r_ild cd_333_220 rfl rfl ?_
                refine r_cI (x_155 C hI i (isBa_iff.mpr ⟨by omega, by omega⟩)) cd_333_221 rfl rfl rfl (rc0 h0 rfl) rfl rfl rfl ?_
                refine r_ild cd_333_224 rfl rfl ?_
                refine r_sub (v := (bo w i 1) - (loadOf w i)) cd_333_226 rfl (by rfl) ?_
                refine r_cI (k_373 (bo w i 2) (hI.boR (b := i) (k := 2) (by omega) (by decide)) ((bo w i 1) - (loadOf w i)) ⟨by omega, by omega⟩) cd_333_227 rfl rfl rfl True.intro rfl rfl rfl ?_
                refine r_ic62e cd_333_230 rfl (rfl) ?_
                refine r_aldR cd_333_233 rfl rfl ?_
                refine r_ild cd_333_234 rfl rfl ?_
                refine r_cI (x_154 C hI i (isBa_iff.mpr ⟨by omega, by omega⟩)) cd_333_235 rfl rfl rfl (rc0 h0 rfl) rfl rfl rfl ?_
                refine r_if53 cd_333_238 rfl (hI.boR (b := i) (k := 0) (by omega) (by decide)) (fun n9 => ?_) (fun n9 => ?_)
                · exact absurd n9 (by omega)
                · refine r_aldR cd_333_241 rfl rfl ?_
                  refine r_ild cd_333_242 rfl rfl ?_
                  refine r_cI (x_154 C hI i (isBa_iff.mpr ⟨by omega, by omega⟩)) cd_333_243 rfl rfl rfl (rc0 h0 rfl) rfl rfl rfl ?_
                  refine r_aldR cd_333_246 rfl rfl ?_
                  refine r_cI (x_114 C hI) cd_333_247 rfl rfl rfl (rc0 h0 rfl) rfl rfl rfl ?_
                  refine r_ic63 cd_333_250 rfl (hI.boR (b := i) (k := 0) (by omega) (by decide)) (inR_of hI.len (by decide) (by decide)) (fun n10 => ?_) (fun n10 => ?_)
                  · refine r_ild cd_333_255 rfl rfl ?_
                    refine r_ild cd_333_256 rfl rfl ?_
                    refine r_or cd_333_258 rfl ?_
                    rw [or_nat hs.1 hv.1]
                    refine r_ist cd_333_259 rfl rfl (L' := [aR 0, aI ((sm ||| valN (fun p => tied w p i) (nP w) : Nat) : Int), aI (itF (setG (flyF w)) 0 i 0), aI ((i : Nat) : Int), aI (loadOf w i), aI ((valN (fun p => tied w p i) (nP w) : Nat) : Int), aI ((nP w : Nat) : Int)]) rfl ?_
                    refine r_ild cd_333_260 rfl rfl ?_
                    refine r_aldR cd_333_261 rfl rfl ?_
                    refine r_ild cd_333_262 rfl rfl ?_
                    refine r_cI (x_159 C hI i (isBa_iff.mpr ⟨by omega, by omega⟩)) cd_333_263 rfl rfl rfl (rc0 h0 rfl) rfl rfl rfl ?_
                    refine r_con (v := 1) cd_333_266 rfl (by decide) ?_
                    refine r_ic62 cd_333_267 rfl (hI.boR (b := i) (k := 3) (by omega) (by decide)) ⟨by omega, by omega⟩ (fun n11 => ?_) (fun n11 => ?_)
                    · refine r_con (v := 1) cd_333_270 rfl (by decide) ?_
                      refine r_ild cd_333_271 rfl rfl ?_
                      refine r_shl cd_333_272 rfl ?_
                      refine r_goto cd_333_273 ?_
                      refine r_or cd_333_277 rfl ?_
                      refine r_ist cd_333_278 rfl rfl (L' := [aR 0, aI ((sm ||| valN (fun p => tied w p i) (nP w) : Nat) : Int), aI (orI (itF (setG (flyF w)) 0 i 0) (shlI 1 ((i : Nat) : Int))), aI ((i : Nat) : Int), aI (loadOf w i), aI ((valN (fun p => tied w p i) (nP w) : Nat) : Int), aI ((nP w : Nat) : Int)]) rfl ?_
                      refine r_inc (v := ((i + 1 : Nat) : Int)) cd_333_279 rfl rfl rfl (by omega) (L' := [aR 0, aI ((sm ||| valN (fun p => tied w p i) (nP w) : Nat) : Int), aI (orI (itF (setG (flyF w)) 0 i 0) (shlI 1 ((i : Nat) : Int))), aI ((i + 1 : Nat) : Int), aI (loadOf w i), aI ((valN (fun p => tied w p i) (nP w) : Nat) : Int), aI ((nP w : Nat) : Int)]) rfl ?_
                      refine r_goto cd_333_282 ?_
                      rw [show (orI (itF (setG (flyF w)) 0 i 0) (shlI 1 ((i : Nat) : Int))) = itF (setG (flyF w)) 0 (i + 1) 0 from by rw [itF_last, Nat.zero_add]; simp [setG, flyF, n11]]
                      exact ih (i + 1) _ _ _ _ (by omega) (hs.or hv fun p _ => fB_s)
                    · refine r_con (v := 0) cd_333_276 rfl (by decide) ?_
                      refine r_or cd_333_277 rfl ?_
                      refine r_ist cd_333_278 rfl rfl (L' := [aR 0, aI ((sm ||| valN (fun p => tied w p i) (nP w) : Nat) : Int), aI (orI (itF (setG (flyF w)) 0 i 0) 0), aI ((i : Nat) : Int), aI (loadOf w i), aI ((valN (fun p => tied w p i) (nP w) : Nat) : Int), aI ((nP w : Nat) : Int)]) rfl ?_
                      refine r_inc (v := ((i + 1 : Nat) : Int)) cd_333_279 rfl rfl rfl (by omega) (L' := [aR 0, aI ((sm ||| valN (fun p => tied w p i) (nP w) : Nat) : Int), aI (orI (itF (setG (flyF w)) 0 i 0) 0), aI ((i + 1 : Nat) : Int), aI (loadOf w i), aI ((valN (fun p => tied w p i) (nP w) : Nat) : Int), aI ((nP w : Nat) : Int)]) rfl ?_
                      refine r_goto cd_333_282 ?_
                      rw [show (orI (itF (setG (flyF w)) 0 i 0) 0) = itF (setG (flyF w)) 0 (i + 1) 0 from by rw [itF_last, Nat.zero_add]; simp [setG, flyF, n11]]
                      exact ih (i + 1) _ _ _ _ (by omega) (hs.or hv fun p _ => fB_s)
                  · exact absurd n10 (by omega)
          · exact absurd n5 (by omega)
      · exact absurd n2 (by decide)
    · exact absurd n1 (by omega)
theorem y_333 (C : CR h w ps kp T bu ek eo rl rp) (G : Gd k w) (hk : k < 1000) : Ct 5 333 [aR 0] h (.inl (some (aI 1)), h) := by
  have hI := G.1.1
  have h7 := G.2.2.1
  have h999 := G.1.2.1
  have hbn := hI.bNe
  have hpn := hI.pNe
  have x0 := hI.len
  have x1 := hI.hour
  have x2 := hI.gas
  have x5 := hI.bn
  have x6 := hI.pn
  obtain ⟨h0, -⟩ := id C
  refine Ct.of [aR 0, aU, aU, aU, aU, aU, aU] rfl ?_
  refine r_aldR cd_333_0 rfl rfl ?_
  refine r_cI ((x_125 C hI).eq (by rw [viol_0 G.1 G.2.1]) : Ct 4 125 [aR 0] h (.inl (some (aI 0)), h)) cd_333_1 rfl rfl rfl (rc0 h0 rfl) rfl rfl rfl ?_
  refine r_if52 cd_333_4 rfl ⟨by omega, by omega⟩ (fun n1 => ?_) (fun n1 => ?_)
  · refine r_aldR cd_333_7 rfl rfl ?_
    refine r_cI (x_115 C hI) cd_333_8 rfl rfl rfl (rc0 h0 rfl) rfl rfl rfl ?_
    refine r_if53 cd_333_11 rfl (inR_of hI.hour (by decide) (by decide)) (fun n2 => ?_) (fun n2 => ?_)
    · exact absurd n2 (by omega)
    · refine r_aldR cd_333_14 rfl rfl ?_
      refine r_cI (x_115 C hI) cd_333_15 rfl rfl rfl (rc0 h0 rfl) rfl rfl rfl ?_
      refine r_con (v := 999) cd_333_18 rfl (by decide) ?_
      refine r_ic65 cd_333_21 rfl (inR_of hI.hour (by decide) (by decide)) ⟨by omega, by omega⟩ (fun n3 => ?_) (fun n3 => ?_)
      · exact absurd n3 (by omega)
      · refine r_aldR cd_333_24 rfl rfl ?_
        refine r_cI (x_116 C hI) cd_333_25 rfl rfl rfl (rc0 h0 rfl) rfl rfl rfl ?_
        refine r_if53 cd_333_28 rfl (inR_of hI.gas (by decide) (by decide)) (fun n4 => ?_) (fun n4 => ?_)
        · exact absurd n4 (by omega)
        · refine r_aldR cd_333_31 rfl rfl ?_
          refine r_cI (x_116 C hI) cd_333_32 rfl rfl rfl (rc0 h0 rfl) rfl rfl rfl ?_
          refine r_con (v := 999) cd_333_35 rfl (by decide) ?_
          refine r_ic65 cd_333_38 rfl (inR_of hI.gas (by decide) (by decide)) ⟨by omega, by omega⟩ (fun n5 => ?_) (fun n5 => ?_)
          · exact absurd n5 (by omega)
          · refine r_aldR cd_333_41 rfl rfl ?_
            refine r_cI (x_121 C hI) cd_333_42 rfl rfl rfl (rc0 h0 rfl) rfl rfl rfl ?_
            refine r_if54 cd_333_45 rfl ⟨by omega, by omega⟩ (fun n6 => ?_) (fun n6 => ?_)
            · exact absurd n6 (by omega)
            · refine r_con (v := 0) cd_333_50 rfl (by decide) ?_
              refine r_ist cd_333_51 rfl rfl (L' := [aR 0, aI 0, aU, aU, aU, aU, aU]) rfl ?_
              refine r_con (v := 0) cd_333_52 rfl (by decide) ?_
              refine r_ist cd_333_53 rfl rfl (L' := [aR 0, aI 0, aI 0, aU, aU, aU, aU]) rfl ?_
              refine r_con (v := 0) cd_333_54 rfl (by decide) ?_
              refine r_ist cd_333_55 rfl rfl (L' := [aR 0, aI 0, aI 0, aI 0, aU, aU, aU]) rfl ?_
              exact l2_333 C G (nB w) 0 0 _ _ _ (by omega) (Ms.zero fun p hp => by
    have h := (hI.ps p hp).2.2.2.2
    unfold fB
    by_cases h1 : pa w p 4 = 1
    · have h2 : ¬ pa w p 5 < ((0 : Nat) : Int) := by omega
      rw [decide_eq_false h2, Bool.and_false]
    · rw [decide_eq_false h1, Bool.false_and])
  · exact absurd n1 (by decide)
end HOLDS
