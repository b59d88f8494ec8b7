/-! constant texts; tokens (written by wip/whole/gen27.py) -/
def sT (j : Nat) : List Int := txtA (j - 19)
theorem sT_ok : (List.range 61).all (fun i => Nat.ble (txtA i).length 400 && (txtA i).all (fun x => decide (0 ≤ x) && decide (x < 128))) = true := by decide +kernel
theorem ch_ok : (List.range 128).all (fun x => decide (andI ((x : Nat) : Int) 255 = (x : Int)) && decide (chI ((x : Nat) : Int) = (x : Int))) = true := by decide +kernel
theorem sT_len {j : Nat} (h1 : 19 ≤ j) (h2 : j < 80) : (sT j).length ≤ 400 := by
  have h := List.all_eq_true.mp sT_ok (j - 19) (List.mem_range.mpr (by omega))
  simp only [Bool.and_eq_true] at h
  exact Nat.le_of_ble_eq_true h.1
theorem sT_ch {j k : Nat} (h1 : 19 ≤ j) (h2 : j < 80) : 0 ≤ (sT j).getD k 0 ∧ (sT j).getD k 0 < 128 := by
  have h := List.all_eq_true.mp sT_ok (j - 19) (List.mem_range.mpr (by omega))
  simp only [Bool.and_eq_true] at h
  by_cases hk : k < (sT j).length
  · have h3 := List.all_eq_true.mp h.2 _ (List.getElem_mem (l := sT j) hk)
    simp only [Bool.and_eq_true, decide_eq_true_eq] at h3
    rw [List.getD_eq_getElem?_getD, List.getElem?_eq_getElem hk]
    exact h3
  · rw [List.getD_eq_getElem?_getD, List.getElem?_eq_none (by omega)]
    decide
theorem ch_and {x : Int} (h1 : 0 ≤ x) (h2 : x < 128) : andI x 255 = x ∧ chI x = x := by
  obtain ⟨n, rfl⟩ : ∃ n : Nat, x = (n : Int) := ⟨x.toNat, by omega⟩
  have h := List.all_eq_true.mp ch_ok n (List.mem_range.mpr (by omega))
  simp only [Bool.and_eq_true, decide_eq_true_eq] at h
  exact h
theorem ca_str {j : Nat} (h1 : 19 ≤ j) (h2 : j < 80) : ca_ (j + 61) = some (1, (sT j).length, fun k => aI ((sT j).getD k 0)) := by
  unfold ca_ sT
  rw [if_neg (by omega), if_neg (by omega), if_pos (by omega), show j + 61 - 80 = j - 19 by omega]
theorem shrI_0 {x : Int} (h : inR x) : shrI x 0 = x := by
  show (i32 x >>> (i32 0 &&& 31)).toInt = x
  rw [show (i32 0 &&& 31 : Int32) = 0 by decide, show i32 x >>> (0 : Int32) = i32 x by simp]
  exact i32_toInt h.1 h.2
theorem c_379 {h : aH} (j : Nat) (g0 : 19 ≤ j) (g1 : j < 80) : Ct 1 379 [aC j] h (.inl (some (aI 0)), h) := by
  refine Ct.of [aC j] rfl ?_
  refine r_one cd_379_0 rfl ?_
  refine r_if51 cd_379_3 rfl ⟨by omega, by omega⟩ (fun n1 => ?_) (fun n1 => ?_)
  · exact absurd n1 (by decide)
  · refine r_aldC cd_379_6 rfl rfl ?_
    refine r_cget (v := aI 0) cd_379_7 rfl (if_pos ⟨g0, g1⟩) ?_
    refine r_goto cd_379_10 ?_
    exact r_ret cd_379_14 ⟨by decide, by decide⟩ (rfl)
theorem c_381 {h : aH} (j : Nat) (g0 : 19 ≤ j) (g1 : j < 80) : Ct 1 381 [aC j] h (.inl (some (aI 1)), h) := by
  refine Ct.of [aC j] rfl ?_
  refine r_one cd_381_0 rfl ?_
  refine r_if51 cd_381_3 rfl ⟨by omega, by omega⟩ (fun n1 => ?_) (fun n1 => ?_)
  · exact absurd n1 (by decide)
  · refine r_aldC cd_381_6 rfl rfl ?_
    refine r_cget (v := aI 0) cd_381_7 rfl (if_pos ⟨g0, g1⟩) ?_
    refine r_if52 cd_381_10 rfl ⟨by omega, by omega⟩ (fun n2 => ?_) (fun n2 => ?_)
    · refine r_con (v := 1) cd_381_13 rfl (by decide) ?_
      refine r_goto cd_381_14 ?_
      exact r_ret cd_381_18 (Or.inr rfl) (rfl)
    · exact absurd n2 (by decide)
theorem c_378 {h : aH} (j : Nat) (g0 : 19 ≤ j) (g1 : j < 80) : Ct 2 378 [aC j] h (.inl (some (aI (((sT j).length : Nat) : Int))), h) := by
  refine Ct.of [aC j] rfl ?_
  refine r_aldC cd_378_0 rfl rfl ?_
  refine r_cget (v := aC (j + 61)) cd_378_1 rfl (if_pos ⟨g0, g1⟩) ?_
  refine r_lenC cd_378_4 rfl (by omega) (ca_str g0 g1) ?_
  refine r_aldC cd_378_5 rfl rfl ?_
  refine r_cI (c_379 j g0 g1) cd_378_6 rfl rfl rfl ⟨g0, g1⟩ rfl rfl rfl ?_
  refine r_shr cd_378_9 rfl ?_
  rw [shrI_0 ⟨by omega, by have := sT_len g0 g1; omega⟩]
  exact r_ret cd_378_10 True.intro (rfl)
theorem c_384 {h : aH} (i n : Nat) (g0 : i < n) (g1 : n ≤ 400) : Ct 1 384 [aI ((i : Nat) : Int), aI ((n : Nat) : Int), aC 1] h (.inl (some (aI ((i : Nat) : Int))), h) := by
  refine Ct.of [aI ((i : Nat) : Int), aI ((n : Nat) : Int), aC 1] rfl ?_
  refine r_ild cd_384_0 rfl rfl ?_
  refine r_if53 cd_384_1 rfl ⟨by omega, by omega⟩ (fun n1 => ?_) (fun n1 => ?_)
  · exact absurd n1 (by omega)
  · refine r_ild cd_384_4 rfl rfl ?_
    refine r_ild cd_384_5 rfl rfl ?_
    refine r_ic63 cd_384_6 rfl ⟨by omega, by omega⟩ ⟨by omega, by omega⟩ (fun n2 => ?_) (fun n2 => ?_)
    · refine r_ild cd_384_16 rfl rfl ?_
      exact r_ret cd_384_17 True.intro (rfl)
    · exact absurd n2 (by omega)
theorem c_382 {h : aH} (i n : Nat) (g0 : i < n) (g1 : n ≤ 400) : Ct 2 382 [aI ((i : Nat) : Int), aI ((n : Nat) : Int)] h (.inl none, h) := by
  refine Ct.of [aI ((i : Nat) : Int), aI ((n : Nat) : Int)] rfl ?_
  refine r_ild cd_382_0 rfl rfl ?_
  refine r_ild cd_382_1 rfl rfl ?_
  refine r_nine cd_382_2 rfl ?_
  refine r_cI (c_384 i n g0 g1) cd_382_5 rfl rfl rfl True.intro rfl rfl rfl ?_
  refine r_pop cd_382_8 rfl rfl ?_
  exact r_void cd_382_9 rfl (rfl)
theorem c_383 {h : aH} (j i : Nat) (g0 : 19 ≤ j) (g1 : j < 80) (g2 : i < (sT j).length) : Ct 3 383 [aC (j + 61), aI ((i : Nat) : Int)] h (.inl (some (aI ((sT j).getD i 0))), h) := by
  refine Ct.of [aC (j + 61), aI ((i : Nat) : Int)] rfl ?_
  refine r_ild cd_383_0 rfl rfl ?_
  refine r_aldC cd_383_1 rfl rfl ?_
  refine r_lenC cd_383_2 rfl (by omega) (ca_str g0 g1) ?_
  refine r_cV (c_382 i ((sT j).length) g2 (sT_len g0 g1)) cd_383_3 rfl rfl rfl True.intro rfl rfl rfl ?_
  refine r_aldC cd_383_6 rfl rfl ?_
  refine r_ild cd_383_7 rfl rfl ?_
  refine r_arrC (t := 0) (i := i) cd_383_8 rfl (by omega) (ca_str g0 g1) rfl rfl g2 (Nat.ble_eq_true_of_le (Nat.le_trans (sT_len g0 g1) (Nat.le_of_ble_eq_true rfl))) ?_
  refine r_con (v := 255) cd_383_9 rfl (by decide) ?_
  refine r_and cd_383_12 rfl ?_
  rw [(ch_and (sT_ch g0 g1).1 (sT_ch g0 g1).2).1]
  refine r_i2c cd_383_13 rfl ?_
  rw [(ch_and (sT_ch g0 g1).1 (sT_ch g0 g1).2).2]
  exact r_ret cd_383_14 ⟨by have := (sT_ch (k := i) g0 g1).1; omega, by have := (sT_ch (k := i) g0 g1).2; omega⟩ (rfl)
theorem c_380 {h : aH} (j i : Nat) (g0 : 19 ≤ j) (g1 : j < 80) (g2 : i < (sT j).length) : Ct 4 380 [aC j, aI ((i : Nat) : Int)] h (.inl (some (aI ((sT j).getD i 0))), h) := by
  refine Ct.of [aC j, aI ((i : Nat) : Int)] rfl ?_
  refine r_aldC cd_380_0 rfl rfl ?_
  refine r_cI (c_381 j g0 g1) cd_380_1 rfl rfl rfl ⟨g0, g1⟩ rfl rfl rfl ?_
  refine r_if51 cd_380_4 rfl ⟨by omega, by omega⟩ (fun n1 => ?_) (fun n1 => ?_)
  · exact absurd n1 (by decide)
  · refine r_aldC cd_380_7 rfl rfl ?_
    refine r_cget (v := aC (j + 61)) cd_380_8 rfl (if_pos ⟨g0, g1⟩) ?_
    refine r_ild cd_380_11 rfl rfl ?_
    refine r_cI (c_383 j i g0 g1 g2) cd_380_12 rfl rfl rfl True.intro rfl rfl rfl ?_
    exact r_ret cd_380_15 ⟨by have := (sT_ch (k := i) g0 g1).1; omega, by have := (sT_ch (k := i) g0 g1).2; omega⟩ (rfl)
/-! tokens of a text of N signs -/
def srt (c : Int) : Int := if c = 59 then 1 else if 97 ≤ c ∧ c ≤ 122 then 2 else if 48 ≤ c ∧ c ≤ 57 then 3 else if c = 40 then 4 else if c = 41 then 5 else 6
theorem srt_b (c : Int) : 1 ≤ srt c ∧ srt c ≤ 6 := by
  unfold srt
  repeat' split
  all_goals omega
def skF (tx : Nat → Int) : Nat → Nat → Nat
  | 0, i => i
  | m + 1, i => if tx i = 32 ∨ tx i = 10 then skF tx m (i + 1) else i
def rnF (tx : Nat → Int) (k : Int) : Nat → Nat → Nat
  | 0, i => i
  | m + 1, i => if srt (tx i) = k then rnF tx k m (i + 1) else i
theorem skF_b (tx : Nat → Int) : ∀ (m i : Nat), i ≤ skF tx m i ∧ skF tx m i ≤ i + m
  | 0, i => ⟨Nat.le_refl _, Nat.le_refl _⟩
  | m + 1, i => by
    rw [skF]
    have := skF_b tx m (i + 1)
    split <;> omega
theorem rnF_b (tx : Nat → Int) (k : Int) : ∀ (m i : Nat), i ≤ rnF tx k m i ∧ rnF tx k m i ≤ i + m
  | 0, i => ⟨Nat.le_refl _, Nat.le_refl _⟩
  | m + 1, i => by
    rw [rnF]
    have := rnF_b tx k m (i + 1)
    split <;> omega
def tOff (tx : Nat → Int) (N i : Nat) : Nat := skF tx (N - i) i
def tEnd (tx : Nat → Int) (N i : Nat) : Nat := if tOff tx N i = N then N else if srt (tx (tOff tx N i)) = 2 ∨ srt (tx (tOff tx N i)) = 3 then rnF tx (srt (tx (tOff tx N i))) (N - (tOff tx N i + 1)) (tOff tx N i + 1) else tOff tx N i + 1
def tKnd (tx : Nat → Int) (N i : Nat) : Int := if tOff tx N i = N then 0 else if srt (tx (tOff tx N i)) = 3 ∧ 3 < (tEnd tx N i : Int) - (tOff tx N i : Int) then 6 else srt (tx (tOff tx N i))
def vaG (tx : Nat → Int) (k : Nat) (v : Int) : Int := 10 * v + tx k - 48
def tVal (tx : Nat → Int) (N i : Nat) : Int := itF (vaG tx) (tOff tx N i) (tEnd tx N i - tOff tx N i) 0
theorem tOff_b {tx : Nat → Int} {N i : Nat} (h : i ≤ N) : i ≤ tOff tx N i ∧ tOff tx N i ≤ N := by
  have := skF_b tx (N - i) i
  unfold tOff
  omega
theorem tEnd_b {tx : Nat → Int} {N i : Nat} (h : i ≤ N) : tOff tx N i ≤ tEnd tx N i ∧ tEnd tx N i ≤ N ∧ (¬ tOff tx N i = N → tOff tx N i < tEnd tx N i) := by
  have h1 := tOff_b (tx := tx) h
  unfold tEnd
  split
  · omega
  · split
    · have := rnF_b tx (srt (tx (tOff tx N i))) (N - (tOff tx N i + 1)) (tOff tx N i + 1)
      omega
    · omega
theorem tKnd_b {tx : Nat → Int} {N i : Nat} : 0 ≤ tKnd tx N i ∧ tKnd tx N i ≤ 6 := by
  have := srt_b (tx (tOff tx N i))
  unfold tKnd
  repeat' split
  all_goals omega
