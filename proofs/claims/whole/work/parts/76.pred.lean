/-! PREDICTIONS (written by wip/whole/gen76.py) -/
/-- a parcel's numbers are as before -/
def Kp (p : Nat) (w u : Nat → Int) : Prop := ∀ k, k < 6 → pa u p k = pa w p k
section KPS
variable {p : Nat} {w u v : Nat → Int}
theorem Kp.rf : Kp p w w := fun _ _ => rfl
theorem Kp.tr (a : Kp p w u) (b : Kp p u v) : Kp p w v := fun k h => (b k h).trans (a k h)
theorem Kp.sb {b k : Nat} {x : Int} (hb : b < 8) (hk : k < 4) : Kp p w (sbo w b k x) := fun _ _ => sbo_pa hb hk
theorem Kp.los {b : Nat} {l : Int} (hb : b < 8) : Kp p w (losW w b l) := fun _ _ => los_pa hb
theorem Kp.rlF {b p : Nat} : ∀ {m : Nat} {w : Nat → Int} {n : Int}, Inv0 w → b < nB w → ¬ pa w p 4 = 1 → Kp p w (relF b m w n).1
  | 0, _, _, _, _, _ => Kp.rf
  | m + 1, w, n, hI, hb, hp => by
    by_cases hs : 0 < spare w b
    · rw [relF, if_pos hs]
      exact Kp.rf
    · obtain ⟨q, h1, h2, h3⟩ := heavy_some (load_pos hI hb hs)
      rw [relF, if_neg hs, h2, Int.toNat_natCast]
      have hq := tied_iff.mp h3
      have hne : ¬ p = q := fun e => hp (by rw [e]; exact hq.1)
      have h4 : Kp p w (untW w q) := fun k hk => by
        unfold untW
        rw [put_pa hk, if_neg (fun e => hne e.1), if_neg (fun e => hne e.1)]
      exact h4.tr (Kp.rlF (m := m) (hI.unt hb h1 h3) (by rw [unt_bN]; exact hb) (by rw [h4 4 (by decide)]; exact hp))
theorem Kp.car {b p : Nat} {sense : Int} (hb : b < 8) : ∀ {m : Nat} {w : Nat → Int}, Kp p w (carF b sense m w)
  | 0, _ => Kp.rf
  | m + 1, w => by
    rw [carF]
    split
    · exact Kp.rf
    · split
      · exact Kp.rf
      · split
        · exact Kp.rf
        · exact ((Kp.sb hb (by decide)).tr (Kp.sb hb (by decide))).tr (Kp.car hb (m := m))
theorem Kp.dr {b : Nat} (hb : b < 8) : Kp p w (drG b w) := by
  unfold drG
  split
  · exact Kp.car hb
  · exact Kp.rf
theorem Kp.drI {b : Nat} : ∀ {m : Nat}, b + m ≤ 8 → Kp p w (itF drG b m w)
  | 0, _ => Kp.rf
  | m + 1, h => by
    rw [itF_last]
    exact (Kp.drI (m := m) (by omega)).tr (Kp.dr (by omega))
theorem Kp.leak (hI : Inv0 w) {b : Nat} (hb : b < nB w) (hp : ¬ pa w p 4 = 1) : Kp p w (leakW w b) := by
  have hb8 := nB_8 hI
  obtain ⟨h1, h2⟩ := le1_inv hI hb
  have hb2 : b < nB (le1 w b) := by rw [Sm.eB fun j hj => h2 j (by omega) (by omega)]; exact hb
  unfold leakW
  split
  · exact Kp.rf
  · have k1 : Kp p w (le1 w b) := Kp.los (by omega)
    split
    · have h3 : Inv0 (sbo (le1 w b) b 3 0) := h1.setB (k := 3) hb2 (by omega) (by omega) (by omega) (by omega) (by omega)
      have hb3 : b < nB (sbo (le1 w b) b 3 0) := by rw [sbo_bN]; exact hb2
      have k2 : Kp p w (sbo (le1 w b) b 3 0) := k1.tr (Kp.sb (by omega) (by decide))
      exact k2.tr (Kp.rlF h3 hb3 (by rw [k2 4 (by decide)]; exact hp))
    · exact k1
theorem Kp.lkI (hI : Inv0 w) (hp : ¬ pa w p 4 = 1) {b : Nat} : ∀ {m : Nat}, b + m ≤ nB w → Kp p w (itF (fun b u => leakW u b) b m w)
  | 0, _ => Kp.rf
  | m + 1, h => by
    rw [itF_last]
    obtain ⟨h1, h2⟩ := lkI_inv hI (b := b) (m := m) (by omega)
    have k1 := Kp.lkI hI hp (b := b) (m := m) (by omega)
    exact k1.tr (Kp.leak h1 (by rw [Sm.eB fun j hj => h2 j (by omega) (by omega)]; omega) (by rw [k1 4 (by decide)]; exact hp))
theorem Kp.hr (hI : Inv0 w) (hp : ¬ pa w p 4 = 1) (h9 : w 1 < 100000) : Kp p w (hrW w) := by
  have hb8 := nB_8 hI
  obtain ⟨h1, h2⟩ := drI_inv hI (b := 0) (m := nB w) (by omega)
  have h3 : Inv0 (tkW (drW w)) := tk_inv h1 (by rw [show drW w 1 = w 1 from h2 1 (by omega)]; exact h9)
  have k1 : Kp p w (drW w) := Kp.drI (by omega)
  have k2 : Kp p w (tkW (drW w)) := k1.tr fun _ _ => tk_pa
  unfold hrW lkW
  split
  · exact k2.tr (Kp.lkI h3 (by rw [k2 4 (by decide)]; exact hp) (by omega))
  · exact k2
theorem Kp.pl (K : Kp p w u) (hp : ¬ pa w p 4 = 1) : plOf u p = plOf w p := by
  have h4 := K 4 (by decide)
  have h5 := K 5 (by decide)
  unfold plOf
  rw [h4, h5]
  by_cases e : pa w p 4 = 0
  · rw [if_pos e, if_pos e]
  · rw [if_neg e, if_neg e, if_neg hp, if_neg hp]
end KPS
theorem rl_pa {b p k : Nat} (hk : k < 4) : ∀ {m : Nat} {w : Nat → Int} {n : Int}, pa (relF b m w n).1 p k = pa w p k
  | 0, _, _ => rfl
  | m + 1, w, n => by
    by_cases hs : 0 < spare w b
    · rw [relF, if_pos hs]
    · rw [relF, if_neg hs, rl_pa hk (m := m), unt_pa0 hk]
theorem oh_pa {b p k : Nat} {w : Nat → Int} (hb : b < 8) (hk : k < 4) : pa (ohW b w) p k = pa w p k := by
  have h1 : pa (drG b w) p k = pa w p k := Kp.dr hb k (by omega)
  have h2 : pa (clW (drG b w) b) p k = pa (drG b w) p k := by
    unfold clW
    split
    · unfold leakW
      split
      · rfl
      · split
        · exact (rl_pa hk).trans ((sbo_pa hb (by decide)).trans (los_pa hb))
        · exact los_pa hb
    · rfl
  exact tk_pa.trans (h2.trans h1)
theorem dest_no {p : Nat} : ∀ {m : Nat} {u : Nat → Int} {k : Int}, Inv0 u → u 1 + m ≤ 100000 → ¬ pa u p 4 = 1 → ¬ plOf u p = pa u p 2 → ¬ plOf (destF p m u k).1 p = pa (destF p m u k).1 p 2
  | 0, _, _, _, _, _, h => h
  | m + 1, u, k, hI, h9, hp, h => by
    rw [destF, if_neg h]
    have K := Kp.hr hI hp (by omega)
    obtain ⟨i1, i2⟩ := hr_inv hI (by omega)
    have e1 := i2 1 (by decide) (by decide)
    rw [if_pos rfl] at e1
    exact dest_no (m := m) i1 (by rw [e1]; omega) (by rw [K 4 (by decide)]; exact hp) (by rw [K.pl hp, K 2 (by decide)]; exact h)
/-- hours to sinking, as they are counted -/
def skS (b : Nat) : Nat → (Nat → Int) → Int → Int
  | 0, _, _ => -1
  | m + 1, u, k => if ¬ bo u b 3 = 1 then -1 else if bo (hrW u) b 3 = 0 then k + 1 else skS b m (hrW u) (k + 1)
theorem sink_stop {b : Nat} {u : Nat → Int} {k : Int} (h : ¬ bo u b 3 = 1) : ∀ m, sinkF b m u k = (u, k)
  | 0 => rfl
  | m + 1 => by rw [sinkF, if_neg h]
theorem sk_eq {b : Nat} : ∀ {m : Nat} {u : Nat → Int} {k : Int}, skS b m u k = if ¬ bo u b 3 = 1 then -1 else if bo (sinkF b m u k).1 b 3 = 0 then (sinkF b m u k).2 else -1
  | 0, u, k => by
    by_cases h : bo u b 3 = 1
    · rw [if_neg (fun e => e h)]
      show (-1 : Int) = if bo u b 3 = 0 then k else -1
      rw [if_neg (by omega)]
    · rw [if_pos h]; rfl
  | m + 1, u, k => by
    by_cases h : bo u b 3 = 1
    · rw [if_neg (fun e => e h), skS, if_neg (fun e => e h), sinkF, if_pos h]
      by_cases h2 : bo (hrW u) b 3 = 0
      · rw [if_pos h2, sink_stop (by omega), if_pos h2]
      · rw [if_neg h2, sk_eq (m := m)]
        by_cases h3 : bo (hrW u) b 3 = 1
        · rw [if_neg (fun e => e h3)]
        · rw [if_pos h3, sink_stop h3, if_neg h2]
    · rw [if_pos h, skS, if_pos h]
/-- hours to the destination, as they are counted -/
def dsS (p : Nat) : Nat → (Nat → Int) → Int → Int
  | 0, _, _ => -1
  | m + 1, u, k => if plOf u p = pa u p 2 then k else dsS p m (hrW u) (k + 1)
theorem ds_eq {p : Nat} : ∀ {m : Nat} {u : Nat → Int} {k : Int}, dsS p (m + 1) u k = if plOf (destF p m u k).1 p = pa (destF p m u k).1 p 2 then (destF p m u k).2 else -1
  | 0, u, k => rfl
  | m + 1, u, k => by
    by_cases h : plOf u p = pa u p 2
    · rw [dsS, if_pos h, destF, if_pos h, if_pos h]
    · rw [dsS, if_neg h, destF, if_neg h]
      exact ds_eq (m := m)
theorem Ag.plo {S : Nat → Bool} {b p : Nat} {v u : Nat → Int} (A : Ag S b v u) (hp : p < 16) (hS : S p = true) : plOf u p = plOf v p := by
  obtain ⟨a4, a5, a6⟩ := A.2.2.2.1 p hp hS
  unfold plOf
  rw [a4, a5]
  by_cases e0 : pa v p 4 = 0
  · rw [if_pos e0, if_pos e0]
  · rw [if_neg e0, if_neg e0]
    by_cases e1 : pa v p 4 = 1
    · rw [if_pos e1, if_pos e1, a6 e1, Int.toNat_natCast]
      exact A.2.1 0 (by decide)
    · rw [if_neg e1, if_neg e1]
section PRED
variable {h : aH} {w : Nat → Int} {ps : List (Nat → Int)} {kp : Option (Nat → Int)} {T : Nat} {bu : Nat → Int} {ek eo : Int} {rl : Nat} {rp : Nat → Int}
theorem CR.tri (C : CR h w ps kp T bu ek eo rl rp) {h' : aH} (X : Ex h' 37) (F : Fr 37 h h') : CR h' w ps kp T bu ek eo rl rp ∧ Fc h h' := by
  obtain ⟨h0, hR, hK, hT, hH, hS, ⟨rb, hB, hb⟩⟩ := C
  exact ⟨⟨(F.1 0 (by omega)).trans h0, hR.mv fun a g1 g2 => F.1 a (by omega), hK.mv fun a g1 g2 => F.1 a (by omega), X, hH.mv fun a g1 g2 => F.1 a (by omega), hS.mv fun a g1 g2 => F.1 a (by omega), ⟨rb, (F.1 225 (by omega)).trans hB, hb⟩⟩, ⟨fun a ha => F.1 a (by omega), F.2⟩⟩
theorem lp_172 {b n : Nat} (hn : n ≤ 48) (hb8 : b < 8) : ∀ (m i : Nat) {h1 : aH} {v : Nat → Int}, i + m = n → h1.2.2 0 = .inr (7, [aR 1, aR 19, aR 37, aR 55, aR 201, aR 225, aI ((rl : Nat) : Int), aI (kI kp)]) → Rp h1 37 v → Inv0 v → b < nB v → v 1 + m ≤ 100000 → ∃ h', RU 5 172 (.inl none, h') (13, [aR 0, aI ((b : Nat) : Int), aI ((n : Nat) : Int), aI ((i : Nat) : Int)], [], 0, 0, h1) ∧ Rp h' 37 (itF (fun _ v => ohW b v) i m v) ∧ Fr 37 h1 h' := by
  intro m
  induction m with
  | zero =>
    intro i h1 v hm k0 hV hJ hb h9
    refine ⟨h1, ?_, hV, Fr.rf⟩
    refine r_ild cd_172_13 rfl rfl ?_
    refine r_ild cd_172_14 rfl rfl ?_
    refine r_ic64 cd_172_15 rfl ⟨by omega, by omega⟩ ⟨by omega, by omega⟩ (fun n1 => ?_) (fun n1 => ?_)
    · exact absurd n1 (by omega)
    · exact r_void cd_172_32 rfl (rfl)
  | succ m ih =>
    intro i h1 v hm k0 hV hJ hb h9
    obtain ⟨fs, o9⟩ := hV.o
    obtain ⟨g1, g2, g3, g4, g5, g6⟩ := (Ag.rf (b := b) (w := v)).hr hJ hJ hb rfl (by omega)
    obtain ⟨h2, d2, V2, F2⟩ := v_105 hV hJ b hb
    have k2 := (F2.1 0 (by omega)).trans k0
    obtain ⟨h3, c3, V3, F3⟩ := ih (i + 1) (by omega) k2 V2 g3 g5 (by rw [g6]; omega)
    refine ⟨h3, ?_, V3, F2.tr F3⟩
    refine r_ild cd_172_13 rfl rfl ?_
    refine r_ild cd_172_14 rfl rfl ?_
    refine r_ic64 cd_172_15 rfl ⟨by omega, by omega⟩ ⟨by omega, by omega⟩ (fun n1 => ?_) (fun n1 => ?_)
    · refine r_aldR cd_172_18 rfl rfl ?_
      refine r_get cd_172_19 rfl k0 rfl ?_
      refine r_ild cd_172_22 rfl rfl ?_
      refine r_cV d2 cd_172_23 rfl rfl rfl (rc0 o9 rfl) rfl rfl rfl ?_
      refine r_inc (v := ((i + 1 : Nat) : Int)) cd_172_26 rfl rfl rfl (by omega) (L' := [aR 0, aI ((b : Nat) : Int), aI ((n : Nat) : Int), aI ((i + 1 : Nat) : Int)]) rfl ?_
      refine r_goto cd_172_29 ?_
      exact c3
    · exact absurd n1 (by omega)
theorem x_172 (C : CR h w ps kp T bu ek eo rl rp) (hI : Inv0 w) (b n : Nat) (hb : b < nB w) (hn : n ≤ 48) (h9 : w 1 + n ≤ 100000) : ∃ h', Ct 5 172 [aR 0, aI ((b : Nat) : Int), aI ((n : Nat) : Int)] h (.inl none, h') ∧ Rp h' 37 (foW b n w) ∧ Fr 37 h h' := by
  have hb8 := nB_8 hI
  obtain ⟨h0, hR, hK, hT, -⟩ := id C
  obtain ⟨fs, o9⟩ := hT.o
  obtain ⟨h1, c1, R1, F1⟩ := v_100 hR hI hT (by omega)
  have k1 := (F1.1 0 (by omega)).trans h0
  obtain ⟨h3, c3, V3, F3⟩ := lp_172 hn (by omega) n 0 (by omega) k1 R1 hI hb h9
  refine ⟨h3, Ct.of [aR 0, aI ((b : Nat) : Int), aI ((n : Nat) : Int), aU] rfl ?_, V3, F1.tr F3⟩
  refine r_aldR cd_172_0 rfl rfl ?_
  refine r_get cd_172_1 rfl h0 rfl ?_
  refine r_aldR cd_172_4 rfl rfl ?_
  refine r_get cd_172_5 rfl h0 rfl ?_
  refine r_cV c1 cd_172_8 rfl rfl rfl (rc0 o9 rfl) rfl rfl rfl ?_
  refine r_con (v := 0) cd_172_11 rfl (by decide) ?_
  refine r_ist cd_172_12 rfl rfl (L' := [aR 0, aI ((b : Nat) : Int), aI ((n : Nat) : Int), aI 0]) rfl ?_
  exact c3
theorem z_171_0 (C : CR h w ps kp T bu ek eo rl rp) (hI : Inv0 w) (b : Int) (hb : inR b) (n : Int) (hn : inR n)  (g0 : isBa w b = false) : Ct 6 171 [aR 0, aI b, aI n] h (.inr 0, h) := by
  obtain ⟨h0, hR, hK, hT, hH, hS, hB⟩ := id C
  refine Ct.of [aR 0, aI b, aI n] rfl ?_
  refine r_aldR cd_171_0 rfl rfl ?_
  refine r_ild cd_171_1 rfl rfl ?_
  exact r_dX (k1 := 1) (k2 := 6) (z_140 C hI b hb g0) cd_171_2 rfl rfl (rc0 h0 rfl) rfl rfl (Nat.le_of_ble_eq_true rfl) (Nat.le_of_ble_eq_true rfl) rfl rfl (rfl)
theorem z_171_1 (C : CR h w ps kp T bu ek eo rl rp) (hI : Inv0 w) (b : Int) (hb : inR b) (n : Int) (hn : inR n)  (g0 : isBa w b = true) (g1 : inB n 0 48 = false) : Ct 6 171 [aR 0, aI b, aI n] h (.inr 1, h) := by
  obtain ⟨h0, hR, hK, hT, hH, hS, hB⟩ := id C
  refine Ct.of [aR 0, aI b, aI n] rfl ?_
  refine r_aldR cd_171_0 rfl rfl ?_
  refine r_ild cd_171_1 rfl rfl ?_
  refine r_dV (k1 := 1) (k2 := 6) (kc' := 1) (ks' := 6) (x_140 C hI b hb g0) cd_171_2 rfl rfl rfl (rc0 h0 rfl) rfl rfl rfl rfl (Nat.le_of_ble_eq_true rfl) (Nat.le_of_ble_eq_true rfl) rfl ?_
  refine r_ild cd_171_5 rfl rfl ?_
  refine r_con (v := 0) cd_171_6 rfl (by decide) ?_
  refine r_con (v := 48) cd_171_7 rfl (by decide) ?_
  exact r_dX (k1 := 1) (k2 := 6) (z_129 n hn 0 ⟨by decide, by decide⟩ 48 ⟨by decide, by decide⟩ g1) cd_171_9 rfl rfl True.intro rfl rfl (Nat.le_of_ble_eq_true rfl) (Nat.le_of_ble_eq_true rfl) rfl rfl (rfl)
theorem x_171 (C : CR h w ps kp T bu ek eo rl rp) (hI : Inv0 w) (b n : Nat) (g0 : isBa w ((b : Nat) : Int) = true) (g1 : inB ((n : Nat) : Int) 0 48 = true) (h9 : w 1 + 48 ≤ 100000) : ∃ h', Ct 6 171 [aR 0, aI ((b : Nat) : Int), aI ((n : Nat) : Int)] h (.inl (some (aI (bo (passW w n) b 0))), h') ∧ CR h' w ps kp T bu ek eo rl rp ∧ Fc h h' := by
  have hb8 := nB_8 hI
  have hbn := hI.bNe
  have e0 := isBa_iff.mp g0
  have e1 := inB_iff.mp g1
  obtain ⟨h0, -⟩ := id C
  obtain ⟨h3, c3, V3, F3⟩ := x_172 C hI b n (by omega) (by omega) (by omega)
  obtain ⟨C3, F4⟩ := C.tri V3.ex F3
  have k3 := (F3.1 0 (by omega)).trans h0
  have Z9 : nB (foW b n w) = nB w := (Ag.it (n := n) (k := 0) (Ag.rf (b := b) (w := w)) hI hI (by omega) rfl (by omega)).bN.symm.trans (by show nB (passW w n) = nB w; unfold nB; rw [(pass_inv hI (n := n) (by omega)).2 5 (by decide) (by decide), if_neg (by decide)])
  obtain ⟨c, ⟨p0, p1, p2, p3, p4, p5, p6, p7, p8, p9, p10, p11, p12, p13, p14, p15, p16, p17⟩, q0, q1, q2, q3, q4, q5, q6, q7, q8, q9, q10, q11, q12, q13, q14⟩ := id V3
  refine ⟨h3, Ct.of [aR 0, aI ((b : Nat) : Int), aI ((n : Nat) : Int)] rfl ?_, C3, F4⟩
  rw [← fo_bo hI (b := b) (n := n) (k := 0) (by omega) (by decide) (by omega)]
  refine r_aldR cd_171_0 rfl rfl ?_
  refine r_ild cd_171_1 rfl rfl ?_
  refine r_dV (k1 := 1) (k2 := 6) (kc' := 1) (ks' := 6) (x_140 C hI ((b : Nat) : Int) ⟨by omega, by omega⟩ g0) cd_171_2 rfl rfl rfl (rc0 h0 rfl) rfl rfl rfl rfl (Nat.le_of_ble_eq_true rfl) (Nat.le_of_ble_eq_true rfl) rfl ?_
  refine r_ild cd_171_5 rfl rfl ?_
  refine r_con (v := 0) cd_171_6 rfl (by decide) ?_
  refine r_con (v := 48) cd_171_7 rfl (by decide) ?_
  refine r_dV (k1 := 1) (k2 := 6) (kc' := 2) (ks' := 12) (x_129 ((n : Nat) : Int) ⟨by omega, by omega⟩ 0 ⟨by decide, by decide⟩ 48 ⟨by decide, by decide⟩ g1) cd_171_9 rfl rfl rfl True.intro rfl rfl rfl rfl (Nat.le_of_ble_eq_true rfl) (Nat.le_of_ble_eq_true rfl) rfl ?_
  refine r_aldR cd_171_12 rfl rfl ?_
  refine r_ild cd_171_13 rfl rfl ?_
  refine r_ild cd_171_14 rfl rfl ?_
  refine r_cV c3 cd_171_15 rfl rfl rfl (rc0 h0 rfl) rfl rfl rfl ?_
  refine r_aldR cd_171_18 rfl rfl ?_
  refine r_get cd_171_19 rfl k3 rfl ?_
  refine r_get cd_171_22 rfl p0 rfl ?_
  refine r_get cd_171_25 rfl p5 rfl ?_
  refine r_ild cd_171_28 rfl rfl ?_
  refine r_arr (i := b) cd_171_29 rfl p6 rfl (by omega) rfl ?_
  rw [q3 (b) (by omega)]
  exact r_ret cd_171_30 True.intro (rfl)
theorem z_173_0 (C : CR h w ps kp T bu ek eo rl rp) (hI : Inv0 w) (b : Int) (hb : inR b) (n : Int) (hn : inR n)  (g0 : isBa w b = false) : Ct 6 173 [aR 0, aI b, aI n] h (.inr 0, h) := by
  obtain ⟨h0, hR, hK, hT, hH, hS, hB⟩ := id C
  refine Ct.of [aR 0, aI b, aI n] rfl ?_
  refine r_aldR cd_173_0 rfl rfl ?_
  refine r_ild cd_173_1 rfl rfl ?_
  exact r_dX (k1 := 1) (k2 := 6) (z_140 C hI b hb g0) cd_173_2 rfl rfl (rc0 h0 rfl) rfl rfl (Nat.le_of_ble_eq_true rfl) (Nat.le_of_ble_eq_true rfl) rfl rfl (rfl)
theorem z_173_1 (C : CR h w ps kp T bu ek eo rl rp) (hI : Inv0 w) (b : Int) (hb : inR b) (n : Int) (hn : inR n)  (g0 : isBa w b = true) (g1 : inB n 0 48 = false) : Ct 6 173 [aR 0, aI b, aI n] h (.inr 1, h) := by
  obtain ⟨h0, hR, hK, hT, hH, hS, hB⟩ := id C
  refine Ct.of [aR 0, aI b, aI n] rfl ?_
  refine r_aldR cd_173_0 rfl rfl ?_
  refine r_ild cd_173_1 rfl rfl ?_
  refine r_dV (k1 := 1) (k2 := 6) (kc' := 1) (ks' := 6) (x_140 C hI b hb g0) cd_173_2 rfl rfl rfl (rc0 h0 rfl) rfl rfl rfl rfl (Nat.le_of_ble_eq_true rfl) (Nat.le_of_ble_eq_true rfl) rfl ?_
  refine r_ild cd_173_5 rfl rfl ?_
  refine r_con (v := 0) cd_173_6 rfl (by decide) ?_
  refine r_con (v := 48) cd_173_7 rfl (by decide) ?_
  exact r_dX (k1 := 1) (k2 := 6) (z_129 n hn 0 ⟨by decide, by decide⟩ 48 ⟨by decide, by decide⟩ g1) cd_173_9 rfl rfl True.intro rfl rfl (Nat.le_of_ble_eq_true rfl) (Nat.le_of_ble_eq_true rfl) rfl rfl (rfl)
theorem x_173 (C : CR h w ps kp T bu ek eo rl rp) (hI : Inv0 w) (b n : Nat) (g0 : isBa w ((b : Nat) : Int) = true) (g1 : inB ((n : Nat) : Int) 0 48 = true) (h9 : w 1 + 48 ≤ 100000) : ∃ h', Ct 6 173 [aR 0, aI ((b : Nat) : Int), aI ((n : Nat) : Int)] h (.inl (some (aI (bo (passW w n) b 3))), h') ∧ CR h' w ps kp T bu ek eo rl rp ∧ Fc h h' := by
  have hb8 := nB_8 hI
  have hbn := hI.bNe
  have e0 := isBa_iff.mp g0
  have e1 := inB_iff.mp g1
  obtain ⟨h0, -⟩ := id C
  obtain ⟨h3, c3, V3, F3⟩ := x_172 C hI b n (by omega) (by omega) (by omega)
  obtain ⟨C3, F4⟩ := C.tri V3.ex F3
  have k3 := (F3.1 0 (by omega)).trans h0
  have Z9 : nB (foW b n w) = nB w := (Ag.it (n := n) (k := 0) (Ag.rf (b := b) (w := w)) hI hI (by omega) rfl (by omega)).bN.symm.trans (by show nB (passW w n) = nB w; unfold nB; rw [(pass_inv hI (n := n) (by omega)).2 5 (by decide) (by decide), if_neg (by decide)])
  obtain ⟨c, ⟨p0, p1, p2, p3, p4, p5, p6, p7, p8, p9, p10, p11, p12, p13, p14, p15, p16, p17⟩, q0, q1, q2, q3, q4, q5, q6, q7, q8, q9, q10, q11, q12, q13, q14⟩ := id V3
  refine ⟨h3, Ct.of [aR 0, aI ((b : Nat) : Int), aI ((n : Nat) : Int)] rfl ?_, C3, F4⟩
  rw [← fo_bo hI (b := b) (n := n) (k := 3) (by omega) (by decide) (by omega)]
  refine r_aldR cd_173_0 rfl rfl ?_
  refine r_ild cd_173_1 rfl rfl ?_
  refine r_dV (k1 := 1) (k2 := 6) (kc' := 1) (ks' := 6) (x_140 C hI ((b : Nat) : Int) ⟨by omega, by omega⟩ g0) cd_173_2 rfl rfl rfl (rc0 h0 rfl) rfl rfl rfl rfl (Nat.le_of_ble_eq_true rfl) (Nat.le_of_ble_eq_true rfl) rfl ?_
  refine r_ild cd_173_5 rfl rfl ?_
  refine r_con (v := 0) cd_173_6 rfl (by decide) ?_
  refine r_con (v := 48) cd_173_7 rfl (by decide) ?_
  refine r_dV (k1 := 1) (k2 := 6) (kc' := 2) (ks' := 12) (x_129 ((n : Nat) : Int) ⟨by omega, by omega⟩ 0 ⟨by decide, by decide⟩ 48 ⟨by decide, by decide⟩ g1) cd_173_9 rfl rfl rfl True.intro rfl rfl rfl rfl (Nat.le_of_ble_eq_true rfl) (Nat.le_of_ble_eq_true rfl) rfl ?_
  refine r_aldR cd_173_12 rfl rfl ?_
  refine r_ild cd_173_13 rfl rfl ?_
  refine r_ild cd_173_14 rfl rfl ?_
  refine r_cV c3 cd_173_15 rfl rfl rfl (rc0 h0 rfl) rfl rfl rfl ?_
  refine r_aldR cd_173_18 rfl rfl ?_
  refine r_get cd_173_19 rfl k3 rfl ?_
  refine r_get cd_173_22 rfl p0 rfl ?_
  refine r_get cd_173_25 rfl p5 rfl ?_
  refine r_ild cd_173_28 rfl rfl ?_
  refine r_arr (i := b) cd_173_29 rfl p9 rfl (by omega) rfl ?_
  rw [q6 (b) (by omega)]
  exact r_ret cd_173_30 True.intro (rfl)
theorem z_174_0 (C : CR h w ps kp T bu ek eo rl rp) (hI : Inv0 w) (b : Int) (hb : inR b)  (g0 : isBa w b = false) : Ct 5 174 [aR 0, aI b] h (.inr 0, h) := by
  obtain ⟨h0, hR, hK, hT, hH, hS, hB⟩ := id C
  refine Ct.of [aR 0, aI b, aU] rfl ?_
  refine r_aldR cd_174_0 rfl rfl ?_
  refine r_ild cd_174_1 rfl rfl ?_
  exact r_dX (k1 := 1) (k2 := 6) (z_140 C hI b hb g0) cd_174_2 rfl rfl (rc0 h0 rfl) rfl rfl (Nat.le_of_ble_eq_true rfl) (Nat.le_of_ble_eq_true rfl) rfl rfl (rfl)
theorem lp_174 {S : Nat → Bool} {b : Nat} (hb8 : b < 8) : ∀ (m k : Nat) {h1 : aH} {v u : Nat → Int}, k + m = 200 → h1.2.2 0 = .inr (7, [aR 1, aR 19, aR 37, aR 55, aR 201, aR 225, aI ((rl : Nat) : Int), aI (kI kp)]) → Rp h1 37 v → Ag S b v u → Inv0 v → Inv0 u → b < nB v → u 1 = v 1 → v 1 + m ≤ 100000 → ∃ h', RU 5 174 (.inl (some (aI (skS b m u ((k : Nat) : Int)))), h') (18, [aR 0, aI ((b : Nat) : Int), aI ((k + 1 : Nat) : Int)], [], 1, 6, h1) ∧ Ex h' 37 ∧ Fr 37 h1 h' := by
  intro m
  induction m with
  | zero =>
    intro k h1 v u hm k0 hV A hJ hU hb hh h9
    refine ⟨h1, ?_, hV.ex, Fr.rf⟩
    refine r_ild cd_174_18 rfl rfl ?_
    refine r_con (v := 200) cd_174_19 rfl (by decide) ?_
    refine r_ic65 cd_174_22 rfl ⟨by omega, by omega⟩ ⟨by omega, by omega⟩ (fun n1 => ?_) (fun n1 => ?_)
    · refine r_con (v := (-1)) cd_174_71 rfl (by decide) ?_
      exact r_ret cd_174_72 True.intro (rfl)
    · exact absurd n1 (by omega)
  | succ m ih =>
    intro k h1 v u hm k0 hV A hJ hU hb hh h9
    have a3 := A.2.1 3 (by decide)
    obtain ⟨c, ⟨p0, p1, p2, p3, p4, p5, p6, p7, p8, p9, p10, p11, p12, p13, p14, p15, p16, p17⟩, q0, q1, q2, q3, q4, q5, q6, q7, q8, q9, q10, q11, q12, q13, q14⟩ := id hV
    by_cases e1 : bo v b 3 = 1
    · obtain ⟨g1, g2, g3, g4, g5, g6⟩ := A.hr hJ hU hb hh (by omega)
      obtain ⟨h2, d2, V2, F2⟩ := v_105 hV hJ b hb
      have k2 := (F2.1 0 (by omega)).trans k0
      have b3 := g1.2.1 3 (by decide)
      obtain ⟨cc, ⟨pp0, pp1, pp2, pp3, pp4, pp5, pp6, pp7, pp8, pp9, pp10, pp11, pp12, pp13, pp14, pp15, pp16, pp17⟩, qq0, qq1, qq2, qq3, qq4, qq5, qq6, qq7, qq8, qq9, qq10, qq11, qq12, qq13, qq14⟩ := id V2
      by_cases e2 : bo (ohW b v) b 3 = 0
      · refine ⟨h2, ?_, V2.ex, F2⟩
        rw [skS, if_neg (fun e => e (by rw [a3]; exact e1)), if_pos (by rw [b3]; exact e2)]
        refine r_ild cd_174_18 rfl rfl ?_
        refine r_con (v := 200) cd_174_19 rfl (by decide) ?_
        refine r_ic65 cd_174_22 rfl ⟨by omega, by omega⟩ ⟨by omega, by omega⟩ (fun n1 => ?_) (fun n1 => ?_)
        · exact absurd n1 (by omega)
        · refine r_aldR cd_174_25 rfl rfl ?_
          refine r_get cd_174_26 rfl k0 rfl ?_
          refine r_get cd_174_29 rfl p0 rfl ?_
          refine r_ild cd_174_32 rfl rfl ?_
          refine r_cI (k_4 hV hJ b hb) cd_174_33 rfl rfl rfl (rc0 p5 rfl) rfl rfl rfl ?_
          refine r_if52b cd_174_36 rfl (fun n2 => ?_) (fun n2 => ?_)
          · exact Bool.noConfusion (n2.symm.trans (decide_eq_true e1))
          · refine r_aldR cd_174_41 rfl rfl ?_
            refine r_get cd_174_42 rfl k0 rfl ?_
            refine r_ild cd_174_45 rfl rfl ?_
            refine r_cV d2 cd_174_46 rfl rfl rfl (rc0 p0 rfl) rfl rfl rfl ?_
            refine r_aldR cd_174_49 rfl rfl ?_
            refine r_get cd_174_50 rfl k2 rfl ?_
            refine r_get cd_174_53 rfl pp0 rfl ?_
            refine r_ild cd_174_56 rfl rfl ?_
            refine r_cI (k_2 V2 g3 b g5) cd_174_57 rfl rfl rfl (rc0 pp5 rfl) rfl rfl rfl ?_
            refine r_if51b cd_174_60 rfl (fun n3 => ?_) (fun n3 => ?_)
            · exact Bool.noConfusion (n3.symm.trans (decide_eq_true e2))
            · refine r_ild cd_174_63 rfl rfl ?_
              exact r_ret cd_174_64 True.intro (rfl)
      · obtain ⟨h3, c3, X3, F3⟩ := ih (k + 1) (by omega) k2 V2 g1 g3 g4 g5 g2 (by rw [g6]; omega)
        refine ⟨h3, ?_, X3, F2.tr F3⟩
        rw [skS, if_neg (fun e => e (by rw [a3]; exact e1)), if_neg (by rw [b3]; exact e2)]
        refine r_ild cd_174_18 rfl rfl ?_
        refine r_con (v := 200) cd_174_19 rfl (by decide) ?_
        refine r_ic65 cd_174_22 rfl ⟨by omega, by omega⟩ ⟨by omega, by omega⟩ (fun n1 => ?_) (fun n1 => ?_)
        · exact absurd n1 (by omega)
        · refine r_aldR cd_174_25 rfl rfl ?_
          refine r_get cd_174_26 rfl k0 rfl ?_
          refine r_get cd_174_29 rfl p0 rfl ?_
          refine r_ild cd_174_32 rfl rfl ?_
          refine r_cI (k_4 hV hJ b hb) cd_174_33 rfl rfl rfl (rc0 p5 rfl) rfl rfl rfl ?_
          refine r_if52b cd_174_36 rfl (fun n2 => ?_) (fun n2 => ?_)
          · exact Bool.noConfusion (n2.symm.trans (decide_eq_true e1))
          · refine r_aldR cd_174_41 rfl rfl ?_
            refine r_get cd_174_42 rfl k0 rfl ?_
            refine r_ild cd_174_45 rfl rfl ?_
            refine r_cV d2 cd_174_46 rfl rfl rfl (rc0 p0 rfl) rfl rfl rfl ?_
            refine r_aldR cd_174_49 rfl rfl ?_
            refine r_get cd_174_50 rfl k2 rfl ?_
            refine r_get cd_174_53 rfl pp0 rfl ?_
            refine r_ild cd_174_56 rfl rfl ?_
            refine r_cI (k_2 V2 g3 b g5) cd_174_57 rfl rfl rfl (rc0 pp5 rfl) rfl rfl rfl ?_
            refine r_if51b cd_174_60 rfl (fun n3 => ?_) (fun n3 => ?_)
            · refine r_inc (v := ((k + 1 + 1 : Nat) : Int)) cd_174_65 rfl rfl rfl (by omega) (L' := [aR 0, aI ((b : Nat) : Int), aI ((k + 1 + 1 : Nat) : Int)]) rfl ?_
              refine r_goto cd_174_68 ?_
              exact c3
            · exact Bool.noConfusion (n3.symm.trans (decide_eq_false e2))
    · refine ⟨h1, ?_, hV.ex, Fr.rf⟩
      rw [skS, if_pos (by rw [a3]; exact e1)]
      refine r_ild cd_174_18 rfl rfl ?_
      refine r_con (v := 200) cd_174_19 rfl (by decide) ?_
      refine r_ic65 cd_174_22 rfl ⟨by omega, by omega⟩ ⟨by omega, by omega⟩ (fun n1 => ?_) (fun n1 => ?_)
      · exact absurd n1 (by omega)
      · refine r_aldR cd_174_25 rfl rfl ?_
        refine r_get cd_174_26 rfl k0 rfl ?_
        refine r_get cd_174_29 rfl p0 rfl ?_
        refine r_ild cd_174_32 rfl rfl ?_
        refine r_cI (k_4 hV hJ b hb) cd_174_33 rfl rfl rfl (rc0 p5 rfl) rfl rfl rfl ?_
        refine r_if52b cd_174_36 rfl (fun n2 => ?_) (fun n2 => ?_)
        · refine r_con (v := (-1)) cd_174_39 rfl (by decide) ?_
          exact r_ret cd_174_40 True.intro (rfl)
        · exact Bool.noConfusion (n2.symm.trans (decide_eq_false e1))
theorem x_174 (C : CR h w ps kp T bu ek eo rl rp) (hI : Inv0 w) (b : Nat) (g0 : isBa w ((b : Nat) : Int) = true) (h9 : w 1 + 200 ≤ 100000) : ∃ h', Ct 5 174 [aR 0, aI ((b : Nat) : Int)] h (.inl (some (aI (sinkN w b))), h') ∧ CR h' w ps kp T bu ek eo rl rp ∧ Fc h h' := by
  have hb8 := nB_8 hI
  have hbn := hI.bNe
  have e0 := isBa_iff.mp g0
  obtain ⟨h0, hR, hK, hT, -⟩ := id C
  obtain ⟨fs, o9⟩ := hT.o
  obtain ⟨h1, c1, R1, F1⟩ := v_100 hR hI hT (by omega)
  have k1 := (F1.1 0 (by omega)).trans h0
  obtain ⟨h3, c3, X3, F3⟩ := lp_174 (b := b) (by omega) 200 0 (by omega) k1 R1 (Ag.rf (b := b) (w := w)) hI hI (by omega) rfl (by omega)
  obtain ⟨C3, F4⟩ := C.tri X3 (F1.tr F3)
  rw [sk_eq] at c3
  refine ⟨h3, Ct.of [aR 0, aI ((b : Nat) : Int), aU] rfl ?_, C3, F4⟩
  refine r_aldR cd_174_0 rfl rfl ?_
  refine r_ild cd_174_1 rfl rfl ?_
  refine r_dV (k1 := 1) (k2 := 6) (kc' := 1) (ks' := 6) (x_140 C hI ((b : Nat) : Int) ⟨by omega, by omega⟩ g0) cd_174_2 rfl rfl rfl (rc0 h0 rfl) rfl rfl rfl rfl (Nat.le_of_ble_eq_true rfl) (Nat.le_of_ble_eq_true rfl) rfl ?_
  refine r_aldR cd_174_5 rfl rfl ?_
  refine r_get cd_174_6 rfl h0 rfl ?_
  refine r_aldR cd_174_9 rfl rfl ?_
  refine r_get cd_174_10 rfl h0 rfl ?_
  refine r_cV c1 cd_174_13 rfl rfl rfl (rc0 o9 rfl) rfl rfl rfl ?_
  refine r_con (v := 1) cd_174_16 rfl (by decide) ?_
  refine r_ist cd_174_17 rfl rfl (L' := [aR 0, aI ((b : Nat) : Int), aI 1]) rfl ?_
  exact c3
theorem z_175_0 (C : CR h w ps kp T bu ek eo rl rp) (hI : Inv0 w) (p : Int) (hp : inR p)  (g0 : isPa w p = false) : Ct 5 175 [aR 0, aI p] h (.inr 0, h) := by
  obtain ⟨h0, hR, hK, hT, hH, hS, hB⟩ := id C
  refine Ct.of [aR 0, aI p, aU, aU, aU] rfl ?_
  refine r_aldR cd_175_0 rfl rfl ?_
  refine r_ild cd_175_1 rfl rfl ?_
  exact r_dX (k1 := 1) (k2 := 6) (z_139 C hI p hp g0) cd_175_2 rfl rfl (rc0 h0 rfl) rfl rfl (Nat.le_of_ble_eq_true rfl) (Nat.le_of_ble_eq_true rfl) rfl rfl (rfl)
theorem lp_175 {S : Nat → Bool} {p b : Nat} (hb8 : b < 8) (hp16 : p < 16) (hS : S p = true) (gl : Int) (hgl : inR gl) : ∀ (m k : Nat) {h1 : aH} {v u : Nat → Int}, k + m = 49 → h1.2.2 0 = .inr (7, [aR 1, aR 19, aR 37, aR 55, aR 201, aR 225, aI ((rl : Nat) : Int), aI (kI kp)]) → Rp h1 37 v → Ag S b v u → Inv0 v → Inv0 u → b < nB v → p < nP v → pa u p 2 = gl → u 1 = v 1 → v 1 + m ≤ 100000 → ∃ h', RU 5 175 (.inl (some (aI (dsS p m u ((k : Nat) : Int)))), h') (45, [aR 0, aI ((p : Nat) : Int), aI gl, aI ((b : Nat) : Int), aI ((k : Nat) : Int)], [], 1, 6, h1) ∧ Ex h' 37 ∧ Fr 37 h1 h' := by
  intro m
  induction m with
  | zero =>
    intro k h1 v u hm k0 hV A hJ hU hb hp hg hh h9
    refine ⟨h1, ?_, hV.ex, Fr.rf⟩
    refine r_ild cd_175_45 rfl rfl ?_
    refine r_con (v := 48) cd_175_47 rfl (by decide) ?_
    refine r_ic65 cd_175_49 rfl ⟨by omega, by omega⟩ ⟨by omega, by omega⟩ (fun n1 => ?_) (fun n1 => ?_)
    · refine r_con (v := (-1)) cd_175_97 rfl (by decide) ?_
      exact r_ret cd_175_98 True.intro (rfl)
    · exact absurd n1 (by omega)
  | succ m ih =>
    intro k h1 v u hm k0 hV A hJ hU hb hp hg hh h9
    have hbn := hJ.bNe
    have a3 := A.plo hp16 hS
    have gb : isBa v ((b : Nat) : Int) = true := isBa_iff.mpr ⟨by omega, by omega⟩
    obtain ⟨c, ⟨p0, p1, p2, p3, p4, p5, p6, p7, p8, p9, p10, p11, p12, p13, p14, p15, p16, p17⟩, q0, q1, q2, q3, q4, q5, q6, q7, q8, q9, q10, q11, q12, q13, q14⟩ := id hV
    by_cases e1 : plOf v p = gl
    · refine ⟨h1, ?_, hV.ex, Fr.rf⟩
      rw [dsS, if_pos (by rw [a3, hg]; exact e1)]
      refine r_ild cd_175_45 rfl rfl ?_
      refine r_con (v := 48) cd_175_47 rfl (by decide) ?_
      refine r_ic65 cd_175_49 rfl ⟨by omega, by omega⟩ ⟨by omega, by omega⟩ (fun n1 => ?_) (fun n1 => ?_)
      · exact absurd n1 (by omega)
      · refine r_aldR cd_175_52 rfl rfl ?_
        refine r_get cd_175_53 rfl k0 rfl ?_
        refine r_ild cd_175_56 rfl rfl ?_
        refine r_cI (k_88 hV hJ p hp) cd_175_57 rfl rfl rfl (rc0 p0 rfl) rfl rfl rfl ?_
        refine r_ild cd_175_60 rfl rfl ?_
        refine r_ic62 cd_175_61 rfl (inR_of (plOf_b hJ (p := p) hp) (by decide) (by decide)) hgl (fun n2 => ?_) (fun n2 => ?_)
        · refine r_ild cd_175_64 rfl rfl ?_
          exact r_ret cd_175_66 True.intro (rfl)
        · exact absurd e1 n2
    · obtain ⟨g1, g2, g3, g4, g5, g6⟩ := A.hr hJ hU hb hh (by omega)
      obtain ⟨h2, d2, V2, F2⟩ := v_105 hV hJ b hb
      have k2 := (F2.1 0 (by omega)).trans k0
      have hpu : nP (hrW u) = nP v := by
        have x := (hr_inv hU (by omega)).2 6 (by decide) (by decide)
        rw [if_neg (by decide)] at x
        exact (congrArg Int.toNat x).trans A.pN
      have hg2 : pa (hrW u) p 2 = gl := by
        rw [g1.2.2.1 p 2 (by decide), ← hg, A.2.2.1 p 2 (by decide)]
        exact oh_pa hb8 (by decide)
      obtain ⟨h3, c3, X3, F3⟩ := ih (k + 1) (by omega) k2 V2 g1 g3 g4 g5 (by rw [← g1.pN, hpu]; exact hp) hg2 g2 (by rw [g6]; omega)
      refine ⟨h3, ?_, X3, F2.tr F3⟩
      rw [dsS, if_neg (by rw [a3, hg]; exact e1)]
      refine r_ild cd_175_45 rfl rfl ?_
      refine r_con (v := 48) cd_175_47 rfl (by decide) ?_
      refine r_ic65 cd_175_49 rfl ⟨by omega, by omega⟩ ⟨by omega, by omega⟩ (fun n1 => ?_) (fun n1 => ?_)
      · exact absurd n1 (by omega)
      · refine r_aldR cd_175_52 rfl rfl ?_
        refine r_get cd_175_53 rfl k0 rfl ?_
        refine r_ild cd_175_56 rfl rfl ?_
        refine r_cI (k_88 hV hJ p hp) cd_175_57 rfl rfl rfl (rc0 p0 rfl) rfl rfl rfl ?_
        refine r_ild cd_175_60 rfl rfl ?_
        refine r_ic62 cd_175_61 rfl (inR_of (plOf_b hJ (p := p) hp) (by decide) (by decide)) hgl (fun n2 => ?_) (fun n2 => ?_)
        · exact absurd n2 e1
        · refine r_aldR cd_175_67 rfl rfl ?_
          refine r_get cd_175_68 rfl k0 rfl ?_
          refine r_get cd_175_71 rfl p0 rfl ?_
          refine r_ild cd_175_74 rfl rfl ?_
          refine r_cI (k_3 hV hJ ((b : Nat) : Int) ⟨by omega, by omega⟩) cd_175_75 rfl rfl rfl (rc0 p5 rfl) rfl rfl rfl ?_
          refine r_if52b cd_175_78 rfl (fun n3 => ?_) (fun n3 => ?_)
          · exact Bool.noConfusion (n3.symm.trans gb)
          · refine r_aldR cd_175_83 rfl rfl ?_
            refine r_get cd_175_84 rfl k0 rfl ?_
            refine r_ild cd_175_87 rfl rfl ?_
            refine r_cV d2 cd_175_88 rfl rfl rfl (rc0 p0 rfl) rfl rfl rfl ?_
            refine r_inc (v := ((k + 1 : Nat) : Int)) cd_175_91 rfl rfl rfl (by omega) (L' := [aR 0, aI ((p : Nat) : Int), aI gl, aI ((b : Nat) : Int), aI ((k + 1 : Nat) : Int)]) rfl ?_
            refine r_goto cd_175_94 ?_
            exact c3
theorem x_175 (C : CR h w ps kp T bu ek eo rl rp) (hI : Inv0 w) (p : Nat) (g0 : isPa w ((p : Nat) : Int) = true) (h9 : w 1 + 200 ≤ 100000) : ∃ h', Ct 5 175 [aR 0, aI ((p : Nat) : Int)] h (.inl (some (aI (destN w p))), h') ∧ CR h' w ps kp T bu ek eo rl rp ∧ Fc h h' := by
  obtain ⟨h0, hR, hK, hT, hH, hS, hB⟩ := id C
  obtain ⟨c, ⟨o0, o1, o2, o3, o4, o5, o6, o7, o8, o9, o10, o11, o12, o13, o14, o15, o16, o17⟩, a0, a1, a2, a3, a4, a5, a6, a7, a8, a9, a10, a11, a12, a13, a14⟩ := id hR
  have hbn := hI.bNe
  have hpn := hI.pNe
  have x0 := hI.len
  have x1 := hI.hour
  have x2 := hI.gas
  have x3 := hI.leak
  have x4 := hI.gn
  have x5 := hI.bn
  have x6 := hI.pn
  have e0 := isPa_iff.mp g0
  obtain ⟨fs, o9⟩ := hT.o
  have hps := hI.ps p (by omega)
  have hgl : inR (pa w p 2) := ⟨by omega, by omega⟩
  obtain ⟨h1, c1, R1, F1⟩ := v_100 hR hI hT (by omega)
  have k1 := (F1.1 0 (by omega)).trans h0
  have hdn : ¬ pa w p 4 = 2 → destN w p = dsS p 49 w 0 := fun e => by
    unfold destN
    rw [if_neg e, ds_eq]
  obtain ⟨c2, ⟨p0, p1, p2, p3, p4, p5, p6, p7, p8, p9, p10, p11, p12, p13, p14, p15, p16, p17⟩, q0, q1, q2, q3, q4, q5, q6, q7, q8, q9, q10, q11, q12, q13, q14⟩ := id R1
  by_cases e1 : pa w p 4 = 1
  · obtain ⟨b, hb⟩ : ∃ b : Nat, pa w p 5 = ((b : Nat) : Int) := ⟨(pa w p 5).toNat, by omega⟩
    have hc : carr w p = ((b : Nat) : Int) := (if_pos e1).trans hb
    obtain ⟨h3, c3, X3, F3⟩ := lp_175 (S := fun q => tied w q b) (p := p) (b := b) (by omega) (by omega) (tied_iff.mpr ⟨e1, hb⟩) (pa w p 2) hgl 49 0 (by omega) k1 R1 (Ag.rf (b := b) (w := w)) hI hI (by omega) (by omega) rfl rfl (by omega)
    obtain ⟨C3, F4⟩ := C.tri X3 (F1.tr F3)
    rw [hdn (by omega)]
    refine ⟨h3, Ct.of [aR 0, aI ((p : Nat) : Int), aU, aU, aU] rfl ?_, C3, F4⟩
    refine r_aldR cd_175_0 rfl rfl ?_
    refine r_ild cd_175_1 rfl rfl ?_
    refine r_dV (k1 := 1) (k2 := 6) (kc' := 1) (ks' := 6) (x_139 C hI ((p : Nat) : Int) ⟨by omega, by omega⟩ g0) cd_175_2 rfl rfl rfl (rc0 h0 rfl) rfl rfl rfl rfl (Nat.le_of_ble_eq_true rfl) (Nat.le_of_ble_eq_true rfl) rfl ?_
    refine r_aldR cd_175_5 rfl rfl ?_
    refine r_get cd_175_6 rfl h0 rfl ?_
    refine r_get cd_175_9 rfl o0 rfl ?_
    refine r_get cd_175_12 rfl o10 rfl ?_
    refine r_ild cd_175_15 rfl rfl ?_
    refine r_arr (i := p) cd_175_16 rfl o13 rfl (by omega) rfl ?_
    rw [a9 (p) (by omega)]
    refine r_ist cd_175_17 rfl rfl (L' := [aR 0, aI ((p : Nat) : Int), aI (pa w p 2), aU, aU]) rfl ?_
    refine r_aldR cd_175_18 rfl rfl ?_
    refine r_get cd_175_19 rfl h0 rfl ?_
    refine r_get cd_175_22 rfl o0 rfl ?_
    refine r_get cd_175_25 rfl o10 rfl ?_
    refine r_ild cd_175_28 rfl rfl ?_
    refine r_arr (i := p) cd_175_29 rfl o16 rfl (by omega) rfl ?_
    rw [a12 (p) (by omega), hc]
    refine r_ist cd_175_30 rfl rfl (L' := [aR 0, aI ((p : Nat) : Int), aI (pa w p 2), aI ((b : Nat) : Int), aU]) rfl ?_
    refine r_aldR cd_175_31 rfl rfl ?_
    refine r_get cd_175_32 rfl h0 rfl ?_
    refine r_aldR cd_175_35 rfl rfl ?_
    refine r_get cd_175_36 rfl h0 rfl ?_
    refine r_cV c1 cd_175_39 rfl rfl rfl (rc0 o9 rfl) rfl rfl rfl ?_
    refine r_con (v := 0) cd_175_42 rfl (by decide) ?_
    refine r_ist cd_175_43 rfl rfl (L' := [aR 0, aI ((p : Nat) : Int), aI (pa w p 2), aI ((b : Nat) : Int), aI 0]) rfl ?_
    exact c3
  · have hc : carr w p = -1 := if_neg e1
    have gm : isBa w (-1) = false := by simp [isBa]
    obtain ⟨C3, F4⟩ := C.tri R1.ex F1
    by_cases e2 : plOf w p = pa w p 2
    · have hd : destN w p = 0 := by
        rw [hdn (fun e => by unfold plOf at e2; rw [if_neg (by omega), if_neg (by omega)] at e2; omega), dsS, if_pos e2]
      rw [hd]
      refine ⟨h1, Ct.of [aR 0, aI ((p : Nat) : Int), aU, aU, aU] rfl ?_, C3, F4⟩
      refine r_aldR cd_175_0 rfl rfl ?_
      refine r_ild cd_175_1 rfl rfl ?_
      refine r_dV (k1 := 1) (k2 := 6) (kc' := 1) (ks' := 6) (x_139 C hI ((p : Nat) : Int) ⟨by omega, by omega⟩ g0) cd_175_2 rfl rfl rfl (rc0 h0 rfl) rfl rfl rfl rfl (Nat.le_of_ble_eq_true rfl) (Nat.le_of_ble_eq_true rfl) rfl ?_
      refine r_aldR cd_175_5 rfl rfl ?_
      refine r_get cd_175_6 rfl h0 rfl ?_
      refine r_get cd_175_9 rfl o0 rfl ?_
      refine r_get cd_175_12 rfl o10 rfl ?_
      refine r_ild cd_175_15 rfl rfl ?_
      refine r_arr (i := p) cd_175_16 rfl o13 rfl (by omega) rfl ?_
      rw [a9 (p) (by omega)]
      refine r_ist cd_175_17 rfl rfl (L' := [aR 0, aI ((p : Nat) : Int), aI (pa w p 2), aU, aU]) rfl ?_
      refine r_aldR cd_175_18 rfl rfl ?_
      refine r_get cd_175_19 rfl h0 rfl ?_
      refine r_get cd_175_22 rfl o0 rfl ?_
      refine r_get cd_175_25 rfl o10 rfl ?_
      refine r_ild cd_175_28 rfl rfl ?_
      refine r_arr (i := p) cd_175_29 rfl o16 rfl (by omega) rfl ?_
      rw [a12 (p) (by omega), hc]
      refine r_ist cd_175_30 rfl rfl (L' := [aR 0, aI ((p : Nat) : Int), aI (pa w p 2), aI (-1), aU]) rfl ?_
      refine r_aldR cd_175_31 rfl rfl ?_
      refine r_get cd_175_32 rfl h0 rfl ?_
      refine r_aldR cd_175_35 rfl rfl ?_
      refine r_get cd_175_36 rfl h0 rfl ?_
      refine r_cV c1 cd_175_39 rfl rfl rfl (rc0 o9 rfl) rfl rfl rfl ?_
      refine r_con (v := 0) cd_175_42 rfl (by decide) ?_
      refine r_ist cd_175_43 rfl rfl (L' := [aR 0, aI ((p : Nat) : Int), aI (pa w p 2), aI (-1), aI 0]) rfl ?_
      refine r_ild cd_175_45 rfl rfl ?_
      refine r_con (v := 48) cd_175_47 rfl (by decide) ?_
      refine r_ic65 cd_175_49 rfl ⟨by omega, by omega⟩ ⟨by omega, by omega⟩ (fun n1 => ?_) (fun n1 => ?_)
      · exact absurd n1 (by decide)
      · refine r_aldR cd_175_52 rfl rfl ?_
        refine r_get cd_175_53 rfl k1 rfl ?_
        refine r_ild cd_175_56 rfl rfl ?_
        refine r_cI (k_88 R1 hI p (by omega)) cd_175_57 rfl rfl rfl (rc0 p0 rfl) rfl rfl rfl ?_
        refine r_ild cd_175_60 rfl rfl ?_
        refine r_ic62 cd_175_61 rfl (inR_of (plOf_b hI (p := p) (by omega)) (by decide) (by decide)) hgl (fun n2 => ?_) (fun n2 => ?_)
        · refine r_ild cd_175_64 rfl rfl ?_
          exact r_ret cd_175_66 True.intro (rfl)
        · exact absurd e2 n2
    · have hd : destN w p = -1 := by
        unfold destN
        by_cases e : pa w p 4 = 2
        · rw [if_pos e]
        · rw [if_neg e, if_neg (dest_no hI (by omega) e1 e2)]
      rw [hd]
      refine ⟨h1, Ct.of [aR 0, aI ((p : Nat) : Int), aU, aU, aU] rfl ?_, C3, F4⟩
      refine r_aldR cd_175_0 rfl rfl ?_
      refine r_ild cd_175_1 rfl rfl ?_
      refine r_dV (k1 := 1) (k2 := 6) (kc' := 1) (ks' := 6) (x_139 C hI ((p : Nat) : Int) ⟨by omega, by omega⟩ g0) cd_175_2 rfl rfl rfl (rc0 h0 rfl) rfl rfl rfl rfl (Nat.le_of_ble_eq_true rfl) (Nat.le_of_ble_eq_true rfl) rfl ?_
      refine r_aldR cd_175_5 rfl rfl ?_
      refine r_get cd_175_6 rfl h0 rfl ?_
      refine r_get cd_175_9 rfl o0 rfl ?_
      refine r_get cd_175_12 rfl o10 rfl ?_
      refine r_ild cd_175_15 rfl rfl ?_
      refine r_arr (i := p) cd_175_16 rfl o13 rfl (by omega) rfl ?_
      rw [a9 (p) (by omega)]
      refine r_ist cd_175_17 rfl rfl (L' := [aR 0, aI ((p : Nat) : Int), aI (pa w p 2), aU, aU]) rfl ?_
      refine r_aldR cd_175_18 rfl rfl ?_
      refine r_get cd_175_19 rfl h0 rfl ?_
      refine r_get cd_175_22 rfl o0 rfl ?_
      refine r_get cd_175_25 rfl o10 rfl ?_
      refine r_ild cd_175_28 rfl rfl ?_
      refine r_arr (i := p) cd_175_29 rfl o16 rfl (by omega) rfl ?_
      rw [a12 (p) (by omega), hc]
      refine r_ist cd_175_30 rfl rfl (L' := [aR 0, aI ((p : Nat) : Int), aI (pa w p 2), aI (-1), aU]) rfl ?_
      refine r_aldR cd_175_31 rfl rfl ?_
      refine r_get cd_175_32 rfl h0 rfl ?_
      refine r_aldR cd_175_35 rfl rfl ?_
      refine r_get cd_175_36 rfl h0 rfl ?_
      refine r_cV c1 cd_175_39 rfl rfl rfl (rc0 o9 rfl) rfl rfl rfl ?_
      refine r_con (v := 0) cd_175_42 rfl (by decide) ?_
      refine r_ist cd_175_43 rfl rfl (L' := [aR 0, aI ((p : Nat) : Int), aI (pa w p 2), aI (-1), aI 0]) rfl ?_
      refine r_ild cd_175_45 rfl rfl ?_
      refine r_con (v := 48) cd_175_47 rfl (by decide) ?_
      refine r_ic65 cd_175_49 rfl ⟨by omega, by omega⟩ ⟨by omega, by omega⟩ (fun n1 => ?_) (fun n1 => ?_)
      · exact absurd n1 (by decide)
      · refine r_aldR cd_175_52 rfl rfl ?_
        refine r_get cd_175_53 rfl k1 rfl ?_
        refine r_ild cd_175_56 rfl rfl ?_
        refine r_cI (k_88 R1 hI p (by omega)) cd_175_57 rfl rfl rfl (rc0 p0 rfl) rfl rfl rfl ?_
        refine r_ild cd_175_60 rfl rfl ?_
        refine r_ic62 cd_175_61 rfl (inR_of (plOf_b hI (p := p) (by omega)) (by decide) (by decide)) hgl (fun n2 => ?_) (fun n2 => ?_)
        · exact absurd n2 e2
        · refine r_aldR cd_175_67 rfl rfl ?_
          refine r_get cd_175_68 rfl k1 rfl ?_
          refine r_get cd_175_71 rfl p0 rfl ?_
          refine r_ild cd_175_74 rfl rfl ?_
          refine r_cI (k_3 R1 hI (-1) ⟨by decide, by decide⟩) cd_175_75 rfl rfl rfl (rc0 p5 rfl) rfl rfl rfl ?_
          refine r_if52b cd_175_78 rfl (fun n3 => ?_) (fun n3 => ?_)
          · refine r_con (v := (-1)) cd_175_81 rfl (by decide) ?_
            exact r_ret cd_175_82 True.intro (rfl)
          · exact Bool.noConfusion (n3.symm.trans gm)
end PRED
