/-! THE LAW: the changes that it makes; winds (written by wip/p66/gen85.py) -/
theorem Gd.lo {k : Nat} {w u : Nat → Int} (G : Gd k w) (i : Inv u) (a : Ac u) (e : ∀ j, j = 5 ∨ j = 6 ∨ j = 7 → u j = w j) : Gd (k + 1) u := by
  have e5 := e 5 (by omega)
  have e6 := e 6 (by omega)
  have e7 := e 7 (by omega)
  exact G.up i a ⟨by omega, by omega⟩ (by omega) (by omega)
theorem Gd.le {k k' : Nat} {w : Nat → Int} (G : Gd k w) (h : k ≤ k') : Gd k' w := by
  obtain ⟨h1, h2, h3, h4, h5⟩ := G
  exact ⟨h1, h2, ⟨h3.1, by omega⟩, h4, h5⟩
theorem fr1_ok {w : Nat → Int} (hI : Inv0 w) {b : Nat} (hb : b < nB w) : Inv0 (fr1 w b) ∧ b < nB (fr1 w b) := by
  have hl := (hI.bs b hb).2.1
  have h3 := hI.setB (k := 3) (v := 0) hb (by omega) (by omega) (by omega) (by omega) (by omega)
  have el : bo (sbo w b 3 0) b 1 = bo w b 1 := by rw [sbo_bo (by omega) (by omega), if_neg (by omega)]
  have hm : 0 ≤ minI 2 (bo (sbo w b 3 0) b 1 - 1) ∧ minI 2 (bo (sbo w b 3 0) b 1 - 1) < bo (sbo w b 3 0) b 1 := by rw [el]; unfold minI; split <;> omega
  have hb3 : b < nB (sbo w b 3 0) := by rw [sbo_bN]; exact hb
  refine ⟨los_inv h3 hb3 hm.1 hm.2, ?_⟩
  show b < nB (losW _ _ _)
  rw [los_bN]
  exact hb3
theorem free_lo {w : Nat → Int} (hI : Inv0 w) {b : Nat} (hb : b < nB w) {j : Nat} (hj : j < 83) (hn : ¬ j = 10) : freeW w b j = w j := by
  obtain ⟨h1, h2⟩ := fr1_ok hI hb
  show relW (fr1 w b) b j = w j
  rw [rel_lo h1 h2 (by omega)]
  show losW _ _ _ j = w j
  rw [los_lo hj hn, sbo_lo hj]
theorem paid_b {w : Nat → Int} (hI : Inv0 w) {p : Nat} (hp : p < nP w) : 0 ≤ paid w p ∧ paid w p ≤ 300 := by
  have h := hI.ps p hp
  have h0 := hI.len
  have ha : 0 ≤ absI (pa w p 1 - pa w p 2) ∧ absI (pa w p 1 - pa w p 2) ≤ 30 := by unfold absI; split <;> omega
  have h1 : 0 ≤ fareP w p := Int.mul_nonneg (by omega) ha.1
  have h2 : fareP w p ≤ 9 * 30 := Int.mul_le_mul (by omega) ha.2 ha.1 (by omega)
  unfold paid
  split <;> omega
theorem and_lim (x : Int) {m : Nat} (hm : m < 2147483648) : 0 ≤ andI x (m : Int) ∧ andI x (m : Int) ≤ (m : Int) := by
  have e : andI x (m : Int) = ((i32 x).toBitVec &&& (i32 (m : Int)).toBitVec).toInt := rfl
  have h1 : ((i32 x).toBitVec &&& (i32 (m : Int)).toBitVec).toNat ≤ m := by
    rw [BitVec.toNat_and, i32_nn (v := (m : Int)) (by omega) (by omega), Int.toNat_natCast]
    exact Nat.and_le_right
  rw [e, bv_nn rfl (by omega)]
  omega
theorem and_nn (x : Int) (m : Nat) (hm : m < 2147483648) : ∃ n : Nat, n ≤ m ∧ andI x (m : Int) = (n : Int) := by
  have h := and_lim x hm
  exact ⟨(andI x (m : Int)).toNat, by omega, by omega⟩
theorem pus_le {w : Nat → Int} {ps : List (Nat → Int)} (h : ps.length ≤ 8) : (pus w ps).length ≤ 8 := by
  rw [pus_len h]
  split <;> omega
section CHG
variable {h : aH} {w : Nat → Int} {ps : List (Nat → Int)} {kp : Option (Nat → Int)} {T : Nat} {bu : Nat → Int} {ek eo : Int} {rl : Nat} {rp : Nat → Int} {k : Nat}
theorem ch_130 (C : CR h w ps kp T bu ek eo rl rp) (G : Gd k w) (hl : ps.length ≤ 8) (x : Nat) (hx : ((x : Nat) : Int) < w 0) (v0 : Int) (hv : 0 ≤ v0 ∧ v0 ≤ 9) : ∃ h' v, Ct 7 130 [aR 0, aI ((x : Nat) : Int), aI v0] h (.inl (some (aI (v))), h') ∧ CR h' (va_up w (23 + x) v0) (pus w ps) kp T bu ek eo rl rp ∧ Fc h h' ∧ Gd (k + 1) (va_up w (23 + x) v0) := by
  have hI := G.1.1
  have hR : Rp h 1 w := C.2.1
  have hbn := hI.bNe
  have hpn := hI.pNe
  have x0 := hI.len
  have x1 := hI.hour
  have x2 := hI.gas
  have x5 := hI.bn
  have x6 := hI.pn
  have x4 := hI.gn
  obtain ⟨h1, c1, C1, F1⟩ := x_130 C hI hl ((x : Nat) : Int) ⟨by omega, by omega⟩ v0 ⟨by omega, by omega⟩ (isPl_iff.mpr ⟨by omega, by omega⟩) (inB_iff.mpr ⟨by omega, by omega⟩) (k_76_0 hR hI _ _ _) (fun h1 R => v_84_0 R hI x (by omega) v0 0 0)
  refine ⟨h1, _, c1, C1, F1, ?_⟩
  refine G.lo (InvM.setS G.1 (by omega) (by omega) (by omega) (by omega) (by omega) (by omega) (by omega)) (G.2.1.low (by omega) (by omega) (by omega) (by omega)) fun j hj => ?_
  exact vu_ne (by omega)
theorem ch_133 (C : CR h w ps kp T bu ek eo rl rp) (G : Gd k w) (hl : ps.length ≤ 8) (x : Nat) (hx : ((x : Nat) : Int) < w 0) (v0 : Int) (hv : 0 ≤ v0 ∧ v0 ≤ 9) : ∃ h' v, Ct 7 133 [aR 0, aI ((x : Nat) : Int), aI v0] h (.inl (some (aI (v))), h') ∧ CR h' (va_up w (53 + x) v0) (pus w ps) kp T bu ek eo rl rp ∧ Fc h h' ∧ Gd (k + 1) (va_up w (53 + x) v0) := by
  have hI := G.1.1
  have hR : Rp h 1 w := C.2.1
  have hbn := hI.bNe
  have hpn := hI.pNe
  have x0 := hI.len
  have x1 := hI.hour
  have x2 := hI.gas
  have x5 := hI.bn
  have x6 := hI.pn
  have x4 := hI.gn
  obtain ⟨h1, c1, C1, F1⟩ := x_133 C hI hl ((x : Nat) : Int) ⟨by omega, by omega⟩ v0 ⟨by omega, by omega⟩ (isPl_iff.mpr ⟨by omega, by omega⟩) (inB_iff.mpr ⟨by omega, by omega⟩) (k_76_1 hR hI _ _ _) (fun h1 R => v_84_1 R hI x (by omega) v0 0 0)
  refine ⟨h1, _, c1, C1, F1, ?_⟩
  refine G.lo (InvM.setS G.1 (by omega) (by omega) (by omega) (by omega) (by omega) (by omega) (by omega)) (G.2.1.low (by omega) (by omega) (by omega) (by omega)) fun j hj => ?_
  exact vu_ne (by omega)
theorem ch_134 (C : CR h w ps kp T bu ek eo rl rp) (G : Gd k w) (hl : ps.length ≤ 8) (g : Int) (hg : -3 ≤ g ∧ g ≤ 3) (h4 : w 4 < 12) : ∃ h' v, Ct 7 134 [aR 0, aI g] h (.inl (some (aI (v))), h') ∧ CR h' (blowW w g) (pus w ps) kp T bu ek eo rl rp ∧ Fc h h' ∧ Gd (k + 1) (blowW w g) := by
  have hI := G.1.1
  have hR : Rp h 1 w := C.2.1
  have hbn := hI.bNe
  have hpn := hI.pNe
  have x0 := hI.len
  have x1 := hI.hour
  have x2 := hI.gas
  have x5 := hI.bn
  have x6 := hI.pn
  have x4 := hI.gn
  obtain ⟨h1, c1, C1, F1⟩ := x_134 C hI hl g ⟨by omega, by omega⟩ (inB_iff.mpr ⟨by omega, by omega⟩) ((k_76_2 hR hI _ _ _).eq (by simp [show ¬ w 4 = 12 by omega])) (fun h1 R => v_84_2 R hI g h4 0 0 0)
  refine ⟨h1, _, c1, C1, F1, ?_⟩
  refine G.lo (InvM.blow G.1 h4 hg.1 hg.2) (Ac.blow hI G.2.1) fun j hj => ?_
  unfold blowW; rw [vu_ne (by omega), vu_ne (by omega)]
theorem ch_135 (C : CR h w ps kp T bu ek eo rl rp) (G : Gd k w) (hl : ps.length ≤ 8) (v0 : Int) (hv : 1 ≤ v0 ∧ v0 ≤ 9) : ∃ h' v, Ct 7 135 [aR 0, aI v0] h (.inl (some (aI (v))), h') ∧ CR h' (va_up w 3 v0) (pus w ps) kp T bu ek eo rl rp ∧ Fc h h' ∧ Gd (k + 1) (va_up w 3 v0) := by
  have hI := G.1.1
  have hR : Rp h 1 w := C.2.1
  have hbn := hI.bNe
  have hpn := hI.pNe
  have x0 := hI.len
  have x1 := hI.hour
  have x2 := hI.gas
  have x5 := hI.bn
  have x6 := hI.pn
  have x4 := hI.gn
  obtain ⟨h1, c1, C1, F1⟩ := x_135 C hI hl v0 ⟨by omega, by omega⟩ (inB_iff.mpr ⟨by omega, by omega⟩) (k_76_3 hR hI _ _ _) (fun h1 R => v_84_3 R hI v0 0 0 0)
  refine ⟨h1, _, c1, C1, F1, ?_⟩
  refine G.lo (InvM.setS G.1 (by omega) (by omega) (by omega) (by omega) (by omega) (by omega) (by omega)) (G.2.1.low (by omega) (by omega) (by omega) (by omega)) fun j hj => ?_
  exact vu_ne (by omega)
theorem ch_136 (C : CR h w ps kp T bu ek eo rl rp) (G : Gd k w) (hl : ps.length ≤ 8) (x l t : Int) (hx : 0 ≤ x ∧ x < w 0) (hl1 : 1 ≤ l ∧ l ≤ 30) (ht : 1 ≤ t ∧ t ≤ 9) (h5 : w 5 < 8) : ∃ h' v, Ct 7 136 [aR 0, aI x, aI l, aI t] h (.inl (some (aI (v))), h') ∧ CR h' (brinW w x l t) (pus w ps) kp T bu ek eo rl rp ∧ Fc h h' ∧ Gd (k + 1) (brinW w x l t) := by
  have hI := G.1.1
  have hR : Rp h 1 w := C.2.1
  have hbn := hI.bNe
  have hpn := hI.pNe
  have x0 := hI.len
  have x1 := hI.hour
  have x2 := hI.gas
  have x5 := hI.bn
  have x6 := hI.pn
  have x4 := hI.gn
  obtain ⟨h1, c1, C1, F1⟩ := x_136 C hI hl x ⟨by omega, by omega⟩ l ⟨by omega, by omega⟩ t ⟨by omega, by omega⟩ (isPl_iff.mpr ⟨by omega, by omega⟩) (inB_iff.mpr ⟨by omega, by omega⟩) (inB_iff.mpr ⟨by omega, by omega⟩) ((k_76_4 hR hI _ _ _).eq (by simp [show ¬ w 5 = 8 by omega])) (fun h1 R => v_84_4 R hI x l t h5 0)
  refine ⟨h1, _, c1, C1, F1, ?_⟩
  have e : ∀ j, j < 83 → ¬ j = 5 → ¬ j = 9 → brinW w x l t j = w j := fun j hj h5 h9 => by unfold brinW; rw [vu_ne h9, br1_lo hj h5]
  have e5 : brinW w x l t 5 = w 5 + 1 := by unfold brinW; rw [vu_ne (by omega), br1_5]
  have e6 := e 6 (by omega) (by omega) (by omega)
  have e7 := e 7 (by omega) (by omega) (by omega)
  exact G.up (InvM.brin G.1 h5 hx hl1 ht) (Ac.brin hI G.2.1 h5) ⟨by omega, by omega⟩ (by omega) (by omega)
theorem ch_137 (C : CR h w ps kp T bu ek eo rl rp) (G : Gd k w) (hl : ps.length ≤ 8) (g x z n : Int) (hg : 1 ≤ g ∧ g ≤ 9) (hx : 0 ≤ x ∧ x < w 0) (hz : 0 ≤ z ∧ z < w 0) (hn : 0 ≤ n ∧ n ≤ 99) (hne : ¬ x = z) (h6 : w 6 < 16) (hq : numbd w n = -1) : ∃ h' v, Ct 7 137 [aR 0, aI g, aI x, aI z, aI n] h (.inl (some (aI (v))), h') ∧ CR h' (postW w g x z n) (pus w ps) kp T bu ek eo rl rp ∧ Fc h h' ∧ Gd (k + 1) (postW w g x z n) := by
  have hI := G.1.1
  have hR : Rp h 1 w := C.2.1
  have hbn := hI.bNe
  have hpn := hI.pNe
  have x0 := hI.len
  have x1 := hI.hour
  have x2 := hI.gas
  have x5 := hI.bn
  have x6 := hI.pn
  have x4 := hI.gn
  obtain ⟨h1, c1, C1, F1⟩ := x_137 C hI hl g ⟨by omega, by omega⟩ x ⟨by omega, by omega⟩ z ⟨by omega, by omega⟩ n ⟨by omega, by omega⟩ (isPl_iff.mpr ⟨by omega, by omega⟩) (isPl_iff.mpr ⟨by omega, by omega⟩) (inB_iff.mpr ⟨by omega, by omega⟩) (inB_iff.mpr ⟨by omega, by omega⟩) hne ((k_76_5 hR hI _ _ _ ⟨by omega, by omega⟩).eq (by simp [h6, hq])) (fun h1 R => v_84_5 R hI g x z n h6)
  refine ⟨h1, _, c1, C1, F1, ?_⟩
  have e : ∀ j, j < 115 → ¬ j = 6 → postW w g x z n j = w j := fun j hj hn => by unfold postW; rw [vu_ne hn, po1_lo hj]
  have e6 : postW w g x z n 6 = w 6 + 1 := by unfold postW; rw [vu_at, po1_lo (by omega)]
  have e5 := e 5 (by omega) (by omega)
  have e7 := e 7 (by omega) (by omega)
  exact G.up (InvM.post G.1 h6 hg hx hz hn hq) (Ac.post hI G.2.1) ⟨by omega, by omega⟩ (by omega) (by omega)
theorem ch_138 (C : CR h w ps kp T bu ek eo rl rp) (G : Gd k w) (hl : ps.length ≤ 8) (p b : Nat) (hp : p < nP w) (hb : b < nB w) (hq : whyT w p b = 0) : ∃ h' v, Ct 7 138 [aR 0, aI ((p : Nat) : Int), aI ((b : Nat) : Int)] h (.inl (some (aI (v))), h') ∧ CR h' (putP w p 1 ((b : Nat) : Int)) (pus w ps) kp T bu ek eo rl rp ∧ Fc h h' ∧ Gd (k + 1) (putP w p 1 ((b : Nat) : Int)) := by
  have hI := G.1.1
  have hR : Rp h 1 w := C.2.1
  have hbn := hI.bNe
  have hpn := hI.pNe
  have x0 := hI.len
  have x1 := hI.hour
  have x2 := hI.gas
  have x5 := hI.bn
  have x6 := hI.pn
  have x4 := hI.gn
  obtain ⟨h1, c1, C1, F1⟩ := x_138 C hI hl ((p : Nat) : Int) ⟨by omega, by omega⟩ ((b : Nat) : Int) ⟨by omega, by omega⟩ (isPa_iff.mpr ⟨by omega, by omega⟩) (isBa_iff.mpr ⟨by omega, by omega⟩) ((k_76_6 hR hI _ p hp b hb (G.1.2.2 b hb).2).eq (by simp [hq])) (fun h1 R => v_84_6 R hI p b hp hb (tie_n2 hq) 0 0)
  refine ⟨h1, _, c1, C1, F1, ?_⟩
  refine G.lo (InvM.tie G.1 hp hb hq) (Ac.put hI G.2.1) fun j hj => ?_
  exact put_lo (by omega)
theorem ch_141 (C : CR h w ps kp T bu ek eo rl rp) (G : Gd k w) (hl : ps.length ≤ 8) (p : Nat) (hp : p < nP w) (hq : canU w p = true) : ∃ h' v, Ct 7 141 [aR 0, aI ((p : Nat) : Int)] h (.inl (some (aI (v))), h') ∧ CR h' (untW w p) (pus w ps) kp T bu ek eo rl rp ∧ Fc h h' ∧ Gd (k + 1) (untW w p) := by
  have hI := G.1.1
  have hR : Rp h 1 w := C.2.1
  have hbn := hI.bNe
  have hpn := hI.pNe
  have x0 := hI.len
  have x1 := hI.hour
  have x2 := hI.gas
  have x5 := hI.bn
  have x6 := hI.pn
  have x4 := hI.gn
  obtain ⟨h1, c1, C1, F1⟩ := x_141 C hI hl ((p : Nat) : Int) ⟨by omega, by omega⟩ (isPa_iff.mpr ⟨by omega, by omega⟩) ((k_76_7 hR hI _ _ p hp).eq (by simp [hq])) (fun h1 R => v_84_7 R hI p hp (canU_iff.mp hq).1 0 0 0)
  refine ⟨h1, _, c1, C1, F1, ?_⟩
  have hc := canU_iff.mp hq
  have h9 := (hI.ps p hp).2.2.2.2
  refine G.lo (InvM.unt G.1 (q := p) (b := (pa w p 5).toNat) hp (by omega) (tied_iff.mpr ⟨hc.1, by omega⟩)) (Ac.put hI G.2.1) fun j hj => ?_
  exact put_lo (by omega)
theorem ch_142 (C : CR h w ps kp T bu ek eo rl rp) (G : Gd k w) (hl : ps.length ≤ 8) (b : Nat) (hb : b < nB w) (hq : whyL w b = 0) : ∃ h' v, Ct 7 142 [aR 0, aI ((b : Nat) : Int)] h (.inl (some (aI (v))), h') ∧ CR h' (sbo w b 3 1) (pus w ps) kp T bu ek eo rl rp ∧ Fc h h' ∧ Gd (k + 1) (sbo w b 3 1) := by
  have hI := G.1.1
  have hR : Rp h 1 w := C.2.1
  have hbn := hI.bNe
  have hpn := hI.pNe
  have x0 := hI.len
  have x1 := hI.hour
  have x2 := hI.gas
  have x5 := hI.bn
  have x6 := hI.pn
  have x4 := hI.gn
  obtain ⟨h1, c1, C1, F1⟩ := x_142 C hI hl ((b : Nat) : Int) ⟨by omega, by omega⟩ (isBa_iff.mpr ⟨by omega, by omega⟩) ((k_76_8 hR hI _ _ b hb).eq (by simp [hq])) (fun h1 R => v_84_8 R hI b hb 0 0 0)
  refine ⟨h1, _, c1, C1, F1, ?_⟩
  refine G.lo (InvM.how G.1 hb (by decide) (by decide)) (G.2.1.sb (by decide) (by decide)) fun j hj => ?_
  exact sbo_lo (by omega)
theorem ch_143 (C : CR h w ps kp T bu ek eo rl rp) (G : Gd k w) (hl : ps.length ≤ 8) (b : Nat) (hb : b < nB w) (hq : bo w b 3 = 1) : ∃ h' v, Ct 7 143 [aR 0, aI ((b : Nat) : Int)] h (.inl (some (aI (v))), h') ∧ CR h' (sbo w b 3 0) (pus w ps) kp T bu ek eo rl rp ∧ Fc h h' ∧ Gd (k + 1) (sbo w b 3 0) := by
  have hI := G.1.1
  have hR : Rp h 1 w := C.2.1
  have hbn := hI.bNe
  have hpn := hI.pNe
  have x0 := hI.len
  have x1 := hI.hour
  have x2 := hI.gas
  have x5 := hI.bn
  have x6 := hI.pn
  have x4 := hI.gn
  obtain ⟨h1, c1, C1, F1⟩ := x_143 C hI hl ((b : Nat) : Int) ⟨by omega, by omega⟩ (isBa_iff.mpr ⟨by omega, by omega⟩) ((k_76_9 hR hI _ _ b hb).eq (by simp [hq])) (fun h1 R => v_84_9 R hI b hb 0 0 0)
  refine ⟨h1, _, c1, C1, F1, ?_⟩
  refine G.lo (InvM.how G.1 hb (by decide) (by decide)) (G.2.1.sb (by decide) (by decide)) fun j hj => ?_
  exact sbo_lo (by omega)
theorem ch_144 (C : CR h w ps kp T bu ek eo rl rp) (G : Gd k w) (hl : ps.length ≤ 8) (b : Nat) (hb : b < nB w) (hq : bo w b 3 = 2) : ∃ h' v, Ct 7 144 [aR 0, aI ((b : Nat) : Int)] h (.inl (some (aI (v))), h') ∧ CR h' (freeW w b) (pus w ps) kp T bu ek eo rl rp ∧ Fc h h' ∧ Gd (k + 1) (freeW w b) := by
  have hI := G.1.1
  have hR : Rp h 1 w := C.2.1
  have hbn := hI.bNe
  have hpn := hI.pNe
  have x0 := hI.len
  have x1 := hI.hour
  have x2 := hI.gas
  have x5 := hI.bn
  have x6 := hI.pn
  have x4 := hI.gn
  obtain ⟨h1, c1, C1, F1⟩ := x_144 C hI hl ((b : Nat) : Int) ⟨by omega, by omega⟩ (isBa_iff.mpr ⟨by omega, by omega⟩) ((k_76_10 hR hI _ _ b hb).eq (by simp [hq])) (fun h1 R => v_84_10 R hI b hb 0 0 0)
  refine ⟨h1, _, c1, C1, F1, ?_⟩
  refine G.lo (InvM.free G.1 hb) (Ac.free hI G.2.1 hb) fun j hj => ?_
  exact free_lo hI hb (by omega) (by omega)
theorem ch_145 (C : CR h w ps kp T bu ek eo rl rp) (G : Gd k w) (hl : ps.length ≤ 8) (b : Nat) (g : Nat) (hb : b < nB w) (h1 : 1 ≤ g) (h2 : g ≤ 29) (hq : canF w b ((g : Nat) : Int) = true) : ∃ h' v, Ct 7 145 [aR 0, aI ((b : Nat) : Int), aI ((g : Nat) : Int)] h (.inl (some (aI (v))), h') ∧ CR h' (fillW w b ((g : Nat) : Int)) (pus w ps) kp T bu ek eo rl rp ∧ Fc h h' ∧ Gd (k + 1) (fillW w b ((g : Nat) : Int)) := by
  have hI := G.1.1
  have hR : Rp h 1 w := C.2.1
  have hbn := hI.bNe
  have hpn := hI.pNe
  have x0 := hI.len
  have x1 := hI.hour
  have x2 := hI.gas
  have x5 := hI.bn
  have x6 := hI.pn
  have x4 := hI.gn
  obtain ⟨h1, c1, C1, F1⟩ := x_145 C hI hl ((b : Nat) : Int) ⟨by omega, by omega⟩ ((g : Nat) : Int) ⟨by omega, by omega⟩ (isBa_iff.mpr ⟨by omega, by omega⟩) (inB_iff.mpr ⟨by omega, by omega⟩) ((k_76_11 hR hI _ b hb g h2).eq (by simp [hq])) (fun h1 R => v_84_11 R hI b ((g : Nat) : Int) hb 0 0)
  refine ⟨h1, _, c1, C1, F1, ?_⟩
  refine G.lo (InvM.fil G.1 hb (by omega) hq) (Ac.fil G.2.1 hb) fun j hj => ?_
  unfold fillW fi2 fi1; rw [vu_ne (by omega), vu_ne (by omega), sbo_lo (by omega)]
theorem ch_147 (C : CR h w ps kp T bu ek eo rl rp) (G : Gd k w) (hl : ps.length ≤ 8) (x : Nat) (n : Int) (p : Nat) (hx : ((x : Nat) : Int) < w 0) (hn : 0 ≤ n ∧ n ≤ 99) (hf : foundP w ((x : Nat) : Int) n = ((p : Nat) : Int)) : ∃ h' v, Ct 7 147 [aR 0, aI ((x : Nat) : Int), aI n] h (.inl (some (aI (v))), h') ∧ CR h' (clmW w p) (pus w ps) kp T bu ek eo rl rp ∧ Fc h h' ∧ Gd (k + 1) (clmW w p) := by
  have hI := G.1.1
  have hR : Rp h 1 w := C.2.1
  have hbn := hI.bNe
  have hpn := hI.pNe
  have x0 := hI.len
  have x1 := hI.hour
  have x2 := hI.gas
  have x5 := hI.bn
  have x6 := hI.pn
  have x4 := hI.gn
  obtain ⟨h1, c1, C1, F1⟩ := x_147 C hI hl ((x : Nat) : Int) ⟨by omega, by omega⟩ n ⟨by omega, by omega⟩ (isPl_iff.mpr ⟨by omega, by omega⟩) (by omega) (k_76_13 hR hI _ _ _) (fun h1 R => v_84_13 R hI x (by omega) n ⟨by omega, by omega⟩ p hf 0 0)
  refine ⟨h1, _, c1, C1, F1, ?_⟩
  obtain ⟨f1, f2, -⟩ := found_o hf
  have pb := paid_b hI f1
  have e : ∀ j, j < 7 → clmW w p j = w j := fun j hj => by unfold clmW cl1; rw [vu_ne (by omega), vu_ne (by omega), put_lo (by omega)]
  have e7 : clmW w p 7 = w 7 + paid w p := by unfold clmW cl1; rw [vu_ne (by omega), vu_at, put_lo (by omega)]
  have e5 := e 5 (by omega)
  have e6 := e 6 (by omega)
  exact G.up (InvM.clm G.1 f1 f2) (Ac.clm hI G.2.1) ⟨by omega, by omega⟩ (by omega) (by omega)
theorem ch_148 (C : CR h w ps kp T bu ek eo rl rp) (G : Gd k w) (hl : ps.length ≤ 8) (n : Nat) (h1 : 1 ≤ n) (h2 : n ≤ 24) (hq : w 1 + ((n : Nat) : Int) ≤ 999) : ∃ h', Ct 7 148 [aR 0, aI ((n : Nat) : Int)] h (.inl (some (aI (passW w n 1))), h') ∧ CR h' (passW w n) (pus w ps) kp T bu ek eo rl rp ∧ Fc h h' ∧ Gd (k + 1) (passW w n) := by
  have hI := G.1.1
  have hR : Rp h 1 w := C.2.1
  have hbn := hI.bNe
  have hpn := hI.pNe
  have x0 := hI.len
  have x1 := hI.hour
  have x2 := hI.gas
  have x5 := hI.bn
  have x6 := hI.pn
  have x4 := hI.gn
  obtain ⟨h1, c1, C1, F1⟩ := x_148 C hI hl ((n : Nat) : Int) ⟨by omega, by omega⟩ (inB_iff.mpr ⟨by omega, by omega⟩) ((k_76_14 hR hI _ _ n h2).eq (by simp [show ¬ 999 < w 1 + ((n : Nat) : Int) by omega])) (fun h1 R => v_84_14 R hI n (by omega) 0 0 0)
  refine ⟨h1, c1, C1, F1, ?_⟩
  refine G.lo (InvM.pass G.1 hq (by omega)) (Ac.pass hI G.2.1 (by omega)) fun j hj => ?_
  rw [(pass_inv hI (n := n) (by omega)).2 j (by omega) (by omega), if_neg (by omega)]
end CHG
section WIN
variable {kp : Option (Nat → Int)} {T : Nat} {bu : Nat → Int} {ek eo : Int} {rl : Nat} {rp : Nat → Int}
theorem lw_332 (c : Int) (N : Nat) (hN : N ≤ 7) (e0 : andI c 7 = ((N : Nat) : Int)) : ∀ (m i k : Nat) {h : aH} {w : Nat → Int} {ps : List (Nat → Int)}, CR h w ps kp T bu ek eo rl rp → Gd k w → ps.length ≤ 8 → i + m = N → w 4 + m ≤ 12 → RX 8 332 (fun r => ∃ h' w' ps', r = (.inl none, h') ∧ CR h' w' ps' kp T bu ek eo rl rp ∧ Fc h h' ∧ Gd (k + m) w' ∧ ps'.length ≤ 8) (2, [aR 0, aI c, aI ((i : Nat) : Int)], [], 0, 0, h) := by
  intro m
  induction m with
  | zero =>
    intro i k h w ps C G hl hm h4
    have hI := G.1.1
    obtain ⟨h0, -⟩ := id C
    refine RX.st (fun _ k9 => r_ild cd_332_2 rfl rfl k9) ?_
    refine RX.st (fun _ k9 => r_ild cd_332_3 rfl rfl k9) ?_
    refine RX.st (fun _ k9 => r_con (v := 7) cd_332_4 rfl (by decide) k9) ?_
    refine RX.st (fun _ k9 => r_and cd_332_6 rfl k9) ?_
    rw [e0]
    refine RX.br (fun _ k8 k9 => r_ic64 cd_332_7 rfl ⟨by omega, by omega⟩ ⟨by omega, by omega⟩ k8 k9) (fun n1 => ?_) (fun n1 => ?_)
    · exact absurd n1 (by omega)
    · exact ⟨_, ⟨h, w, ps, rfl, C, Fc.rf, G, hl⟩, r_void cd_332_36 rfl rfl⟩
  | succ m ih =>
    intro i k h w ps C G hl hm h4
    have hI := G.1.1
    obtain ⟨h0, -⟩ := id C
    refine RX.st (fun _ k9 => r_ild cd_332_2 rfl rfl k9) ?_
    refine RX.st (fun _ k9 => r_ild cd_332_3 rfl rfl k9) ?_
    refine RX.st (fun _ k9 => r_con (v := 7) cd_332_4 rfl (by decide) k9) ?_
    refine RX.st (fun _ k9 => r_and cd_332_6 rfl k9) ?_
    rw [e0]
    refine RX.br (fun _ k8 k9 => r_ic64 cd_332_7 rfl ⟨by omega, by omega⟩ ⟨by omega, by omega⟩ k8 k9) (fun n1 => ?_) (fun n1 => ?_)
    · refine RX.st (fun _ k9 => r_aldR cd_332_10 rfl rfl k9) ?_
      refine RX.st (fun _ k9 => r_ild cd_332_11 rfl rfl k9) ?_
      refine RX.st (fun _ k9 => r_con (v := 3) cd_332_12 rfl (by decide) k9) ?_
      refine RX.st (fun _ k9 => r_con (v := 3) cd_332_13 rfl (by decide) k9) ?_
      refine RX.st (fun _ k9 => r_ild cd_332_14 rfl rfl k9) ?_
      refine RX.st (fun _ k9 => r_mul (v := ((3 * i : Nat) : Int)) cd_332_15 rfl (by omega) k9) ?_
      refine RX.st (fun _ k9 => r_add (v := ((3 + 3 * i : Nat) : Int)) cd_332_16 rfl (by omega) k9) ?_
      refine RX.st (fun _ k9 => r_ushr cd_332_17 rfl k9) ?_
      refine RX.st (fun _ k9 => r_con (v := 7) cd_332_18 rfl (by decide) k9) ?_
      obtain ⟨a2, ha2, e2⟩ := and_nn (ushrI c ((3 + 3 * i : Nat) : Int)) 7 (by decide)
      refine RX.st (fun _ k9 => r_and cd_332_20 rfl k9) ?_
      rw [show andI (ushrI c ((3 + 3 * i : Nat) : Int)) 7 = ((a2 : Nat) : Int) from e2]
      refine RX.st (fun _ k9 => r_con (v := 7) cd_332_21 rfl (by decide) k9) ?_
      refine RX.st (fun _ k9 => r_rem cd_332_23 rfl (by omega) (by omega) (by omega) (by omega) k9) ?_
      refine RX.st (fun _ k9 => r_con (v := 3) cd_332_24 rfl (by decide) k9) ?_
      refine RX.st (fun _ k9 => r_sub (v := (((a2 : Nat) : Int) % 7) - 3) cd_332_25 rfl (by rfl) k9) ?_
      obtain ⟨h1, v1, c1, C1, F1, G1⟩ := ch_134 C G hl ((((a2 : Nat) : Int) % 7) - 3) ⟨by omega, by omega⟩ (by omega)
      refine RX.st (fun _ k9 => r_cI c1 cd_332_26 rfl rfl rfl (rc0 h0 rfl) rfl rfl rfl k9) ?_
      refine RX.st (fun _ k9 => r_pop cd_332_29 rfl rfl k9) ?_
      refine RX.st (fun _ k9 => r_inc (v := ((i + 1 : Nat) : Int)) cd_332_30 rfl rfl rfl (by omega) (L' := [aR 0, aI c, aI ((i + 1 : Nat) : Int)]) rfl k9) ?_
      refine RX.st (fun _ k9 => r_goto cd_332_33 k9) ?_
      have e4 : blowW w (((a2 : Nat) : Int) % 7 - 3) 4 = w 4 + 1 := by unfold blowW; rw [vu_at, vu_ne (by omega)]
      obtain ⟨res, ⟨h2, w2, ps2, f1, f2, f3, f4, f5⟩, k9⟩ := ih (i + 1) (k + 1) C1 G1 (pus_le hl) (by omega) (by omega)
      exact ⟨res, ⟨h2, w2, ps2, f1, f2, F1.tr f3, f4.le (by omega), f5⟩, k9⟩
    · exact absurd n1 (by omega)
theorem y_332 {h : aH} {w : Nat → Int} {ps : List (Nat → Int)} {k : Nat} (C : CR h w ps kp T bu ek eo rl rp) (G : Gd k w) (hl : ps.length ≤ 8) (h4 : w 4 ≤ 5) (c : Int) : ∃ h' w' ps', Ct 8 332 [aR 0, aI c] h (.inl none, h') ∧ CR h' w' ps' kp T bu ek eo rl rp ∧ Fc h h' ∧ Gd (k + 7) w' ∧ ps'.length ≤ 8 := by
  obtain ⟨N, hN, e0⟩ := and_nn c 7 (by decide)
  obtain ⟨res, ⟨h2, w2, ps2, f1, f2, f3, f4, f5⟩, k9⟩ := lw_332 c N hN e0 N 0 k C G hl (by omega) (by omega)
  subst f1
  refine ⟨h2, w2, ps2, Ct.of [aR 0, aI c, aU] rfl ?_, f2, f3, f4.le (by omega), f5⟩
  refine r_con (v := 0) cd_332_0 rfl (by decide) ?_
  refine r_ist cd_332_1 rfl rfl (L' := [aR 0, aI c, aI 0]) rfl ?_
  exact k9
end WIN
