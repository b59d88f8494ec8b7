/-! BOTH SIDES in one state; the law's wrappers (written by wip/whole/gen71.py) -/
/-- the reference's cells -/
def MC (h : aH) (s w b0 as P kd bu tx rp nu : Nat → Int) : Prop := h.2.2 226 = .inr (8, Mo s) ∧ h.2.2 227 = .inl (0, 211, .inl w) ∧ h.2.2 228 = .inl (0, 211, .inl b0) ∧ h.2.2 229 = .inl (0, 211, .inl as) ∧ h.2.2 230 = .inl (0, 1688, .inl P) ∧ h.2.2 231 = .inl (0, 211, .inl kd) ∧ h.2.2 232 = .inl (0, 600, .inl bu) ∧ h.2.2 233 = .inl (0, 600, .inl tx) ∧ h.2.2 234 = .inl (2, 30, .inl rp) ∧ h.2.2 235 = .inl (0, 4, .inl nu)
def MS (s P kd tx : Nat → Int) (t : Int) (ps : List (Nat → Int)) (kp : Option (Nat → Int)) (T : Nat) (ek eo : Int) (rl : Nat) : Prop := s 5 = ((ps.length : Nat) : Int) ∧ s 6 = kI kp ∧ s 9 = ((T : Nat) : Int) ∧ s 11 = ek ∧ s 12 = eo ∧ s 14 = ((rl : Nat) : Int) ∧ s 15 = t ∧ TxB tx ∧ (∀ q v, ps[q]? = some v → ∀ j, j < 211 → P (211 * (ps.length - 1 - q) + j) = v j) ∧ ∀ v, kp = some v → ∀ j, j < 211 → kd j = v j
def MR (h : aH) (t : Int) (w : Nat → Int) (ps : List (Nat → Int)) (kp : Option (Nat → Int)) (T : Nat) (bu : Nat → Int) (ek eo : Int) (rl : Nat) (rp : Nat → Int) : Prop := ∃ s b0 as P kd tx nu, MC h s w b0 as P kd bu tx rp nu ∧ MS s P kd tx t ps kp T ek eo rl
def WF (w : Nat → Int) (ps : List (Nat → Int)) (kp : Option (Nat → Int)) (T : Nat) (bu : Nat → Int) (rl : Nat) (rp : Nat → Int) : Prop := IZ w ∧ ps.length ≤ 8 ∧ (∀ v, v ∈ ps → IZ v) ∧ (∀ v, kp = some v → IZ v) ∧ T ≤ 600 ∧ TxB bu ∧ rl ≤ 30 ∧ ∀ k, k < rl → 0 ≤ rp k ∧ rp k < 128
/-- both sides are in one state -/
def JJ (h : aH) (t : Int) (g : Nat → Int64) (w : Nat → Int) (ps : List (Nat → Int)) (kp : Option (Nat → Int)) (T : Nat) (bu : Nat → Int) (ek eo : Int) (rl : Nat) (rp : Nat → Int) : Prop := CR h w ps kp T bu ek eo rl rp ∧ MR h t w ps kp T bu ek eo rl rp ∧ WF w ps kp T bu rl rp ∧ h.2.2 236 = .inl (3, 1, .inr (.inl g))
theorem MC.s {h : aH} {s w b0 as P kd bu tx rp nu s' : Nat → Int} (M : MC h s w b0 as P kd bu tx rp nu) : MC (sw h 226 (.inr (8, Mo s'))) s' w b0 as P kd bu tx rp nu := by
  obtain ⟨-, m2, m3, m4, m5, m6, m7, m8, m9, m10⟩ := M
  exact ⟨sw_at _ _ _, (sw_ne (by decide)).trans m2, (sw_ne (by decide)).trans m3, (sw_ne (by decide)).trans m4, (sw_ne (by decide)).trans m5, (sw_ne (by decide)).trans m6, (sw_ne (by decide)).trans m7, (sw_ne (by decide)).trans m8, (sw_ne (by decide)).trans m9, (sw_ne (by decide)).trans m10⟩
theorem MC.mv {h h' : aH} {s w b0 as P kd bu tx rp nu : Nat → Int} (M : MC h s w b0 as P kd bu tx rp nu) (e : ∀ a, 226 ≤ a → a < 236 → h'.2.2 a = h.2.2 a) : MC h' s w b0 as P kd bu tx rp nu := by
  obtain ⟨m1, m2, m3, m4, m5, m6, m7, m8, m9, m10⟩ := M
  exact ⟨(e _ (by decide) (by decide)).trans m1, (e _ (by decide) (by decide)).trans m2, (e _ (by decide) (by decide)).trans m3, (e _ (by decide) (by decide)).trans m4, (e _ (by decide) (by decide)).trans m5, (e _ (by decide) (by decide)).trans m6, (e _ (by decide) (by decide)).trans m7, (e _ (by decide) (by decide)).trans m8, (e _ (by decide) (by decide)).trans m9, (e _ (by decide) (by decide)).trans m10⟩
theorem MS.t {s P kd tx : Nat → Int} {t c : Int} {ps : List (Nat → Int)} {kp : Option (Nat → Int)} {T : Nat} {ek eo : Int} {rl : Nat} (S : MS s P kd tx t ps kp T ek eo rl) : MS (va_up s 15 c) P kd tx c ps kp T ek eo rl := by
  obtain ⟨a1, a2, a3, a4, a5, a6, -, a8⟩ := S
  exact ⟨a1, a2, a3, a4, a5, a6, vu_at _ _ _, a8⟩
/-- a law's case: both are called, neither throws -/
def AP (Kx yx Km ym : Nat) (as : List aV) (h : aH) : Prop := ∃ (h1 h2 : aH) (v t : Int) (g : Nat → Int64) (w : Nat → Int) (ps : List (Nat → Int)) (kp : Option (Nat → Int)) (T : Nat) (bu : Nat → Int) (ek eo : Int) (rl : Nat) (rp : Nat → Int), Ct Kx yx (aR 0 :: as) h (.inl (some (aI v)), h1) ∧ (∃ s, h1.2.2 226 = .inr (8, Mo s)) ∧ Ct Km ym (aR 226 :: as) h1 (.inl (some (aI v)), h2) ∧ JJ h2 t g w ps kp T bu ek eo rl rp ∧ h2.1 = h.1 ∧ h1.1 = h.1
/-- a law's case: the class is called through a wrapper, which hands back what was thrown -/
def BP (Kw yw Km ym : Nat) (as : List aV) (h : aH) : Prop := ∃ (h1 h2 : aH) (c b : Int) (g : Nat → Int64) (w : Nat → Int) (ps : List (Nat → Int)) (kp : Option (Nat → Int)) (T : Nat) (bu : Nat → Int) (ek eo : Int) (rl : Nat) (rp : Nat → Int), Ct Kw yw (aR 0 :: (as ++ [aR 236])) h (.inl (some (aI c)), h1) ∧ (∃ s, h1.2.2 226 = .inr (8, Mo s)) ∧ Ct Km ym (aR 226 :: as) h1 (.inl (some (aI b)), h2) ∧ JJ h2 c g w ps kp T bu ek eo rl rp ∧ (c = 0 → g 0 = (i32 b).toInt64) ∧ h2.1 = h.1 ∧ 0 ≤ c ∧ c ≤ 3 ∧ h1.1 = h.1
/-- the law's own cell -/
abbrev lgC (g : Nat → Int64) (v : Int) : aCell := .inl (3, 1, .inr (.inl (va_up g 0 (i32 v).toInt64)))
section FACE
variable {h : aH} {t : Int} {g : Nat → Int64} {w : Nat → Int} {ps : List (Nat → Int)} {kp : Option (Nat → Int)} {T : Nat} {bu : Nat → Int} {ek eo : Int} {rl : Nat} {rp : Nat → Int} {s b0 as P kd tx nu : Nat → Int} {Kw yw Km ym : Nat} {ar : List aV}
theorem BP.bad (C : CR h w ps kp T bu ek eo rl rp) (M : MC h s w b0 as P kd bu tx rp nu) (S : MS s P kd tx t ps kp T ek eo rl) (W : WF w ps kp T bu rl rp) (O : h.2.2 236 = .inl (3, 1, .inr (.inl g))) {c b : Int} (hw : Ct Kw yw (aR 0 :: (ar ++ [aR 236])) h (.inl (some (aI c)), h)) (hr : Ct Km ym (aR 226 :: ar) h (.inl (some (aI b)), sw h 226 (.inr (8, Mo (va_up s 15 c))))) (h1 : 1 ≤ c) (h2 : c ≤ 3) : BP Kw yw Km ym ar h :=
  ⟨h, _, c, b, g, w, ps, kp, T, bu, ek, eo, rl, rp, hw, ⟨s, M.1⟩, hr, ⟨C.mv fun a ha => sw_ne (by omega), ⟨va_up s 15 c, b0, as, P, kd, tx, nu, M.s, S.t⟩, W, (sw_ne (by decide)).trans O⟩, fun e => by omega, rfl, by omega, h2, rfl⟩
theorem BP.ok (C : CR h w ps kp T bu ek eo rl rp) (M : MC h s w b0 as P kd bu tx rp nu) (S : MS s P kd tx t ps kp T ek eo rl) (W : WF w ps kp T bu rl rp) {v : Int} (hw : Ct Kw yw (aR 0 :: (ar ++ [aR 236])) h (.inl (some (aI 0)), sw h 236 (lgC g v))) (hr : Ct Km ym (aR 226 :: ar) (sw h 236 (lgC g v)) (.inl (some (aI v)), sw (sw h 236 (lgC g v)) 226 (.inr (8, Mo (va_up s 15 0))))) : BP Kw yw Km ym ar h :=
  ⟨_, _, 0, v, va_up g 0 (i32 v).toInt64, w, ps, kp, T, bu, ek, eo, rl, rp, hw, ⟨s, (sw_ne (by decide)).trans M.1⟩, hr, ⟨C.mv fun a ha => (sw_ne (by omega)).trans (sw_ne (by omega)), ⟨va_up s 15 0, b0, as, P, kd, tx, nu, (M.mv fun a h1 h2 => sw_ne (by omega)).s, S.t⟩, W, (sw_ne (by decide)).trans (sw_at _ _ _)⟩, fun _ => vu_at _ _ _, rfl, by decide, by decide, rfl⟩
theorem AP.ok (C : CR h w ps kp T bu ek eo rl rp) (M : MC h s w b0 as P kd bu tx rp nu) (S : MS s P kd tx t ps kp T ek eo rl) (W : WF w ps kp T bu rl rp) (O : h.2.2 236 = .inl (3, 1, .inr (.inl g))) {v : Int} (hw : Ct Kw yw (aR 0 :: ar) h (.inl (some (aI v)), h)) (hr : Ct Km ym (aR 226 :: ar) h (.inl (some (aI v)), sw h 226 (.inr (8, Mo (va_up s 15 0))))) : AP Kw yw Km ym ar h :=
  ⟨h, _, v, 0, g, w, ps, kp, T, bu, ek, eo, rl, rp, hw, ⟨s, M.1⟩, hr, ⟨C.mv fun a ha => sw_ne (by omega), ⟨va_up s 15 0, b0, as, P, kd, tx, nu, M.s, S.t⟩, W, (sw_ne (by decide)).trans O⟩, rfl, rfl⟩
end FACE
theorem w_331 {h h1 : aH} (x0 : Int) {v : Int} {g : Nat → Int64} {fs : List aV} (h0 : h.2.2 0 = .inr (7, fs)) (hC : Ct 2 128 [aR 0, aI x0] h (.inl (some (aI v)), h1)) (hO : h1.2.2 236 = .inl (3, 1, .inr (.inl g))) : Ct 3 331 [aR 0, aI x0, aR 236] h (.inl (some (aI 0)), sw h1 236 (lgC g v)) := by
  refine Ct.of [aR 0, aI x0, aR 236, aU] rfl ?_
  refine r_aldR cd_331_0 rfl rfl ?_
  refine r_con (v := 0) cd_331_1 rfl (by decide) ?_
  refine r_aldR cd_331_2 rfl rfl ?_
  refine r_ild cd_331_3 rfl rfl ?_
  refine r_dI (k1 := 1) (k2 := 6) (kc' := 1) (ks' := 6) hC cd_331_4 rfl rfl rfl (rc0 h0 rfl) rfl rfl rfl rfl (Nat.le_of_ble_eq_true rfl) (Nat.le_of_ble_eq_true rfl) rfl ?_
  refine r_i2l cd_331_7 rfl ?_
  refine r_lst (i := 0) cd_331_8 rfl hO rfl (by omega) rfl ?_
  refine r_goto cd_331_9 ?_
  refine r_con (v := 0) cd_331_15 rfl (by decide) ?_
  exact r_ret cd_331_16 True.intro (rfl)
theorem u_331_1 {h h1 : aH} (x0 : Int) {fs : List aV} (h0 : h.2.2 0 = .inr (7, fs)) (hC : Ct 2 128 [aR 0, aI x0] h (.inr 1, h1)) : Ct 3 331 [aR 0, aI x0, aR 236] h (.inl (some (aI 1)), h1) := by
  refine Ct.of [aR 0, aI x0, aR 236, aU] rfl ?_
  refine r_aldR cd_331_0 rfl rfl ?_
  refine r_con (v := 0) cd_331_1 rfl (by decide) ?_
  refine r_aldR cd_331_2 rfl rfl ?_
  refine r_ild cd_331_3 rfl rfl ?_
  refine r_dH (k1 := 1) (k2 := 6) (kc' := 1) (ks' := 6) (hp9 := 13) (sl := 3) hC cd_331_4 rfl rfl (rc0 h0 rfl) rfl rfl rfl rfl (Nat.le_of_ble_eq_true rfl) (Nat.le_of_ble_eq_true rfl) rfl rfl rfl (L' := [aR 0, aI x0, aR 236, aU]) rfl ?_
  refine r_con (v := 1) cd_331_13 rfl (by decide) ?_
  exact r_ret cd_331_14 True.intro (rfl)
theorem w_332 {h h1 : aH} (x0 x1 : Int) {v : Int} {g : Nat → Int64} {fs : List aV} (h0 : h.2.2 0 = .inr (7, fs)) (hC : Ct 7 130 [aR 0, aI x0, aI x1] h (.inl (some (aI v)), h1)) (hO : h1.2.2 236 = .inl (3, 1, .inr (.inl g))) : Ct 8 332 [aR 0, aI x0, aI x1, aR 236] h (.inl (some (aI 0)), sw h1 236 (lgC g v)) := by
  refine Ct.of [aR 0, aI x0, aI x1, aR 236, aU] rfl ?_
  refine r_aldR cd_332_0 rfl rfl ?_
  refine r_con (v := 0) cd_332_1 rfl (by decide) ?_
  refine r_aldR cd_332_2 rfl rfl ?_
  refine r_ild cd_332_3 rfl rfl ?_
  refine r_ild cd_332_4 rfl rfl ?_
  refine r_dI (k1 := 3) (k2 := 18) (kc' := 3) (ks' := 18) hC cd_332_5 rfl rfl rfl (rc0 h0 rfl) rfl rfl rfl rfl (Nat.le_of_ble_eq_true rfl) (Nat.le_of_ble_eq_true rfl) rfl ?_
  refine r_i2l cd_332_8 rfl ?_
  refine r_lst (i := 0) cd_332_9 rfl hO rfl (by omega) rfl ?_
  refine r_goto cd_332_10 ?_
  refine r_con (v := 0) cd_332_21 rfl (by decide) ?_
  exact r_ret cd_332_22 True.intro (rfl)
theorem u_332_0 {h h1 : aH} (x0 x1 : Int) {fs : List aV} (h0 : h.2.2 0 = .inr (7, fs)) (hC : Ct 7 130 [aR 0, aI x0, aI x1] h (.inr 0, h1)) : Ct 8 332 [aR 0, aI x0, aI x1, aR 236] h (.inl (some (aI 1)), h1) := by
  refine Ct.of [aR 0, aI x0, aI x1, aR 236, aU] rfl ?_
  refine r_aldR cd_332_0 rfl rfl ?_
  refine r_con (v := 0) cd_332_1 rfl (by decide) ?_
  refine r_aldR cd_332_2 rfl rfl ?_
  refine r_ild cd_332_3 rfl rfl ?_
  refine r_ild cd_332_4 rfl rfl ?_
  refine r_dH (k1 := 3) (k2 := 18) (kc' := 3) (ks' := 18) (hp9 := 15) (sl := 4) hC cd_332_5 rfl rfl (rc0 h0 rfl) rfl rfl rfl rfl (Nat.le_of_ble_eq_true rfl) (Nat.le_of_ble_eq_true rfl) rfl rfl rfl (L' := [aR 0, aI x0, aI x1, aR 236, aU]) rfl ?_
  refine r_con (v := 1) cd_332_15 rfl (by decide) ?_
  exact r_ret cd_332_16 True.intro (rfl)
theorem u_332_1 {h h1 : aH} (x0 x1 : Int) {fs : List aV} (h0 : h.2.2 0 = .inr (7, fs)) (hC : Ct 7 130 [aR 0, aI x0, aI x1] h (.inr 1, h1)) : Ct 8 332 [aR 0, aI x0, aI x1, aR 236] h (.inl (some (aI 2)), h1) := by
  refine Ct.of [aR 0, aI x0, aI x1, aR 236, aU] rfl ?_
  refine r_aldR cd_332_0 rfl rfl ?_
  refine r_con (v := 0) cd_332_1 rfl (by decide) ?_
  refine r_aldR cd_332_2 rfl rfl ?_
  refine r_ild cd_332_3 rfl rfl ?_
  refine r_ild cd_332_4 rfl rfl ?_
  refine r_dH (k1 := 3) (k2 := 18) (kc' := 3) (ks' := 18) (hp9 := 19) (sl := 4) hC cd_332_5 rfl rfl (rc0 h0 rfl) rfl rfl rfl rfl (Nat.le_of_ble_eq_true rfl) (Nat.le_of_ble_eq_true rfl) rfl rfl rfl (L' := [aR 0, aI x0, aI x1, aR 236, aU]) rfl ?_
  refine r_con (v := 2) cd_332_19 rfl (by decide) ?_
  exact r_ret cd_332_20 True.intro (rfl)
theorem w_333 {h h1 : aH} (x0 x1 : Int) {v : Int} {g : Nat → Int64} {fs : List aV} (h0 : h.2.2 0 = .inr (7, fs)) (hC : Ct 7 133 [aR 0, aI x0, aI x1] h (.inl (some (aI v)), h1)) (hO : h1.2.2 236 = .inl (3, 1, .inr (.inl g))) : Ct 8 333 [aR 0, aI x0, aI x1, aR 236] h (.inl (some (aI 0)), sw h1 236 (lgC g v)) := by
  refine Ct.of [aR 0, aI x0, aI x1, aR 236, aU] rfl ?_
  refine r_aldR cd_333_0 rfl rfl ?_
  refine r_con (v := 0) cd_333_1 rfl (by decide) ?_
  refine r_aldR cd_333_2 rfl rfl ?_
  refine r_ild cd_333_3 rfl rfl ?_
  refine r_ild cd_333_4 rfl rfl ?_
  refine r_dI (k1 := 3) (k2 := 18) (kc' := 3) (ks' := 18) hC cd_333_5 rfl rfl rfl (rc0 h0 rfl) rfl rfl rfl rfl (Nat.le_of_ble_eq_true rfl) (Nat.le_of_ble_eq_true rfl) rfl ?_
  refine r_i2l cd_333_8 rfl ?_
  refine r_lst (i := 0) cd_333_9 rfl hO rfl (by omega) rfl ?_
  refine r_goto cd_333_10 ?_
  refine r_con (v := 0) cd_333_21 rfl (by decide) ?_
  exact r_ret cd_333_22 True.intro (rfl)
theorem u_333_0 {h h1 : aH} (x0 x1 : Int) {fs : List aV} (h0 : h.2.2 0 = .inr (7, fs)) (hC : Ct 7 133 [aR 0, aI x0, aI x1] h (.inr 0, h1)) : Ct 8 333 [aR 0, aI x0, aI x1, aR 236] h (.inl (some (aI 1)), h1) := by
  refine Ct.of [aR 0, aI x0, aI x1, aR 236, aU] rfl ?_
  refine r_aldR cd_333_0 rfl rfl ?_
  refine r_con (v := 0) cd_333_1 rfl (by decide) ?_
  refine r_aldR cd_333_2 rfl rfl ?_
  refine r_ild cd_333_3 rfl rfl ?_
  refine r_ild cd_333_4 rfl rfl ?_
  refine r_dH (k1 := 3) (k2 := 18) (kc' := 3) (ks' := 18) (hp9 := 15) (sl := 4) hC cd_333_5 rfl rfl (rc0 h0 rfl) rfl rfl rfl rfl (Nat.le_of_ble_eq_true rfl) (Nat.le_of_ble_eq_true rfl) rfl rfl rfl (L' := [aR 0, aI x0, aI x1, aR 236, aU]) rfl ?_
  refine r_con (v := 1) cd_333_15 rfl (by decide) ?_
  exact r_ret cd_333_16 True.intro (rfl)
theorem u_333_1 {h h1 : aH} (x0 x1 : Int) {fs : List aV} (h0 : h.2.2 0 = .inr (7, fs)) (hC : Ct 7 133 [aR 0, aI x0, aI x1] h (.inr 1, h1)) : Ct 8 333 [aR 0, aI x0, aI x1, aR 236] h (.inl (some (aI 2)), h1) := by
  refine Ct.of [aR 0, aI x0, aI x1, aR 236, aU] rfl ?_
  refine r_aldR cd_333_0 rfl rfl ?_
  refine r_con (v := 0) cd_333_1 rfl (by decide) ?_
  refine r_aldR cd_333_2 rfl rfl ?_
  refine r_ild cd_333_3 rfl rfl ?_
  refine r_ild cd_333_4 rfl rfl ?_
  refine r_dH (k1 := 3) (k2 := 18) (kc' := 3) (ks' := 18) (hp9 := 19) (sl := 4) hC cd_333_5 rfl rfl (rc0 h0 rfl) rfl rfl rfl rfl (Nat.le_of_ble_eq_true rfl) (Nat.le_of_ble_eq_true rfl) rfl rfl rfl (L' := [aR 0, aI x0, aI x1, aR 236, aU]) rfl ?_
  refine r_con (v := 2) cd_333_19 rfl (by decide) ?_
  exact r_ret cd_333_20 True.intro (rfl)
theorem w_334 {h h1 : aH} (x0 : Int) {v : Int} {g : Nat → Int64} {fs : List aV} (h0 : h.2.2 0 = .inr (7, fs)) (hC : Ct 7 134 [aR 0, aI x0] h (.inl (some (aI v)), h1)) (hO : h1.2.2 236 = .inl (3, 1, .inr (.inl g))) : Ct 8 334 [aR 0, aI x0, aR 236] h (.inl (some (aI 0)), sw h1 236 (lgC g v)) := by
  refine Ct.of [aR 0, aI x0, aR 236, aU] rfl ?_
  refine r_aldR cd_334_0 rfl rfl ?_
  refine r_con (v := 0) cd_334_1 rfl (by decide) ?_
  refine r_aldR cd_334_2 rfl rfl ?_
  refine r_ild cd_334_3 rfl rfl ?_
  refine r_dI (k1 := 2) (k2 := 12) (kc' := 2) (ks' := 12) hC cd_334_4 rfl rfl rfl (rc0 h0 rfl) rfl rfl rfl rfl (Nat.le_of_ble_eq_true rfl) (Nat.le_of_ble_eq_true rfl) rfl ?_
  refine r_i2l cd_334_7 rfl ?_
  refine r_lst (i := 0) cd_334_8 rfl hO rfl (by omega) rfl ?_
  refine r_goto cd_334_9 ?_
  refine r_con (v := 0) cd_334_18 rfl (by decide) ?_
  exact r_ret cd_334_19 True.intro (rfl)
theorem u_334_1 {h h1 : aH} (x0 : Int) {fs : List aV} (h0 : h.2.2 0 = .inr (7, fs)) (hC : Ct 7 134 [aR 0, aI x0] h (.inr 1, h1)) : Ct 8 334 [aR 0, aI x0, aR 236] h (.inl (some (aI 1)), h1) := by
  refine Ct.of [aR 0, aI x0, aR 236, aU] rfl ?_
  refine r_aldR cd_334_0 rfl rfl ?_
  refine r_con (v := 0) cd_334_1 rfl (by decide) ?_
  refine r_aldR cd_334_2 rfl rfl ?_
  refine r_ild cd_334_3 rfl rfl ?_
  refine r_dH (k1 := 2) (k2 := 12) (kc' := 2) (ks' := 12) (hp9 := 13) (sl := 3) hC cd_334_4 rfl rfl (rc0 h0 rfl) rfl rfl rfl rfl (Nat.le_of_ble_eq_true rfl) (Nat.le_of_ble_eq_true rfl) rfl rfl rfl (L' := [aR 0, aI x0, aR 236, aU]) rfl ?_
  refine r_con (v := 1) cd_334_13 rfl (by decide) ?_
  exact r_ret cd_334_14 True.intro (rfl)
theorem u_334_2 {h h1 : aH} (x0 : Int) {fs : List aV} (h0 : h.2.2 0 = .inr (7, fs)) (hC : Ct 7 134 [aR 0, aI x0] h (.inr 2, h1)) : Ct 8 334 [aR 0, aI x0, aR 236] h (.inl (some (aI 2)), h1) := by
  refine Ct.of [aR 0, aI x0, aR 236, aU] rfl ?_
  refine r_aldR cd_334_0 rfl rfl ?_
  refine r_con (v := 0) cd_334_1 rfl (by decide) ?_
  refine r_aldR cd_334_2 rfl rfl ?_
  refine r_ild cd_334_3 rfl rfl ?_
  refine r_dH (k1 := 2) (k2 := 12) (kc' := 2) (ks' := 12) (hp9 := 16) (sl := 3) hC cd_334_4 rfl rfl (rc0 h0 rfl) rfl rfl rfl rfl (Nat.le_of_ble_eq_true rfl) (Nat.le_of_ble_eq_true rfl) rfl rfl rfl (L' := [aR 0, aI x0, aR 236, aU]) rfl ?_
  refine r_con (v := 2) cd_334_16 rfl (by decide) ?_
  exact r_ret cd_334_17 True.intro (rfl)
theorem w_335 {h h1 : aH} (x0 : Int) {v : Int} {g : Nat → Int64} {fs : List aV} (h0 : h.2.2 0 = .inr (7, fs)) (hC : Ct 7 135 [aR 0, aI x0] h (.inl (some (aI v)), h1)) (hO : h1.2.2 236 = .inl (3, 1, .inr (.inl g))) : Ct 8 335 [aR 0, aI x0, aR 236] h (.inl (some (aI 0)), sw h1 236 (lgC g v)) := by
  refine Ct.of [aR 0, aI x0, aR 236, aU] rfl ?_
  refine r_aldR cd_335_0 rfl rfl ?_
  refine r_con (v := 0) cd_335_1 rfl (by decide) ?_
  refine r_aldR cd_335_2 rfl rfl ?_
  refine r_ild cd_335_3 rfl rfl ?_
  refine r_dI (k1 := 2) (k2 := 12) (kc' := 2) (ks' := 12) hC cd_335_4 rfl rfl rfl (rc0 h0 rfl) rfl rfl rfl rfl (Nat.le_of_ble_eq_true rfl) (Nat.le_of_ble_eq_true rfl) rfl ?_
  refine r_i2l cd_335_7 rfl ?_
  refine r_lst (i := 0) cd_335_8 rfl hO rfl (by omega) rfl ?_
  refine r_goto cd_335_9 ?_
  refine r_con (v := 0) cd_335_15 rfl (by decide) ?_
  exact r_ret cd_335_16 True.intro (rfl)
theorem u_335_1 {h h1 : aH} (x0 : Int) {fs : List aV} (h0 : h.2.2 0 = .inr (7, fs)) (hC : Ct 7 135 [aR 0, aI x0] h (.inr 1, h1)) : Ct 8 335 [aR 0, aI x0, aR 236] h (.inl (some (aI 1)), h1) := by
  refine Ct.of [aR 0, aI x0, aR 236, aU] rfl ?_
  refine r_aldR cd_335_0 rfl rfl ?_
  refine r_con (v := 0) cd_335_1 rfl (by decide) ?_
  refine r_aldR cd_335_2 rfl rfl ?_
  refine r_ild cd_335_3 rfl rfl ?_
  refine r_dH (k1 := 2) (k2 := 12) (kc' := 2) (ks' := 12) (hp9 := 13) (sl := 3) hC cd_335_4 rfl rfl (rc0 h0 rfl) rfl rfl rfl rfl (Nat.le_of_ble_eq_true rfl) (Nat.le_of_ble_eq_true rfl) rfl rfl rfl (L' := [aR 0, aI x0, aR 236, aU]) rfl ?_
  refine r_con (v := 1) cd_335_13 rfl (by decide) ?_
  exact r_ret cd_335_14 True.intro (rfl)
theorem w_336 {h h1 : aH} (x0 x1 x2 : Int) {v : Int} {g : Nat → Int64} {fs : List aV} (h0 : h.2.2 0 = .inr (7, fs)) (hC : Ct 7 136 [aR 0, aI x0, aI x1, aI x2] h (.inl (some (aI v)), h1)) (hO : h1.2.2 236 = .inl (3, 1, .inr (.inl g))) : Ct 8 336 [aR 0, aI x0, aI x1, aI x2, aR 236] h (.inl (some (aI 0)), sw h1 236 (lgC g v)) := by
  refine Ct.of [aR 0, aI x0, aI x1, aI x2, aR 236, aU] rfl ?_
  refine r_aldR cd_336_0 rfl rfl ?_
  refine r_con (v := 0) cd_336_2 rfl (by decide) ?_
  refine r_aldR cd_336_3 rfl rfl ?_
  refine r_ild cd_336_4 rfl rfl ?_
  refine r_ild cd_336_5 rfl rfl ?_
  refine r_ild cd_336_6 rfl rfl ?_
  refine r_dI (k1 := 4) (k2 := 24) (kc' := 4) (ks' := 24) hC cd_336_7 rfl rfl rfl (rc0 h0 rfl) rfl rfl rfl rfl (Nat.le_of_ble_eq_true rfl) (Nat.le_of_ble_eq_true rfl) rfl ?_
  refine r_i2l cd_336_10 rfl ?_
  refine r_lst (i := 0) cd_336_11 rfl hO rfl (by omega) rfl ?_
  refine r_goto cd_336_12 ?_
  refine r_con (v := 0) cd_336_27 rfl (by decide) ?_
  exact r_ret cd_336_28 True.intro (rfl)
theorem u_336_0 {h h1 : aH} (x0 x1 x2 : Int) {fs : List aV} (h0 : h.2.2 0 = .inr (7, fs)) (hC : Ct 7 136 [aR 0, aI x0, aI x1, aI x2] h (.inr 0, h1)) : Ct 8 336 [aR 0, aI x0, aI x1, aI x2, aR 236] h (.inl (some (aI 1)), h1) := by
  refine Ct.of [aR 0, aI x0, aI x1, aI x2, aR 236, aU] rfl ?_
  refine r_aldR cd_336_0 rfl rfl ?_
  refine r_con (v := 0) cd_336_2 rfl (by decide) ?_
  refine r_aldR cd_336_3 rfl rfl ?_
  refine r_ild cd_336_4 rfl rfl ?_
  refine r_ild cd_336_5 rfl rfl ?_
  refine r_ild cd_336_6 rfl rfl ?_
  refine r_dH (k1 := 4) (k2 := 24) (kc' := 4) (ks' := 24) (hp9 := 17) (sl := 5) hC cd_336_7 rfl rfl (rc0 h0 rfl) rfl rfl rfl rfl (Nat.le_of_ble_eq_true rfl) (Nat.le_of_ble_eq_true rfl) rfl rfl rfl (L' := [aR 0, aI x0, aI x1, aI x2, aR 236, aU]) rfl ?_
  refine r_con (v := 1) cd_336_17 rfl (by decide) ?_
  exact r_ret cd_336_18 True.intro (rfl)
theorem u_336_1 {h h1 : aH} (x0 x1 x2 : Int) {fs : List aV} (h0 : h.2.2 0 = .inr (7, fs)) (hC : Ct 7 136 [aR 0, aI x0, aI x1, aI x2] h (.inr 1, h1)) : Ct 8 336 [aR 0, aI x0, aI x1, aI x2, aR 236] h (.inl (some (aI 2)), h1) := by
  refine Ct.of [aR 0, aI x0, aI x1, aI x2, aR 236, aU] rfl ?_
  refine r_aldR cd_336_0 rfl rfl ?_
  refine r_con (v := 0) cd_336_2 rfl (by decide) ?_
  refine r_aldR cd_336_3 rfl rfl ?_
  refine r_ild cd_336_4 rfl rfl ?_
  refine r_ild cd_336_5 rfl rfl ?_
  refine r_ild cd_336_6 rfl rfl ?_
  refine r_dH (k1 := 4) (k2 := 24) (kc' := 4) (ks' := 24) (hp9 := 21) (sl := 5) hC cd_336_7 rfl rfl (rc0 h0 rfl) rfl rfl rfl rfl (Nat.le_of_ble_eq_true rfl) (Nat.le_of_ble_eq_true rfl) rfl rfl rfl (L' := [aR 0, aI x0, aI x1, aI x2, aR 236, aU]) rfl ?_
  refine r_con (v := 2) cd_336_21 rfl (by decide) ?_
  exact r_ret cd_336_22 True.intro (rfl)
theorem u_336_2 {h h1 : aH} (x0 x1 x2 : Int) {fs : List aV} (h0 : h.2.2 0 = .inr (7, fs)) (hC : Ct 7 136 [aR 0, aI x0, aI x1, aI x2] h (.inr 2, h1)) : Ct 8 336 [aR 0, aI x0, aI x1, aI x2, aR 236] h (.inl (some (aI 3)), h1) := by
  refine Ct.of [aR 0, aI x0, aI x1, aI x2, aR 236, aU] rfl ?_
  refine r_aldR cd_336_0 rfl rfl ?_
  refine r_con (v := 0) cd_336_2 rfl (by decide) ?_
  refine r_aldR cd_336_3 rfl rfl ?_
  refine r_ild cd_336_4 rfl rfl ?_
  refine r_ild cd_336_5 rfl rfl ?_
  refine r_ild cd_336_6 rfl rfl ?_
  refine r_dH (k1 := 4) (k2 := 24) (kc' := 4) (ks' := 24) (hp9 := 25) (sl := 5) hC cd_336_7 rfl rfl (rc0 h0 rfl) rfl rfl rfl rfl (Nat.le_of_ble_eq_true rfl) (Nat.le_of_ble_eq_true rfl) rfl rfl rfl (L' := [aR 0, aI x0, aI x1, aI x2, aR 236, aU]) rfl ?_
  refine r_con (v := 3) cd_336_25 rfl (by decide) ?_
  exact r_ret cd_336_26 True.intro (rfl)
theorem w_337 {h h1 : aH} (x0 x1 x2 x3 : Int) {v : Int} {g : Nat → Int64} {fs : List aV} (h0 : h.2.2 0 = .inr (7, fs)) (hC : Ct 7 137 [aR 0, aI x0, aI x1, aI x2, aI x3] h (.inl (some (aI v)), h1)) (hO : h1.2.2 236 = .inl (3, 1, .inr (.inl g))) : Ct 8 337 [aR 0, aI x0, aI x1, aI x2, aI x3, aR 236] h (.inl (some (aI 0)), sw h1 236 (lgC g v)) := by
  refine Ct.of [aR 0, aI x0, aI x1, aI x2, aI x3, aR 236, aU] rfl ?_
  refine r_aldR cd_337_0 rfl rfl ?_
  refine r_con (v := 0) cd_337_2 rfl (by decide) ?_
  refine r_aldR cd_337_3 rfl rfl ?_
  refine r_ild cd_337_4 rfl rfl ?_
  refine r_ild cd_337_5 rfl rfl ?_
  refine r_ild cd_337_6 rfl rfl ?_
  refine r_ild cd_337_7 rfl rfl ?_
  refine r_dI (k1 := 6) (k2 := 36) (kc' := 6) (ks' := 36) hC cd_337_9 rfl rfl rfl (rc0 h0 rfl) rfl rfl rfl rfl (Nat.le_of_ble_eq_true rfl) (Nat.le_of_ble_eq_true rfl) rfl ?_
  refine r_i2l cd_337_12 rfl ?_
  refine r_lst (i := 0) cd_337_13 rfl hO rfl (by omega) rfl ?_
  refine r_goto cd_337_14 ?_
  refine r_con (v := 0) cd_337_29 rfl (by decide) ?_
  exact r_ret cd_337_30 True.intro (rfl)
theorem u_337_0 {h h1 : aH} (x0 x1 x2 x3 : Int) {fs : List aV} (h0 : h.2.2 0 = .inr (7, fs)) (hC : Ct 7 137 [aR 0, aI x0, aI x1, aI x2, aI x3] h (.inr 0, h1)) : Ct 8 337 [aR 0, aI x0, aI x1, aI x2, aI x3, aR 236] h (.inl (some (aI 1)), h1) := by
  refine Ct.of [aR 0, aI x0, aI x1, aI x2, aI x3, aR 236, aU] rfl ?_
  refine r_aldR cd_337_0 rfl rfl ?_
  refine r_con (v := 0) cd_337_2 rfl (by decide) ?_
  refine r_aldR cd_337_3 rfl rfl ?_
  refine r_ild cd_337_4 rfl rfl ?_
  refine r_ild cd_337_5 rfl rfl ?_
  refine r_ild cd_337_6 rfl rfl ?_
  refine r_ild cd_337_7 rfl rfl ?_
  refine r_dH (k1 := 6) (k2 := 36) (kc' := 6) (ks' := 36) (hp9 := 19) (sl := 6) hC cd_337_9 rfl rfl (rc0 h0 rfl) rfl rfl rfl rfl (Nat.le_of_ble_eq_true rfl) (Nat.le_of_ble_eq_true rfl) rfl rfl rfl (L' := [aR 0, aI x0, aI x1, aI x2, aI x3, aR 236, aU]) rfl ?_
  refine r_con (v := 1) cd_337_19 rfl (by decide) ?_
  exact r_ret cd_337_20 True.intro (rfl)
theorem u_337_1 {h h1 : aH} (x0 x1 x2 x3 : Int) {fs : List aV} (h0 : h.2.2 0 = .inr (7, fs)) (hC : Ct 7 137 [aR 0, aI x0, aI x1, aI x2, aI x3] h (.inr 1, h1)) : Ct 8 337 [aR 0, aI x0, aI x1, aI x2, aI x3, aR 236] h (.inl (some (aI 2)), h1) := by
  refine Ct.of [aR 0, aI x0, aI x1, aI x2, aI x3, aR 236, aU] rfl ?_
  refine r_aldR cd_337_0 rfl rfl ?_
  refine r_con (v := 0) cd_337_2 rfl (by decide) ?_
  refine r_aldR cd_337_3 rfl rfl ?_
  refine r_ild cd_337_4 rfl rfl ?_
  refine r_ild cd_337_5 rfl rfl ?_
  refine r_ild cd_337_6 rfl rfl ?_
  refine r_ild cd_337_7 rfl rfl ?_
  refine r_dH (k1 := 6) (k2 := 36) (kc' := 6) (ks' := 36) (hp9 := 23) (sl := 6) hC cd_337_9 rfl rfl (rc0 h0 rfl) rfl rfl rfl rfl (Nat.le_of_ble_eq_true rfl) (Nat.le_of_ble_eq_true rfl) rfl rfl rfl (L' := [aR 0, aI x0, aI x1, aI x2, aI x3, aR 236, aU]) rfl ?_
  refine r_con (v := 2) cd_337_23 rfl (by decide) ?_
  exact r_ret cd_337_24 True.intro (rfl)
theorem u_337_2 {h h1 : aH} (x0 x1 x2 x3 : Int) {fs : List aV} (h0 : h.2.2 0 = .inr (7, fs)) (hC : Ct 7 137 [aR 0, aI x0, aI x1, aI x2, aI x3] h (.inr 2, h1)) : Ct 8 337 [aR 0, aI x0, aI x1, aI x2, aI x3, aR 236] h (.inl (some (aI 3)), h1) := by
  refine Ct.of [aR 0, aI x0, aI x1, aI x2, aI x3, aR 236, aU] rfl ?_
  refine r_aldR cd_337_0 rfl rfl ?_
  refine r_con (v := 0) cd_337_2 rfl (by decide) ?_
  refine r_aldR cd_337_3 rfl rfl ?_
  refine r_ild cd_337_4 rfl rfl ?_
  refine r_ild cd_337_5 rfl rfl ?_
  refine r_ild cd_337_6 rfl rfl ?_
  refine r_ild cd_337_7 rfl rfl ?_
  refine r_dH (k1 := 6) (k2 := 36) (kc' := 6) (ks' := 36) (hp9 := 27) (sl := 6) hC cd_337_9 rfl rfl (rc0 h0 rfl) rfl rfl rfl rfl (Nat.le_of_ble_eq_true rfl) (Nat.le_of_ble_eq_true rfl) rfl rfl rfl (L' := [aR 0, aI x0, aI x1, aI x2, aI x3, aR 236, aU]) rfl ?_
  refine r_con (v := 3) cd_337_27 rfl (by decide) ?_
  exact r_ret cd_337_28 True.intro (rfl)
theorem w_338 {h h1 : aH} (x0 x1 : Int) {v : Int} {g : Nat → Int64} {fs : List aV} (h0 : h.2.2 0 = .inr (7, fs)) (hC : Ct 7 138 [aR 0, aI x0, aI x1] h (.inl (some (aI v)), h1)) (hO : h1.2.2 236 = .inl (3, 1, .inr (.inl g))) : Ct 8 338 [aR 0, aI x0, aI x1, aR 236] h (.inl (some (aI 0)), sw h1 236 (lgC g v)) := by
  refine Ct.of [aR 0, aI x0, aI x1, aR 236, aU] rfl ?_
  refine r_aldR cd_338_0 rfl rfl ?_
  refine r_con (v := 0) cd_338_1 rfl (by decide) ?_
  refine r_aldR cd_338_2 rfl rfl ?_
  refine r_ild cd_338_3 rfl rfl ?_
  refine r_ild cd_338_4 rfl rfl ?_
  refine r_dI (k1 := 3) (k2 := 18) (kc' := 3) (ks' := 18) hC cd_338_5 rfl rfl rfl (rc0 h0 rfl) rfl rfl rfl rfl (Nat.le_of_ble_eq_true rfl) (Nat.le_of_ble_eq_true rfl) rfl ?_
  refine r_i2l cd_338_8 rfl ?_
  refine r_lst (i := 0) cd_338_9 rfl hO rfl (by omega) rfl ?_
  refine r_goto cd_338_10 ?_
  refine r_con (v := 0) cd_338_21 rfl (by decide) ?_
  exact r_ret cd_338_22 True.intro (rfl)
theorem u_338_0 {h h1 : aH} (x0 x1 : Int) {fs : List aV} (h0 : h.2.2 0 = .inr (7, fs)) (hC : Ct 7 138 [aR 0, aI x0, aI x1] h (.inr 0, h1)) : Ct 8 338 [aR 0, aI x0, aI x1, aR 236] h (.inl (some (aI 1)), h1) := by
  refine Ct.of [aR 0, aI x0, aI x1, aR 236, aU] rfl ?_
  refine r_aldR cd_338_0 rfl rfl ?_
  refine r_con (v := 0) cd_338_1 rfl (by decide) ?_
  refine r_aldR cd_338_2 rfl rfl ?_
  refine r_ild cd_338_3 rfl rfl ?_
  refine r_ild cd_338_4 rfl rfl ?_
  refine r_dH (k1 := 3) (k2 := 18) (kc' := 3) (ks' := 18) (hp9 := 15) (sl := 4) hC cd_338_5 rfl rfl (rc0 h0 rfl) rfl rfl rfl rfl (Nat.le_of_ble_eq_true rfl) (Nat.le_of_ble_eq_true rfl) rfl rfl rfl (L' := [aR 0, aI x0, aI x1, aR 236, aU]) rfl ?_
  refine r_con (v := 1) cd_338_15 rfl (by decide) ?_
  exact r_ret cd_338_16 True.intro (rfl)
theorem u_338_2 {h h1 : aH} (x0 x1 : Int) {fs : List aV} (h0 : h.2.2 0 = .inr (7, fs)) (hC : Ct 7 138 [aR 0, aI x0, aI x1] h (.inr 2, h1)) : Ct 8 338 [aR 0, aI x0, aI x1, aR 236] h (.inl (some (aI 2)), h1) := by
  refine Ct.of [aR 0, aI x0, aI x1, aR 236, aU] rfl ?_
  refine r_aldR cd_338_0 rfl rfl ?_
  refine r_con (v := 0) cd_338_1 rfl (by decide) ?_
  refine r_aldR cd_338_2 rfl rfl ?_
  refine r_ild cd_338_3 rfl rfl ?_
  refine r_ild cd_338_4 rfl rfl ?_
  refine r_dH (k1 := 3) (k2 := 18) (kc' := 3) (ks' := 18) (hp9 := 19) (sl := 4) hC cd_338_5 rfl rfl (rc0 h0 rfl) rfl rfl rfl rfl (Nat.le_of_ble_eq_true rfl) (Nat.le_of_ble_eq_true rfl) rfl rfl rfl (L' := [aR 0, aI x0, aI x1, aR 236, aU]) rfl ?_
  refine r_con (v := 2) cd_338_19 rfl (by decide) ?_
  exact r_ret cd_338_20 True.intro (rfl)
theorem w_339 {h h1 : aH} (x0 : Int) {v : Int} {g : Nat → Int64} {fs : List aV} (h0 : h.2.2 0 = .inr (7, fs)) (hC : Ct 7 141 [aR 0, aI x0] h (.inl (some (aI v)), h1)) (hO : h1.2.2 236 = .inl (3, 1, .inr (.inl g))) : Ct 8 339 [aR 0, aI x0, aR 236] h (.inl (some (aI 0)), sw h1 236 (lgC g v)) := by
  refine Ct.of [aR 0, aI x0, aR 236, aU] rfl ?_
  refine r_aldR cd_339_0 rfl rfl ?_
  refine r_con (v := 0) cd_339_1 rfl (by decide) ?_
  refine r_aldR cd_339_2 rfl rfl ?_
  refine r_ild cd_339_3 rfl rfl ?_
  refine r_dI (k1 := 2) (k2 := 12) (kc' := 2) (ks' := 12) hC cd_339_4 rfl rfl rfl (rc0 h0 rfl) rfl rfl rfl rfl (Nat.le_of_ble_eq_true rfl) (Nat.le_of_ble_eq_true rfl) rfl ?_
  refine r_i2l cd_339_7 rfl ?_
  refine r_lst (i := 0) cd_339_8 rfl hO rfl (by omega) rfl ?_
  refine r_goto cd_339_9 ?_
  refine r_con (v := 0) cd_339_18 rfl (by decide) ?_
  exact r_ret cd_339_19 True.intro (rfl)
theorem u_339_0 {h h1 : aH} (x0 : Int) {fs : List aV} (h0 : h.2.2 0 = .inr (7, fs)) (hC : Ct 7 141 [aR 0, aI x0] h (.inr 0, h1)) : Ct 8 339 [aR 0, aI x0, aR 236] h (.inl (some (aI 1)), h1) := by
  refine Ct.of [aR 0, aI x0, aR 236, aU] rfl ?_
  refine r_aldR cd_339_0 rfl rfl ?_
  refine r_con (v := 0) cd_339_1 rfl (by decide) ?_
  refine r_aldR cd_339_2 rfl rfl ?_
  refine r_ild cd_339_3 rfl rfl ?_
  refine r_dH (k1 := 2) (k2 := 12) (kc' := 2) (ks' := 12) (hp9 := 13) (sl := 3) hC cd_339_4 rfl rfl (rc0 h0 rfl) rfl rfl rfl rfl (Nat.le_of_ble_eq_true rfl) (Nat.le_of_ble_eq_true rfl) rfl rfl rfl (L' := [aR 0, aI x0, aR 236, aU]) rfl ?_
  refine r_con (v := 1) cd_339_13 rfl (by decide) ?_
  exact r_ret cd_339_14 True.intro (rfl)
theorem u_339_2 {h h1 : aH} (x0 : Int) {fs : List aV} (h0 : h.2.2 0 = .inr (7, fs)) (hC : Ct 7 141 [aR 0, aI x0] h (.inr 2, h1)) : Ct 8 339 [aR 0, aI x0, aR 236] h (.inl (some (aI 2)), h1) := by
  refine Ct.of [aR 0, aI x0, aR 236, aU] rfl ?_
  refine r_aldR cd_339_0 rfl rfl ?_
  refine r_con (v := 0) cd_339_1 rfl (by decide) ?_
  refine r_aldR cd_339_2 rfl rfl ?_
  refine r_ild cd_339_3 rfl rfl ?_
  refine r_dH (k1 := 2) (k2 := 12) (kc' := 2) (ks' := 12) (hp9 := 16) (sl := 3) hC cd_339_4 rfl rfl (rc0 h0 rfl) rfl rfl rfl rfl (Nat.le_of_ble_eq_true rfl) (Nat.le_of_ble_eq_true rfl) rfl rfl rfl (L' := [aR 0, aI x0, aR 236, aU]) rfl ?_
  refine r_con (v := 2) cd_339_16 rfl (by decide) ?_
  exact r_ret cd_339_17 True.intro (rfl)
theorem w_340 {h h1 : aH} (x0 : Int) {v : Int} {g : Nat → Int64} {fs : List aV} (h0 : h.2.2 0 = .inr (7, fs)) (hC : Ct 7 142 [aR 0, aI x0] h (.inl (some (aI v)), h1)) (hO : h1.2.2 236 = .inl (3, 1, .inr (.inl g))) : Ct 8 340 [aR 0, aI x0, aR 236] h (.inl (some (aI 0)), sw h1 236 (lgC g v)) := by
  refine Ct.of [aR 0, aI x0, aR 236, aU] rfl ?_
  refine r_aldR cd_340_0 rfl rfl ?_
  refine r_con (v := 0) cd_340_1 rfl (by decide) ?_
  refine r_aldR cd_340_2 rfl rfl ?_
  refine r_ild cd_340_3 rfl rfl ?_
  refine r_dI (k1 := 2) (k2 := 12) (kc' := 2) (ks' := 12) hC cd_340_4 rfl rfl rfl (rc0 h0 rfl) rfl rfl rfl rfl (Nat.le_of_ble_eq_true rfl) (Nat.le_of_ble_eq_true rfl) rfl ?_
  refine r_i2l cd_340_7 rfl ?_
  refine r_lst (i := 0) cd_340_8 rfl hO rfl (by omega) rfl ?_
  refine r_goto cd_340_9 ?_
  refine r_con (v := 0) cd_340_18 rfl (by decide) ?_
  exact r_ret cd_340_19 True.intro (rfl)
theorem u_340_0 {h h1 : aH} (x0 : Int) {fs : List aV} (h0 : h.2.2 0 = .inr (7, fs)) (hC : Ct 7 142 [aR 0, aI x0] h (.inr 0, h1)) : Ct 8 340 [aR 0, aI x0, aR 236] h (.inl (some (aI 1)), h1) := by
  refine Ct.of [aR 0, aI x0, aR 236, aU] rfl ?_
  refine r_aldR cd_340_0 rfl rfl ?_
  refine r_con (v := 0) cd_340_1 rfl (by decide) ?_
  refine r_aldR cd_340_2 rfl rfl ?_
  refine r_ild cd_340_3 rfl rfl ?_
  refine r_dH (k1 := 2) (k2 := 12) (kc' := 2) (ks' := 12) (hp9 := 13) (sl := 3) hC cd_340_4 rfl rfl (rc0 h0 rfl) rfl rfl rfl rfl (Nat.le_of_ble_eq_true rfl) (Nat.le_of_ble_eq_true rfl) rfl rfl rfl (L' := [aR 0, aI x0, aR 236, aU]) rfl ?_
  refine r_con (v := 1) cd_340_13 rfl (by decide) ?_
  exact r_ret cd_340_14 True.intro (rfl)
theorem u_340_2 {h h1 : aH} (x0 : Int) {fs : List aV} (h0 : h.2.2 0 = .inr (7, fs)) (hC : Ct 7 142 [aR 0, aI x0] h (.inr 2, h1)) : Ct 8 340 [aR 0, aI x0, aR 236] h (.inl (some (aI 2)), h1) := by
  refine Ct.of [aR 0, aI x0, aR 236, aU] rfl ?_
  refine r_aldR cd_340_0 rfl rfl ?_
  refine r_con (v := 0) cd_340_1 rfl (by decide) ?_
  refine r_aldR cd_340_2 rfl rfl ?_
  refine r_ild cd_340_3 rfl rfl ?_
  refine r_dH (k1 := 2) (k2 := 12) (kc' := 2) (ks' := 12) (hp9 := 16) (sl := 3) hC cd_340_4 rfl rfl (rc0 h0 rfl) rfl rfl rfl rfl (Nat.le_of_ble_eq_true rfl) (Nat.le_of_ble_eq_true rfl) rfl rfl rfl (L' := [aR 0, aI x0, aR 236, aU]) rfl ?_
  refine r_con (v := 2) cd_340_16 rfl (by decide) ?_
  exact r_ret cd_340_17 True.intro (rfl)
theorem w_341 {h h1 : aH} (x0 : Int) {v : Int} {g : Nat → Int64} {fs : List aV} (h0 : h.2.2 0 = .inr (7, fs)) (hC : Ct 7 143 [aR 0, aI x0] h (.inl (some (aI v)), h1)) (hO : h1.2.2 236 = .inl (3, 1, .inr (.inl g))) : Ct 8 341 [aR 0, aI x0, aR 236] h (.inl (some (aI 0)), sw h1 236 (lgC g v)) := by
  refine Ct.of [aR 0, aI x0, aR 236, aU] rfl ?_
  refine r_aldR cd_341_0 rfl rfl ?_
  refine r_con (v := 0) cd_341_1 rfl (by decide) ?_
  refine r_aldR cd_341_2 rfl rfl ?_
  refine r_ild cd_341_3 rfl rfl ?_
  refine r_dI (k1 := 2) (k2 := 12) (kc' := 2) (ks' := 12) hC cd_341_4 rfl rfl rfl (rc0 h0 rfl) rfl rfl rfl rfl (Nat.le_of_ble_eq_true rfl) (Nat.le_of_ble_eq_true rfl) rfl ?_
  refine r_i2l cd_341_7 rfl ?_
  refine r_lst (i := 0) cd_341_8 rfl hO rfl (by omega) rfl ?_
  refine r_goto cd_341_9 ?_
  refine r_con (v := 0) cd_341_18 rfl (by decide) ?_
  exact r_ret cd_341_19 True.intro (rfl)
theorem u_341_0 {h h1 : aH} (x0 : Int) {fs : List aV} (h0 : h.2.2 0 = .inr (7, fs)) (hC : Ct 7 143 [aR 0, aI x0] h (.inr 0, h1)) : Ct 8 341 [aR 0, aI x0, aR 236] h (.inl (some (aI 1)), h1) := by
  refine Ct.of [aR 0, aI x0, aR 236, aU] rfl ?_
  refine r_aldR cd_341_0 rfl rfl ?_
  refine r_con (v := 0) cd_341_1 rfl (by decide) ?_
  refine r_aldR cd_341_2 rfl rfl ?_
  refine r_ild cd_341_3 rfl rfl ?_
  refine r_dH (k1 := 2) (k2 := 12) (kc' := 2) (ks' := 12) (hp9 := 13) (sl := 3) hC cd_341_4 rfl rfl (rc0 h0 rfl) rfl rfl rfl rfl (Nat.le_of_ble_eq_true rfl) (Nat.le_of_ble_eq_true rfl) rfl rfl rfl (L' := [aR 0, aI x0, aR 236, aU]) rfl ?_
  refine r_con (v := 1) cd_341_13 rfl (by decide) ?_
  exact r_ret cd_341_14 True.intro (rfl)
theorem u_341_2 {h h1 : aH} (x0 : Int) {fs : List aV} (h0 : h.2.2 0 = .inr (7, fs)) (hC : Ct 7 143 [aR 0, aI x0] h (.inr 2, h1)) : Ct 8 341 [aR 0, aI x0, aR 236] h (.inl (some (aI 2)), h1) := by
  refine Ct.of [aR 0, aI x0, aR 236, aU] rfl ?_
  refine r_aldR cd_341_0 rfl rfl ?_
  refine r_con (v := 0) cd_341_1 rfl (by decide) ?_
  refine r_aldR cd_341_2 rfl rfl ?_
  refine r_ild cd_341_3 rfl rfl ?_
  refine r_dH (k1 := 2) (k2 := 12) (kc' := 2) (ks' := 12) (hp9 := 16) (sl := 3) hC cd_341_4 rfl rfl (rc0 h0 rfl) rfl rfl rfl rfl (Nat.le_of_ble_eq_true rfl) (Nat.le_of_ble_eq_true rfl) rfl rfl rfl (L' := [aR 0, aI x0, aR 236, aU]) rfl ?_
  refine r_con (v := 2) cd_341_16 rfl (by decide) ?_
  exact r_ret cd_341_17 True.intro (rfl)
theorem w_342 {h h1 : aH} (x0 : Int) {v : Int} {g : Nat → Int64} {fs : List aV} (h0 : h.2.2 0 = .inr (7, fs)) (hC : Ct 7 144 [aR 0, aI x0] h (.inl (some (aI v)), h1)) (hO : h1.2.2 236 = .inl (3, 1, .inr (.inl g))) : Ct 8 342 [aR 0, aI x0, aR 236] h (.inl (some (aI 0)), sw h1 236 (lgC g v)) := by
  refine Ct.of [aR 0, aI x0, aR 236, aU] rfl ?_
  refine r_aldR cd_342_0 rfl rfl ?_
  refine r_con (v := 0) cd_342_1 rfl (by decide) ?_
  refine r_aldR cd_342_2 rfl rfl ?_
  refine r_ild cd_342_3 rfl rfl ?_
  refine r_dI (k1 := 2) (k2 := 12) (kc' := 2) (ks' := 12) hC cd_342_4 rfl rfl rfl (rc0 h0 rfl) rfl rfl rfl rfl (Nat.le_of_ble_eq_true rfl) (Nat.le_of_ble_eq_true rfl) rfl ?_
  refine r_i2l cd_342_7 rfl ?_
  refine r_lst (i := 0) cd_342_8 rfl hO rfl (by omega) rfl ?_
  refine r_goto cd_342_9 ?_
  refine r_con (v := 0) cd_342_18 rfl (by decide) ?_
  exact r_ret cd_342_19 True.intro (rfl)
theorem u_342_0 {h h1 : aH} (x0 : Int) {fs : List aV} (h0 : h.2.2 0 = .inr (7, fs)) (hC : Ct 7 144 [aR 0, aI x0] h (.inr 0, h1)) : Ct 8 342 [aR 0, aI x0, aR 236] h (.inl (some (aI 1)), h1) := by
  refine Ct.of [aR 0, aI x0, aR 236, aU] rfl ?_
  refine r_aldR cd_342_0 rfl rfl ?_
  refine r_con (v := 0) cd_342_1 rfl (by decide) ?_
  refine r_aldR cd_342_2 rfl rfl ?_
  refine r_ild cd_342_3 rfl rfl ?_
  refine r_dH (k1 := 2) (k2 := 12) (kc' := 2) (ks' := 12) (hp9 := 13) (sl := 3) hC cd_342_4 rfl rfl (rc0 h0 rfl) rfl rfl rfl rfl (Nat.le_of_ble_eq_true rfl) (Nat.le_of_ble_eq_true rfl) rfl rfl rfl (L' := [aR 0, aI x0, aR 236, aU]) rfl ?_
  refine r_con (v := 1) cd_342_13 rfl (by decide) ?_
  exact r_ret cd_342_14 True.intro (rfl)
theorem u_342_2 {h h1 : aH} (x0 : Int) {fs : List aV} (h0 : h.2.2 0 = .inr (7, fs)) (hC : Ct 7 144 [aR 0, aI x0] h (.inr 2, h1)) : Ct 8 342 [aR 0, aI x0, aR 236] h (.inl (some (aI 2)), h1) := by
  refine Ct.of [aR 0, aI x0, aR 236, aU] rfl ?_
  refine r_aldR cd_342_0 rfl rfl ?_
  refine r_con (v := 0) cd_342_1 rfl (by decide) ?_
  refine r_aldR cd_342_2 rfl rfl ?_
  refine r_ild cd_342_3 rfl rfl ?_
  refine r_dH (k1 := 2) (k2 := 12) (kc' := 2) (ks' := 12) (hp9 := 16) (sl := 3) hC cd_342_4 rfl rfl (rc0 h0 rfl) rfl rfl rfl rfl (Nat.le_of_ble_eq_true rfl) (Nat.le_of_ble_eq_true rfl) rfl rfl rfl (L' := [aR 0, aI x0, aR 236, aU]) rfl ?_
  refine r_con (v := 2) cd_342_16 rfl (by decide) ?_
  exact r_ret cd_342_17 True.intro (rfl)
theorem w_343 {h h1 : aH} (x0 x1 : Int) {v : Int} {g : Nat → Int64} {fs : List aV} (h0 : h.2.2 0 = .inr (7, fs)) (hC : Ct 7 145 [aR 0, aI x0, aI x1] h (.inl (some (aI v)), h1)) (hO : h1.2.2 236 = .inl (3, 1, .inr (.inl g))) : Ct 8 343 [aR 0, aI x0, aI x1, aR 236] h (.inl (some (aI 0)), sw h1 236 (lgC g v)) := by
  refine Ct.of [aR 0, aI x0, aI x1, aR 236, aU] rfl ?_
  refine r_aldR cd_343_0 rfl rfl ?_
  refine r_con (v := 0) cd_343_1 rfl (by decide) ?_
  refine r_aldR cd_343_2 rfl rfl ?_
  refine r_ild cd_343_3 rfl rfl ?_
  refine r_ild cd_343_4 rfl rfl ?_
  refine r_dI (k1 := 3) (k2 := 18) (kc' := 3) (ks' := 18) hC cd_343_5 rfl rfl rfl (rc0 h0 rfl) rfl rfl rfl rfl (Nat.le_of_ble_eq_true rfl) (Nat.le_of_ble_eq_true rfl) rfl ?_
  refine r_i2l cd_343_8 rfl ?_
  refine r_lst (i := 0) cd_343_9 rfl hO rfl (by omega) rfl ?_
  refine r_goto cd_343_10 ?_
  refine r_con (v := 0) cd_343_25 rfl (by decide) ?_
  exact r_ret cd_343_26 True.intro (rfl)
theorem u_343_0 {h h1 : aH} (x0 x1 : Int) {fs : List aV} (h0 : h.2.2 0 = .inr (7, fs)) (hC : Ct 7 145 [aR 0, aI x0, aI x1] h (.inr 0, h1)) : Ct 8 343 [aR 0, aI x0, aI x1, aR 236] h (.inl (some (aI 1)), h1) := by
  refine Ct.of [aR 0, aI x0, aI x1, aR 236, aU] rfl ?_
  refine r_aldR cd_343_0 rfl rfl ?_
  refine r_con (v := 0) cd_343_1 rfl (by decide) ?_
  refine r_aldR cd_343_2 rfl rfl ?_
  refine r_ild cd_343_3 rfl rfl ?_
  refine r_ild cd_343_4 rfl rfl ?_
  refine r_dH (k1 := 3) (k2 := 18) (kc' := 3) (ks' := 18) (hp9 := 15) (sl := 4) hC cd_343_5 rfl rfl (rc0 h0 rfl) rfl rfl rfl rfl (Nat.le_of_ble_eq_true rfl) (Nat.le_of_ble_eq_true rfl) rfl rfl rfl (L' := [aR 0, aI x0, aI x1, aR 236, aU]) rfl ?_
  refine r_con (v := 1) cd_343_15 rfl (by decide) ?_
  exact r_ret cd_343_16 True.intro (rfl)
theorem u_343_1 {h h1 : aH} (x0 x1 : Int) {fs : List aV} (h0 : h.2.2 0 = .inr (7, fs)) (hC : Ct 7 145 [aR 0, aI x0, aI x1] h (.inr 1, h1)) : Ct 8 343 [aR 0, aI x0, aI x1, aR 236] h (.inl (some (aI 2)), h1) := by
  refine Ct.of [aR 0, aI x0, aI x1, aR 236, aU] rfl ?_
  refine r_aldR cd_343_0 rfl rfl ?_
  refine r_con (v := 0) cd_343_1 rfl (by decide) ?_
  refine r_aldR cd_343_2 rfl rfl ?_
  refine r_ild cd_343_3 rfl rfl ?_
  refine r_ild cd_343_4 rfl rfl ?_
  refine r_dH (k1 := 3) (k2 := 18) (kc' := 3) (ks' := 18) (hp9 := 19) (sl := 4) hC cd_343_5 rfl rfl (rc0 h0 rfl) rfl rfl rfl rfl (Nat.le_of_ble_eq_true rfl) (Nat.le_of_ble_eq_true rfl) rfl rfl rfl (L' := [aR 0, aI x0, aI x1, aR 236, aU]) rfl ?_
  refine r_con (v := 2) cd_343_19 rfl (by decide) ?_
  exact r_ret cd_343_20 True.intro (rfl)
theorem u_343_2 {h h1 : aH} (x0 x1 : Int) {fs : List aV} (h0 : h.2.2 0 = .inr (7, fs)) (hC : Ct 7 145 [aR 0, aI x0, aI x1] h (.inr 2, h1)) : Ct 8 343 [aR 0, aI x0, aI x1, aR 236] h (.inl (some (aI 3)), h1) := by
  refine Ct.of [aR 0, aI x0, aI x1, aR 236, aU] rfl ?_
  refine r_aldR cd_343_0 rfl rfl ?_
  refine r_con (v := 0) cd_343_1 rfl (by decide) ?_
  refine r_aldR cd_343_2 rfl rfl ?_
  refine r_ild cd_343_3 rfl rfl ?_
  refine r_ild cd_343_4 rfl rfl ?_
  refine r_dH (k1 := 3) (k2 := 18) (kc' := 3) (ks' := 18) (hp9 := 23) (sl := 4) hC cd_343_5 rfl rfl (rc0 h0 rfl) rfl rfl rfl rfl (Nat.le_of_ble_eq_true rfl) (Nat.le_of_ble_eq_true rfl) rfl rfl rfl (L' := [aR 0, aI x0, aI x1, aR 236, aU]) rfl ?_
  refine r_con (v := 3) cd_343_23 rfl (by decide) ?_
  exact r_ret cd_343_24 True.intro (rfl)
theorem w_344 {h h1 : aH} (x0 : Int) {v : Int} {g : Nat → Int64} {fs : List aV} (h0 : h.2.2 0 = .inr (7, fs)) (hC : Ct 7 146 [aR 0, aI x0] h (.inl (some (aI v)), h1)) (hO : h1.2.2 236 = .inl (3, 1, .inr (.inl g))) : Ct 8 344 [aR 0, aI x0, aR 236] h (.inl (some (aI 0)), sw h1 236 (lgC g v)) := by
  refine Ct.of [aR 0, aI x0, aR 236, aU] rfl ?_
  refine r_aldR cd_344_0 rfl rfl ?_
  refine r_con (v := 0) cd_344_1 rfl (by decide) ?_
  refine r_aldR cd_344_2 rfl rfl ?_
  refine r_ild cd_344_3 rfl rfl ?_
  refine r_dI (k1 := 2) (k2 := 12) (kc' := 2) (ks' := 12) hC cd_344_4 rfl rfl rfl (rc0 h0 rfl) rfl rfl rfl rfl (Nat.le_of_ble_eq_true rfl) (Nat.le_of_ble_eq_true rfl) rfl ?_
  refine r_i2l cd_344_7 rfl ?_
  refine r_lst (i := 0) cd_344_8 rfl hO rfl (by omega) rfl ?_
  refine r_goto cd_344_9 ?_
  refine r_con (v := 0) cd_344_18 rfl (by decide) ?_
  exact r_ret cd_344_19 True.intro (rfl)
theorem u_344_1 {h h1 : aH} (x0 : Int) {fs : List aV} (h0 : h.2.2 0 = .inr (7, fs)) (hC : Ct 7 146 [aR 0, aI x0] h (.inr 1, h1)) : Ct 8 344 [aR 0, aI x0, aR 236] h (.inl (some (aI 1)), h1) := by
  refine Ct.of [aR 0, aI x0, aR 236, aU] rfl ?_
  refine r_aldR cd_344_0 rfl rfl ?_
  refine r_con (v := 0) cd_344_1 rfl (by decide) ?_
  refine r_aldR cd_344_2 rfl rfl ?_
  refine r_ild cd_344_3 rfl rfl ?_
  refine r_dH (k1 := 2) (k2 := 12) (kc' := 2) (ks' := 12) (hp9 := 13) (sl := 3) hC cd_344_4 rfl rfl (rc0 h0 rfl) rfl rfl rfl rfl (Nat.le_of_ble_eq_true rfl) (Nat.le_of_ble_eq_true rfl) rfl rfl rfl (L' := [aR 0, aI x0, aR 236, aU]) rfl ?_
  refine r_con (v := 1) cd_344_13 rfl (by decide) ?_
  exact r_ret cd_344_14 True.intro (rfl)
theorem u_344_2 {h h1 : aH} (x0 : Int) {fs : List aV} (h0 : h.2.2 0 = .inr (7, fs)) (hC : Ct 7 146 [aR 0, aI x0] h (.inr 2, h1)) : Ct 8 344 [aR 0, aI x0, aR 236] h (.inl (some (aI 2)), h1) := by
  refine Ct.of [aR 0, aI x0, aR 236, aU] rfl ?_
  refine r_aldR cd_344_0 rfl rfl ?_
  refine r_con (v := 0) cd_344_1 rfl (by decide) ?_
  refine r_aldR cd_344_2 rfl rfl ?_
  refine r_ild cd_344_3 rfl rfl ?_
  refine r_dH (k1 := 2) (k2 := 12) (kc' := 2) (ks' := 12) (hp9 := 16) (sl := 3) hC cd_344_4 rfl rfl (rc0 h0 rfl) rfl rfl rfl rfl (Nat.le_of_ble_eq_true rfl) (Nat.le_of_ble_eq_true rfl) rfl rfl rfl (L' := [aR 0, aI x0, aR 236, aU]) rfl ?_
  refine r_con (v := 2) cd_344_16 rfl (by decide) ?_
  exact r_ret cd_344_17 True.intro (rfl)
theorem w_345 {h h1 : aH} (x0 x1 : Int) {v : Int} {g : Nat → Int64} {fs : List aV} (h0 : h.2.2 0 = .inr (7, fs)) (hC : Ct 7 147 [aR 0, aI x0, aI x1] h (.inl (some (aI v)), h1)) (hO : h1.2.2 236 = .inl (3, 1, .inr (.inl g))) : Ct 8 345 [aR 0, aI x0, aI x1, aR 236] h (.inl (some (aI 0)), sw h1 236 (lgC g v)) := by
  refine Ct.of [aR 0, aI x0, aI x1, aR 236, aU] rfl ?_
  refine r_aldR cd_345_0 rfl rfl ?_
  refine r_con (v := 0) cd_345_1 rfl (by decide) ?_
  refine r_aldR cd_345_2 rfl rfl ?_
  refine r_ild cd_345_3 rfl rfl ?_
  refine r_ild cd_345_4 rfl rfl ?_
  refine r_dI (k1 := 3) (k2 := 18) (kc' := 3) (ks' := 18) hC cd_345_5 rfl rfl rfl (rc0 h0 rfl) rfl rfl rfl rfl (Nat.le_of_ble_eq_true rfl) (Nat.le_of_ble_eq_true rfl) rfl ?_
  refine r_i2l cd_345_8 rfl ?_
  refine r_lst (i := 0) cd_345_9 rfl hO rfl (by omega) rfl ?_
  refine r_goto cd_345_10 ?_
  refine r_con (v := 0) cd_345_21 rfl (by decide) ?_
  exact r_ret cd_345_22 True.intro (rfl)
theorem u_345_0 {h h1 : aH} (x0 x1 : Int) {fs : List aV} (h0 : h.2.2 0 = .inr (7, fs)) (hC : Ct 7 147 [aR 0, aI x0, aI x1] h (.inr 0, h1)) : Ct 8 345 [aR 0, aI x0, aI x1, aR 236] h (.inl (some (aI 1)), h1) := by
  refine Ct.of [aR 0, aI x0, aI x1, aR 236, aU] rfl ?_
  refine r_aldR cd_345_0 rfl rfl ?_
  refine r_con (v := 0) cd_345_1 rfl (by decide) ?_
  refine r_aldR cd_345_2 rfl rfl ?_
  refine r_ild cd_345_3 rfl rfl ?_
  refine r_ild cd_345_4 rfl rfl ?_
  refine r_dH (k1 := 3) (k2 := 18) (kc' := 3) (ks' := 18) (hp9 := 15) (sl := 4) hC cd_345_5 rfl rfl (rc0 h0 rfl) rfl rfl rfl rfl (Nat.le_of_ble_eq_true rfl) (Nat.le_of_ble_eq_true rfl) rfl rfl rfl (L' := [aR 0, aI x0, aI x1, aR 236, aU]) rfl ?_
  refine r_con (v := 1) cd_345_15 rfl (by decide) ?_
  exact r_ret cd_345_16 True.intro (rfl)
theorem u_345_3 {h h1 : aH} (x0 x1 : Int) {fs : List aV} (h0 : h.2.2 0 = .inr (7, fs)) (hC : Ct 7 147 [aR 0, aI x0, aI x1] h (.inr 3, h1)) : Ct 8 345 [aR 0, aI x0, aI x1, aR 236] h (.inl (some (aI 2)), h1) := by
  refine Ct.of [aR 0, aI x0, aI x1, aR 236, aU] rfl ?_
  refine r_aldR cd_345_0 rfl rfl ?_
  refine r_con (v := 0) cd_345_1 rfl (by decide) ?_
  refine r_aldR cd_345_2 rfl rfl ?_
  refine r_ild cd_345_3 rfl rfl ?_
  refine r_ild cd_345_4 rfl rfl ?_
  refine r_dH (k1 := 3) (k2 := 18) (kc' := 3) (ks' := 18) (hp9 := 19) (sl := 4) hC cd_345_5 rfl rfl (rc0 h0 rfl) rfl rfl rfl rfl (Nat.le_of_ble_eq_true rfl) (Nat.le_of_ble_eq_true rfl) rfl rfl rfl (L' := [aR 0, aI x0, aI x1, aR 236, aU]) rfl ?_
  refine r_con (v := 2) cd_345_19 rfl (by decide) ?_
  exact r_ret cd_345_20 True.intro (rfl)
theorem w_346 {h h1 : aH} (x0 : Int) {v : Int} {g : Nat → Int64} {fs : List aV} (h0 : h.2.2 0 = .inr (7, fs)) (hC : Ct 7 148 [aR 0, aI x0] h (.inl (some (aI v)), h1)) (hO : h1.2.2 236 = .inl (3, 1, .inr (.inl g))) : Ct 8 346 [aR 0, aI x0, aR 236] h (.inl (some (aI 0)), sw h1 236 (lgC g v)) := by
  refine Ct.of [aR 0, aI x0, aR 236, aU] rfl ?_
  refine r_aldR cd_346_0 rfl rfl ?_
  refine r_con (v := 0) cd_346_1 rfl (by decide) ?_
  refine r_aldR cd_346_2 rfl rfl ?_
  refine r_ild cd_346_3 rfl rfl ?_
  refine r_dI (k1 := 2) (k2 := 12) (kc' := 2) (ks' := 12) hC cd_346_4 rfl rfl rfl (rc0 h0 rfl) rfl rfl rfl rfl (Nat.le_of_ble_eq_true rfl) (Nat.le_of_ble_eq_true rfl) rfl ?_
  refine r_i2l cd_346_7 rfl ?_
  refine r_lst (i := 0) cd_346_8 rfl hO rfl (by omega) rfl ?_
  refine r_goto cd_346_9 ?_
  refine r_con (v := 0) cd_346_18 rfl (by decide) ?_
  exact r_ret cd_346_19 True.intro (rfl)
theorem u_346_1 {h h1 : aH} (x0 : Int) {fs : List aV} (h0 : h.2.2 0 = .inr (7, fs)) (hC : Ct 7 148 [aR 0, aI x0] h (.inr 1, h1)) : Ct 8 346 [aR 0, aI x0, aR 236] h (.inl (some (aI 1)), h1) := by
  refine Ct.of [aR 0, aI x0, aR 236, aU] rfl ?_
  refine r_aldR cd_346_0 rfl rfl ?_
  refine r_con (v := 0) cd_346_1 rfl (by decide) ?_
  refine r_aldR cd_346_2 rfl rfl ?_
  refine r_ild cd_346_3 rfl rfl ?_
  refine r_dH (k1 := 2) (k2 := 12) (kc' := 2) (ks' := 12) (hp9 := 13) (sl := 3) hC cd_346_4 rfl rfl (rc0 h0 rfl) rfl rfl rfl rfl (Nat.le_of_ble_eq_true rfl) (Nat.le_of_ble_eq_true rfl) rfl rfl rfl (L' := [aR 0, aI x0, aR 236, aU]) rfl ?_
  refine r_con (v := 1) cd_346_13 rfl (by decide) ?_
  exact r_ret cd_346_14 True.intro (rfl)
theorem u_346_2 {h h1 : aH} (x0 : Int) {fs : List aV} (h0 : h.2.2 0 = .inr (7, fs)) (hC : Ct 7 148 [aR 0, aI x0] h (.inr 2, h1)) : Ct 8 346 [aR 0, aI x0, aR 236] h (.inl (some (aI 2)), h1) := by
  refine Ct.of [aR 0, aI x0, aR 236, aU] rfl ?_
  refine r_aldR cd_346_0 rfl rfl ?_
  refine r_con (v := 0) cd_346_1 rfl (by decide) ?_
  refine r_aldR cd_346_2 rfl rfl ?_
  refine r_ild cd_346_3 rfl rfl ?_
  refine r_dH (k1 := 2) (k2 := 12) (kc' := 2) (ks' := 12) (hp9 := 16) (sl := 3) hC cd_346_4 rfl rfl (rc0 h0 rfl) rfl rfl rfl rfl (Nat.le_of_ble_eq_true rfl) (Nat.le_of_ble_eq_true rfl) rfl rfl rfl (L' := [aR 0, aI x0, aR 236, aU]) rfl ?_
  refine r_con (v := 2) cd_346_16 rfl (by decide) ?_
  exact r_ret cd_346_17 True.intro (rfl)
theorem w_347 {h h1 : aH} {v : Int} {g : Nat → Int64} {fs : List aV} (h0 : h.2.2 0 = .inr (7, fs)) (hC : Ct 3 149 [aR 0] h (.inl (some (aI v)), h1)) (hO : h1.2.2 236 = .inl (3, 1, .inr (.inl g))) : Ct 4 347 [aR 0, aR 236] h (.inl (some (aI 0)), sw h1 236 (lgC g v)) := by
  refine Ct.of [aR 0, aR 236, aU] rfl ?_
  refine r_aldR cd_347_0 rfl rfl ?_
  refine r_con (v := 0) cd_347_1 rfl (by decide) ?_
  refine r_aldR cd_347_2 rfl rfl ?_
  refine r_dI (k1 := 1) (k2 := 6) (kc' := 1) (ks' := 6) hC cd_347_3 rfl rfl rfl (rc0 h0 rfl) rfl rfl rfl rfl (Nat.le_of_ble_eq_true rfl) (Nat.le_of_ble_eq_true rfl) rfl ?_
  refine r_i2l cd_347_6 rfl ?_
  refine r_lst (i := 0) cd_347_7 rfl hO rfl (by omega) rfl ?_
  refine r_goto cd_347_8 ?_
  refine r_con (v := 0) cd_347_14 rfl (by decide) ?_
  exact r_ret cd_347_15 True.intro (rfl)
theorem u_347_3 {h h1 : aH} {fs : List aV} (h0 : h.2.2 0 = .inr (7, fs)) (hC : Ct 3 149 [aR 0] h (.inr 3, h1)) : Ct 4 347 [aR 0, aR 236] h (.inl (some (aI 1)), h1) := by
  refine Ct.of [aR 0, aR 236, aU] rfl ?_
  refine r_aldR cd_347_0 rfl rfl ?_
  refine r_con (v := 0) cd_347_1 rfl (by decide) ?_
  refine r_aldR cd_347_2 rfl rfl ?_
  refine r_dH (k1 := 1) (k2 := 6) (kc' := 1) (ks' := 6) (hp9 := 12) (sl := 2) hC cd_347_3 rfl rfl (rc0 h0 rfl) rfl rfl rfl rfl (Nat.le_of_ble_eq_true rfl) (Nat.le_of_ble_eq_true rfl) rfl rfl rfl (L' := [aR 0, aR 236, aU]) rfl ?_
  refine r_con (v := 1) cd_347_12 rfl (by decide) ?_
  exact r_ret cd_347_13 True.intro (rfl)
theorem w_348 {h h1 : aH} (x0 : Int) {v : Int} {g : Nat → Int64} {fs : List aV} (h0 : h.2.2 0 = .inr (7, fs)) (hC : Ct 3 150 [aR 0, aI x0] h (.inl (some (aI v)), h1)) (hO : h1.2.2 236 = .inl (3, 1, .inr (.inl g))) : Ct 4 348 [aR 0, aI x0, aR 236] h (.inl (some (aI 0)), sw h1 236 (lgC g v)) := by
  refine Ct.of [aR 0, aI x0, aR 236, aU] rfl ?_
  refine r_aldR cd_348_0 rfl rfl ?_
  refine r_con (v := 0) cd_348_1 rfl (by decide) ?_
  refine r_aldR cd_348_2 rfl rfl ?_
  refine r_ild cd_348_3 rfl rfl ?_
  refine r_dI (k1 := 1) (k2 := 6) (kc' := 1) (ks' := 6) hC cd_348_4 rfl rfl rfl (rc0 h0 rfl) rfl rfl rfl rfl (Nat.le_of_ble_eq_true rfl) (Nat.le_of_ble_eq_true rfl) rfl ?_
  refine r_i2l cd_348_7 rfl ?_
  refine r_lst (i := 0) cd_348_8 rfl hO rfl (by omega) rfl ?_
  refine r_goto cd_348_9 ?_
  refine r_con (v := 0) cd_348_15 rfl (by decide) ?_
  exact r_ret cd_348_16 True.intro (rfl)
theorem u_348_0 {h h1 : aH} (x0 : Int) {fs : List aV} (h0 : h.2.2 0 = .inr (7, fs)) (hC : Ct 3 150 [aR 0, aI x0] h (.inr 0, h1)) : Ct 4 348 [aR 0, aI x0, aR 236] h (.inl (some (aI 1)), h1) := by
  refine Ct.of [aR 0, aI x0, aR 236, aU] rfl ?_
  refine r_aldR cd_348_0 rfl rfl ?_
  refine r_con (v := 0) cd_348_1 rfl (by decide) ?_
  refine r_aldR cd_348_2 rfl rfl ?_
  refine r_ild cd_348_3 rfl rfl ?_
  refine r_dH (k1 := 1) (k2 := 6) (kc' := 1) (ks' := 6) (hp9 := 13) (sl := 3) hC cd_348_4 rfl rfl (rc0 h0 rfl) rfl rfl rfl rfl (Nat.le_of_ble_eq_true rfl) (Nat.le_of_ble_eq_true rfl) rfl rfl rfl (L' := [aR 0, aI x0, aR 236, aU]) rfl ?_
  refine r_con (v := 1) cd_348_13 rfl (by decide) ?_
  exact r_ret cd_348_14 True.intro (rfl)
theorem w_349 {h h1 : aH} (x0 : Int) {v : Int} {g : Nat → Int64} {fs : List aV} (h0 : h.2.2 0 = .inr (7, fs)) (hC : Ct 3 151 [aR 0, aI x0] h (.inl (some (aI v)), h1)) (hO : h1.2.2 236 = .inl (3, 1, .inr (.inl g))) : Ct 4 349 [aR 0, aI x0, aR 236] h (.inl (some (aI 0)), sw h1 236 (lgC g v)) := by
  refine Ct.of [aR 0, aI x0, aR 236, aU] rfl ?_
  refine r_aldR cd_349_0 rfl rfl ?_
  refine r_con (v := 0) cd_349_1 rfl (by decide) ?_
  refine r_aldR cd_349_2 rfl rfl ?_
  refine r_ild cd_349_3 rfl rfl ?_
  refine r_dI (k1 := 1) (k2 := 6) (kc' := 1) (ks' := 6) hC cd_349_4 rfl rfl rfl (rc0 h0 rfl) rfl rfl rfl rfl (Nat.le_of_ble_eq_true rfl) (Nat.le_of_ble_eq_true rfl) rfl ?_
  refine r_i2l cd_349_7 rfl ?_
  refine r_lst (i := 0) cd_349_8 rfl hO rfl (by omega) rfl ?_
  refine r_goto cd_349_9 ?_
  refine r_con (v := 0) cd_349_15 rfl (by decide) ?_
  exact r_ret cd_349_16 True.intro (rfl)
theorem u_349_0 {h h1 : aH} (x0 : Int) {fs : List aV} (h0 : h.2.2 0 = .inr (7, fs)) (hC : Ct 3 151 [aR 0, aI x0] h (.inr 0, h1)) : Ct 4 349 [aR 0, aI x0, aR 236] h (.inl (some (aI 1)), h1) := by
  refine Ct.of [aR 0, aI x0, aR 236, aU] rfl ?_
  refine r_aldR cd_349_0 rfl rfl ?_
  refine r_con (v := 0) cd_349_1 rfl (by decide) ?_
  refine r_aldR cd_349_2 rfl rfl ?_
  refine r_ild cd_349_3 rfl rfl ?_
  refine r_dH (k1 := 1) (k2 := 6) (kc' := 1) (ks' := 6) (hp9 := 13) (sl := 3) hC cd_349_4 rfl rfl (rc0 h0 rfl) rfl rfl rfl rfl (Nat.le_of_ble_eq_true rfl) (Nat.le_of_ble_eq_true rfl) rfl rfl rfl (L' := [aR 0, aI x0, aR 236, aU]) rfl ?_
  refine r_con (v := 1) cd_349_13 rfl (by decide) ?_
  exact r_ret cd_349_14 True.intro (rfl)
theorem w_350 {h h1 : aH} (x0 : Int) {v : Int} {g : Nat → Int64} {fs : List aV} (h0 : h.2.2 0 = .inr (7, fs)) (hC : Ct 3 152 [aR 0, aI x0] h (.inl (some (aI v)), h1)) (hO : h1.2.2 236 = .inl (3, 1, .inr (.inl g))) : Ct 4 350 [aR 0, aI x0, aR 236] h (.inl (some (aI 0)), sw h1 236 (lgC g v)) := by
  refine Ct.of [aR 0, aI x0, aR 236, aU] rfl ?_
  refine r_aldR cd_350_0 rfl rfl ?_
  refine r_con (v := 0) cd_350_1 rfl (by decide) ?_
  refine r_aldR cd_350_2 rfl rfl ?_
  refine r_ild cd_350_3 rfl rfl ?_
  refine r_dI (k1 := 1) (k2 := 6) (kc' := 1) (ks' := 6) hC cd_350_4 rfl rfl rfl (rc0 h0 rfl) rfl rfl rfl rfl (Nat.le_of_ble_eq_true rfl) (Nat.le_of_ble_eq_true rfl) rfl ?_
  refine r_i2l cd_350_7 rfl ?_
  refine r_lst (i := 0) cd_350_8 rfl hO rfl (by omega) rfl ?_
  refine r_goto cd_350_9 ?_
  refine r_con (v := 0) cd_350_15 rfl (by decide) ?_
  exact r_ret cd_350_16 True.intro (rfl)
theorem u_350_1 {h h1 : aH} (x0 : Int) {fs : List aV} (h0 : h.2.2 0 = .inr (7, fs)) (hC : Ct 3 152 [aR 0, aI x0] h (.inr 1, h1)) : Ct 4 350 [aR 0, aI x0, aR 236] h (.inl (some (aI 1)), h1) := by
  refine Ct.of [aR 0, aI x0, aR 236, aU] rfl ?_
  refine r_aldR cd_350_0 rfl rfl ?_
  refine r_con (v := 0) cd_350_1 rfl (by decide) ?_
  refine r_aldR cd_350_2 rfl rfl ?_
  refine r_ild cd_350_3 rfl rfl ?_
  refine r_dH (k1 := 1) (k2 := 6) (kc' := 1) (ks' := 6) (hp9 := 13) (sl := 3) hC cd_350_4 rfl rfl (rc0 h0 rfl) rfl rfl rfl rfl (Nat.le_of_ble_eq_true rfl) (Nat.le_of_ble_eq_true rfl) rfl rfl rfl (L' := [aR 0, aI x0, aR 236, aU]) rfl ?_
  refine r_con (v := 1) cd_350_13 rfl (by decide) ?_
  exact r_ret cd_350_14 True.intro (rfl)
theorem w_351 {h h1 : aH} (x0 : Int) {v : Int} {g : Nat → Int64} {fs : List aV} (h0 : h.2.2 0 = .inr (7, fs)) (hC : Ct 3 153 [aR 0, aI x0] h (.inl (some (aI v)), h1)) (hO : h1.2.2 236 = .inl (3, 1, .inr (.inl g))) : Ct 4 351 [aR 0, aI x0, aR 236] h (.inl (some (aI 0)), sw h1 236 (lgC g v)) := by
  refine Ct.of [aR 0, aI x0, aR 236, aU] rfl ?_
  refine r_aldR cd_351_0 rfl rfl ?_
  refine r_con (v := 0) cd_351_1 rfl (by decide) ?_
  refine r_aldR cd_351_2 rfl rfl ?_
  refine r_ild cd_351_3 rfl rfl ?_
  refine r_dI (k1 := 1) (k2 := 6) (kc' := 1) (ks' := 6) hC cd_351_4 rfl rfl rfl (rc0 h0 rfl) rfl rfl rfl rfl (Nat.le_of_ble_eq_true rfl) (Nat.le_of_ble_eq_true rfl) rfl ?_
  refine r_i2l cd_351_7 rfl ?_
  refine r_lst (i := 0) cd_351_8 rfl hO rfl (by omega) rfl ?_
  refine r_goto cd_351_9 ?_
  refine r_con (v := 0) cd_351_15 rfl (by decide) ?_
  exact r_ret cd_351_16 True.intro (rfl)
theorem u_351_0 {h h1 : aH} (x0 : Int) {fs : List aV} (h0 : h.2.2 0 = .inr (7, fs)) (hC : Ct 3 153 [aR 0, aI x0] h (.inr 0, h1)) : Ct 4 351 [aR 0, aI x0, aR 236] h (.inl (some (aI 1)), h1) := by
  refine Ct.of [aR 0, aI x0, aR 236, aU] rfl ?_
  refine r_aldR cd_351_0 rfl rfl ?_
  refine r_con (v := 0) cd_351_1 rfl (by decide) ?_
  refine r_aldR cd_351_2 rfl rfl ?_
  refine r_ild cd_351_3 rfl rfl ?_
  refine r_dH (k1 := 1) (k2 := 6) (kc' := 1) (ks' := 6) (hp9 := 13) (sl := 3) hC cd_351_4 rfl rfl (rc0 h0 rfl) rfl rfl rfl rfl (Nat.le_of_ble_eq_true rfl) (Nat.le_of_ble_eq_true rfl) rfl rfl rfl (L' := [aR 0, aI x0, aR 236, aU]) rfl ?_
  refine r_con (v := 1) cd_351_13 rfl (by decide) ?_
  exact r_ret cd_351_14 True.intro (rfl)
theorem w_352 {h h1 : aH} (x0 : Int) {v : Int} {g : Nat → Int64} {fs : List aV} (h0 : h.2.2 0 = .inr (7, fs)) (hC : Ct 3 154 [aR 0, aI x0] h (.inl (some (aI v)), h1)) (hO : h1.2.2 236 = .inl (3, 1, .inr (.inl g))) : Ct 4 352 [aR 0, aI x0, aR 236] h (.inl (some (aI 0)), sw h1 236 (lgC g v)) := by
  refine Ct.of [aR 0, aI x0, aR 236, aU] rfl ?_
  refine r_aldR cd_352_0 rfl rfl ?_
  refine r_con (v := 0) cd_352_1 rfl (by decide) ?_
  refine r_aldR cd_352_2 rfl rfl ?_
  refine r_ild cd_352_3 rfl rfl ?_
  refine r_dI (k1 := 1) (k2 := 6) (kc' := 1) (ks' := 6) hC cd_352_4 rfl rfl rfl (rc0 h0 rfl) rfl rfl rfl rfl (Nat.le_of_ble_eq_true rfl) (Nat.le_of_ble_eq_true rfl) rfl ?_
  refine r_i2l cd_352_7 rfl ?_
  refine r_lst (i := 0) cd_352_8 rfl hO rfl (by omega) rfl ?_
  refine r_goto cd_352_9 ?_
  refine r_con (v := 0) cd_352_15 rfl (by decide) ?_
  exact r_ret cd_352_16 True.intro (rfl)
theorem u_352_0 {h h1 : aH} (x0 : Int) {fs : List aV} (h0 : h.2.2 0 = .inr (7, fs)) (hC : Ct 3 154 [aR 0, aI x0] h (.inr 0, h1)) : Ct 4 352 [aR 0, aI x0, aR 236] h (.inl (some (aI 1)), h1) := by
  refine Ct.of [aR 0, aI x0, aR 236, aU] rfl ?_
  refine r_aldR cd_352_0 rfl rfl ?_
  refine r_con (v := 0) cd_352_1 rfl (by decide) ?_
  refine r_aldR cd_352_2 rfl rfl ?_
  refine r_ild cd_352_3 rfl rfl ?_
  refine r_dH (k1 := 1) (k2 := 6) (kc' := 1) (ks' := 6) (hp9 := 13) (sl := 3) hC cd_352_4 rfl rfl (rc0 h0 rfl) rfl rfl rfl rfl (Nat.le_of_ble_eq_true rfl) (Nat.le_of_ble_eq_true rfl) rfl rfl rfl (L' := [aR 0, aI x0, aR 236, aU]) rfl ?_
  refine r_con (v := 1) cd_352_13 rfl (by decide) ?_
  exact r_ret cd_352_14 True.intro (rfl)
theorem w_353 {h h1 : aH} (x0 : Int) {v : Int} {g : Nat → Int64} {fs : List aV} (h0 : h.2.2 0 = .inr (7, fs)) (hC : Ct 3 155 [aR 0, aI x0] h (.inl (some (aI v)), h1)) (hO : h1.2.2 236 = .inl (3, 1, .inr (.inl g))) : Ct 4 353 [aR 0, aI x0, aR 236] h (.inl (some (aI 0)), sw h1 236 (lgC g v)) := by
  refine Ct.of [aR 0, aI x0, aR 236, aU] rfl ?_
  refine r_aldR cd_353_0 rfl rfl ?_
  refine r_con (v := 0) cd_353_1 rfl (by decide) ?_
  refine r_aldR cd_353_2 rfl rfl ?_
  refine r_ild cd_353_3 rfl rfl ?_
  refine r_dI (k1 := 1) (k2 := 6) (kc' := 1) (ks' := 6) hC cd_353_4 rfl rfl rfl (rc0 h0 rfl) rfl rfl rfl rfl (Nat.le_of_ble_eq_true rfl) (Nat.le_of_ble_eq_true rfl) rfl ?_
  refine r_i2l cd_353_7 rfl ?_
  refine r_lst (i := 0) cd_353_8 rfl hO rfl (by omega) rfl ?_
  refine r_goto cd_353_9 ?_
  refine r_con (v := 0) cd_353_15 rfl (by decide) ?_
  exact r_ret cd_353_16 True.intro (rfl)
theorem u_353_0 {h h1 : aH} (x0 : Int) {fs : List aV} (h0 : h.2.2 0 = .inr (7, fs)) (hC : Ct 3 155 [aR 0, aI x0] h (.inr 0, h1)) : Ct 4 353 [aR 0, aI x0, aR 236] h (.inl (some (aI 1)), h1) := by
  refine Ct.of [aR 0, aI x0, aR 236, aU] rfl ?_
  refine r_aldR cd_353_0 rfl rfl ?_
  refine r_con (v := 0) cd_353_1 rfl (by decide) ?_
  refine r_aldR cd_353_2 rfl rfl ?_
  refine r_ild cd_353_3 rfl rfl ?_
  refine r_dH (k1 := 1) (k2 := 6) (kc' := 1) (ks' := 6) (hp9 := 13) (sl := 3) hC cd_353_4 rfl rfl (rc0 h0 rfl) rfl rfl rfl rfl (Nat.le_of_ble_eq_true rfl) (Nat.le_of_ble_eq_true rfl) rfl rfl rfl (L' := [aR 0, aI x0, aR 236, aU]) rfl ?_
  refine r_con (v := 1) cd_353_13 rfl (by decide) ?_
  exact r_ret cd_353_14 True.intro (rfl)
theorem w_354 {h h1 : aH} (x0 : Int) {v : Int} {g : Nat → Int64} {fs : List aV} (h0 : h.2.2 0 = .inr (7, fs)) (hC : Ct 3 156 [aR 0, aI x0] h (.inl (some (aI v)), h1)) (hO : h1.2.2 236 = .inl (3, 1, .inr (.inl g))) : Ct 4 354 [aR 0, aI x0, aR 236] h (.inl (some (aI 0)), sw h1 236 (lgC g v)) := by
  refine Ct.of [aR 0, aI x0, aR 236, aU] rfl ?_
  refine r_aldR cd_354_0 rfl rfl ?_
  refine r_con (v := 0) cd_354_1 rfl (by decide) ?_
  refine r_aldR cd_354_2 rfl rfl ?_
  refine r_ild cd_354_3 rfl rfl ?_
  refine r_dI (k1 := 1) (k2 := 6) (kc' := 1) (ks' := 6) hC cd_354_4 rfl rfl rfl (rc0 h0 rfl) rfl rfl rfl rfl (Nat.le_of_ble_eq_true rfl) (Nat.le_of_ble_eq_true rfl) rfl ?_
  refine r_i2l cd_354_7 rfl ?_
  refine r_lst (i := 0) cd_354_8 rfl hO rfl (by omega) rfl ?_
  refine r_goto cd_354_9 ?_
  refine r_con (v := 0) cd_354_15 rfl (by decide) ?_
  exact r_ret cd_354_16 True.intro (rfl)
theorem u_354_0 {h h1 : aH} (x0 : Int) {fs : List aV} (h0 : h.2.2 0 = .inr (7, fs)) (hC : Ct 3 156 [aR 0, aI x0] h (.inr 0, h1)) : Ct 4 354 [aR 0, aI x0, aR 236] h (.inl (some (aI 1)), h1) := by
  refine Ct.of [aR 0, aI x0, aR 236, aU] rfl ?_
  refine r_aldR cd_354_0 rfl rfl ?_
  refine r_con (v := 0) cd_354_1 rfl (by decide) ?_
  refine r_aldR cd_354_2 rfl rfl ?_
  refine r_ild cd_354_3 rfl rfl ?_
  refine r_dH (k1 := 1) (k2 := 6) (kc' := 1) (ks' := 6) (hp9 := 13) (sl := 3) hC cd_354_4 rfl rfl (rc0 h0 rfl) rfl rfl rfl rfl (Nat.le_of_ble_eq_true rfl) (Nat.le_of_ble_eq_true rfl) rfl rfl rfl (L' := [aR 0, aI x0, aR 236, aU]) rfl ?_
  refine r_con (v := 1) cd_354_13 rfl (by decide) ?_
  exact r_ret cd_354_14 True.intro (rfl)
theorem w_355 {h h1 : aH} (x0 : Int) {v : Int} {g : Nat → Int64} {fs : List aV} (h0 : h.2.2 0 = .inr (7, fs)) (hC : Ct 3 157 [aR 0, aI x0] h (.inl (some (aI v)), h1)) (hO : h1.2.2 236 = .inl (3, 1, .inr (.inl g))) : Ct 4 355 [aR 0, aI x0, aR 236] h (.inl (some (aI 0)), sw h1 236 (lgC g v)) := by
  refine Ct.of [aR 0, aI x0, aR 236, aU] rfl ?_
  refine r_aldR cd_355_0 rfl rfl ?_
  refine r_con (v := 0) cd_355_1 rfl (by decide) ?_
  refine r_aldR cd_355_2 rfl rfl ?_
  refine r_ild cd_355_3 rfl rfl ?_
  refine r_dI (k1 := 1) (k2 := 6) (kc' := 1) (ks' := 6) hC cd_355_4 rfl rfl rfl (rc0 h0 rfl) rfl rfl rfl rfl (Nat.le_of_ble_eq_true rfl) (Nat.le_of_ble_eq_true rfl) rfl ?_
  refine r_i2l cd_355_7 rfl ?_
  refine r_lst (i := 0) cd_355_8 rfl hO rfl (by omega) rfl ?_
  refine r_goto cd_355_9 ?_
  refine r_con (v := 0) cd_355_15 rfl (by decide) ?_
  exact r_ret cd_355_16 True.intro (rfl)
theorem u_355_0 {h h1 : aH} (x0 : Int) {fs : List aV} (h0 : h.2.2 0 = .inr (7, fs)) (hC : Ct 3 157 [aR 0, aI x0] h (.inr 0, h1)) : Ct 4 355 [aR 0, aI x0, aR 236] h (.inl (some (aI 1)), h1) := by
  refine Ct.of [aR 0, aI x0, aR 236, aU] rfl ?_
  refine r_aldR cd_355_0 rfl rfl ?_
  refine r_con (v := 0) cd_355_1 rfl (by decide) ?_
  refine r_aldR cd_355_2 rfl rfl ?_
  refine r_ild cd_355_3 rfl rfl ?_
  refine r_dH (k1 := 1) (k2 := 6) (kc' := 1) (ks' := 6) (hp9 := 13) (sl := 3) hC cd_355_4 rfl rfl (rc0 h0 rfl) rfl rfl rfl rfl (Nat.le_of_ble_eq_true rfl) (Nat.le_of_ble_eq_true rfl) rfl rfl rfl (L' := [aR 0, aI x0, aR 236, aU]) rfl ?_
  refine r_con (v := 1) cd_355_13 rfl (by decide) ?_
  exact r_ret cd_355_14 True.intro (rfl)
theorem w_356 {h h1 : aH} (x0 : Int) {v : Int} {g : Nat → Int64} {fs : List aV} (h0 : h.2.2 0 = .inr (7, fs)) (hC : Ct 3 158 [aR 0, aI x0] h (.inl (some (aI v)), h1)) (hO : h1.2.2 236 = .inl (3, 1, .inr (.inl g))) : Ct 4 356 [aR 0, aI x0, aR 236] h (.inl (some (aI 0)), sw h1 236 (lgC g v)) := by
  refine Ct.of [aR 0, aI x0, aR 236, aU] rfl ?_
  refine r_aldR cd_356_0 rfl rfl ?_
  refine r_con (v := 0) cd_356_1 rfl (by decide) ?_
  refine r_aldR cd_356_2 rfl rfl ?_
  refine r_ild cd_356_3 rfl rfl ?_
  refine r_dI (k1 := 1) (k2 := 6) (kc' := 1) (ks' := 6) hC cd_356_4 rfl rfl rfl (rc0 h0 rfl) rfl rfl rfl rfl (Nat.le_of_ble_eq_true rfl) (Nat.le_of_ble_eq_true rfl) rfl ?_
  refine r_i2l cd_356_7 rfl ?_
  refine r_lst (i := 0) cd_356_8 rfl hO rfl (by omega) rfl ?_
  refine r_goto cd_356_9 ?_
  refine r_con (v := 0) cd_356_15 rfl (by decide) ?_
  exact r_ret cd_356_16 True.intro (rfl)
theorem u_356_0 {h h1 : aH} (x0 : Int) {fs : List aV} (h0 : h.2.2 0 = .inr (7, fs)) (hC : Ct 3 158 [aR 0, aI x0] h (.inr 0, h1)) : Ct 4 356 [aR 0, aI x0, aR 236] h (.inl (some (aI 1)), h1) := by
  refine Ct.of [aR 0, aI x0, aR 236, aU] rfl ?_
  refine r_aldR cd_356_0 rfl rfl ?_
  refine r_con (v := 0) cd_356_1 rfl (by decide) ?_
  refine r_aldR cd_356_2 rfl rfl ?_
  refine r_ild cd_356_3 rfl rfl ?_
  refine r_dH (k1 := 1) (k2 := 6) (kc' := 1) (ks' := 6) (hp9 := 13) (sl := 3) hC cd_356_4 rfl rfl (rc0 h0 rfl) rfl rfl rfl rfl (Nat.le_of_ble_eq_true rfl) (Nat.le_of_ble_eq_true rfl) rfl rfl rfl (L' := [aR 0, aI x0, aR 236, aU]) rfl ?_
  refine r_con (v := 1) cd_356_13 rfl (by decide) ?_
  exact r_ret cd_356_14 True.intro (rfl)
theorem w_357 {h h1 : aH} (x0 : Int) {v : Int} {g : Nat → Int64} {fs : List aV} (h0 : h.2.2 0 = .inr (7, fs)) (hC : Ct 3 159 [aR 0, aI x0] h (.inl (some (aI v)), h1)) (hO : h1.2.2 236 = .inl (3, 1, .inr (.inl g))) : Ct 4 357 [aR 0, aI x0, aR 236] h (.inl (some (aI 0)), sw h1 236 (lgC g v)) := by
  refine Ct.of [aR 0, aI x0, aR 236, aU] rfl ?_
  refine r_aldR cd_357_0 rfl rfl ?_
  refine r_con (v := 0) cd_357_1 rfl (by decide) ?_
  refine r_aldR cd_357_2 rfl rfl ?_
  refine r_ild cd_357_3 rfl rfl ?_
  refine r_dI (k1 := 1) (k2 := 6) (kc' := 1) (ks' := 6) hC cd_357_4 rfl rfl rfl (rc0 h0 rfl) rfl rfl rfl rfl (Nat.le_of_ble_eq_true rfl) (Nat.le_of_ble_eq_true rfl) rfl ?_
  refine r_i2l cd_357_7 rfl ?_
  refine r_lst (i := 0) cd_357_8 rfl hO rfl (by omega) rfl ?_
  refine r_goto cd_357_9 ?_
  refine r_con (v := 0) cd_357_15 rfl (by decide) ?_
  exact r_ret cd_357_16 True.intro (rfl)
theorem u_357_0 {h h1 : aH} (x0 : Int) {fs : List aV} (h0 : h.2.2 0 = .inr (7, fs)) (hC : Ct 3 159 [aR 0, aI x0] h (.inr 0, h1)) : Ct 4 357 [aR 0, aI x0, aR 236] h (.inl (some (aI 1)), h1) := by
  refine Ct.of [aR 0, aI x0, aR 236, aU] rfl ?_
  refine r_aldR cd_357_0 rfl rfl ?_
  refine r_con (v := 0) cd_357_1 rfl (by decide) ?_
  refine r_aldR cd_357_2 rfl rfl ?_
  refine r_ild cd_357_3 rfl rfl ?_
  refine r_dH (k1 := 1) (k2 := 6) (kc' := 1) (ks' := 6) (hp9 := 13) (sl := 3) hC cd_357_4 rfl rfl (rc0 h0 rfl) rfl rfl rfl rfl (Nat.le_of_ble_eq_true rfl) (Nat.le_of_ble_eq_true rfl) rfl rfl rfl (L' := [aR 0, aI x0, aR 236, aU]) rfl ?_
  refine r_con (v := 1) cd_357_13 rfl (by decide) ?_
  exact r_ret cd_357_14 True.intro (rfl)
theorem w_358 {h h1 : aH} (x0 : Int) {v : Int} {g : Nat → Int64} {fs : List aV} (h0 : h.2.2 0 = .inr (7, fs)) (hC : Ct 3 160 [aR 0, aI x0] h (.inl (some (aI v)), h1)) (hO : h1.2.2 236 = .inl (3, 1, .inr (.inl g))) : Ct 4 358 [aR 0, aI x0, aR 236] h (.inl (some (aI 0)), sw h1 236 (lgC g v)) := by
  refine Ct.of [aR 0, aI x0, aR 236, aU] rfl ?_
  refine r_aldR cd_358_0 rfl rfl ?_
  refine r_con (v := 0) cd_358_1 rfl (by decide) ?_
  refine r_aldR cd_358_2 rfl rfl ?_
  refine r_ild cd_358_3 rfl rfl ?_
  refine r_dI (k1 := 1) (k2 := 6) (kc' := 1) (ks' := 6) hC cd_358_4 rfl rfl rfl (rc0 h0 rfl) rfl rfl rfl rfl (Nat.le_of_ble_eq_true rfl) (Nat.le_of_ble_eq_true rfl) rfl ?_
  refine r_i2l cd_358_7 rfl ?_
  refine r_lst (i := 0) cd_358_8 rfl hO rfl (by omega) rfl ?_
  refine r_goto cd_358_9 ?_
  refine r_con (v := 0) cd_358_15 rfl (by decide) ?_
  exact r_ret cd_358_16 True.intro (rfl)
theorem u_358_0 {h h1 : aH} (x0 : Int) {fs : List aV} (h0 : h.2.2 0 = .inr (7, fs)) (hC : Ct 3 160 [aR 0, aI x0] h (.inr 0, h1)) : Ct 4 358 [aR 0, aI x0, aR 236] h (.inl (some (aI 1)), h1) := by
  refine Ct.of [aR 0, aI x0, aR 236, aU] rfl ?_
  refine r_aldR cd_358_0 rfl rfl ?_
  refine r_con (v := 0) cd_358_1 rfl (by decide) ?_
  refine r_aldR cd_358_2 rfl rfl ?_
  refine r_ild cd_358_3 rfl rfl ?_
  refine r_dH (k1 := 1) (k2 := 6) (kc' := 1) (ks' := 6) (hp9 := 13) (sl := 3) hC cd_358_4 rfl rfl (rc0 h0 rfl) rfl rfl rfl rfl (Nat.le_of_ble_eq_true rfl) (Nat.le_of_ble_eq_true rfl) rfl rfl rfl (L' := [aR 0, aI x0, aR 236, aU]) rfl ?_
  refine r_con (v := 1) cd_358_13 rfl (by decide) ?_
  exact r_ret cd_358_14 True.intro (rfl)
theorem w_359 {h h1 : aH} (x0 : Int) {v : Int} {g : Nat → Int64} {fs : List aV} (h0 : h.2.2 0 = .inr (7, fs)) (hC : Ct 3 161 [aR 0, aI x0] h (.inl (some (aI v)), h1)) (hO : h1.2.2 236 = .inl (3, 1, .inr (.inl g))) : Ct 4 359 [aR 0, aI x0, aR 236] h (.inl (some (aI 0)), sw h1 236 (lgC g v)) := by
  refine Ct.of [aR 0, aI x0, aR 236, aU] rfl ?_
  refine r_aldR cd_359_0 rfl rfl ?_
  refine r_con (v := 0) cd_359_1 rfl (by decide) ?_
  refine r_aldR cd_359_2 rfl rfl ?_
  refine r_ild cd_359_3 rfl rfl ?_
  refine r_dI (k1 := 1) (k2 := 6) (kc' := 1) (ks' := 6) hC cd_359_4 rfl rfl rfl (rc0 h0 rfl) rfl rfl rfl rfl (Nat.le_of_ble_eq_true rfl) (Nat.le_of_ble_eq_true rfl) rfl ?_
  refine r_i2l cd_359_7 rfl ?_
  refine r_lst (i := 0) cd_359_8 rfl hO rfl (by omega) rfl ?_
  refine r_goto cd_359_9 ?_
  refine r_con (v := 0) cd_359_15 rfl (by decide) ?_
  exact r_ret cd_359_16 True.intro (rfl)
theorem u_359_0 {h h1 : aH} (x0 : Int) {fs : List aV} (h0 : h.2.2 0 = .inr (7, fs)) (hC : Ct 3 161 [aR 0, aI x0] h (.inr 0, h1)) : Ct 4 359 [aR 0, aI x0, aR 236] h (.inl (some (aI 1)), h1) := by
  refine Ct.of [aR 0, aI x0, aR 236, aU] rfl ?_
  refine r_aldR cd_359_0 rfl rfl ?_
  refine r_con (v := 0) cd_359_1 rfl (by decide) ?_
  refine r_aldR cd_359_2 rfl rfl ?_
  refine r_ild cd_359_3 rfl rfl ?_
  refine r_dH (k1 := 1) (k2 := 6) (kc' := 1) (ks' := 6) (hp9 := 13) (sl := 3) hC cd_359_4 rfl rfl (rc0 h0 rfl) rfl rfl rfl rfl (Nat.le_of_ble_eq_true rfl) (Nat.le_of_ble_eq_true rfl) rfl rfl rfl (L' := [aR 0, aI x0, aR 236, aU]) rfl ?_
  refine r_con (v := 1) cd_359_13 rfl (by decide) ?_
  exact r_ret cd_359_14 True.intro (rfl)
theorem w_360 {h h1 : aH} (x0 : Int) {v : Int} {g : Nat → Int64} {fs : List aV} (h0 : h.2.2 0 = .inr (7, fs)) (hC : Ct 3 162 [aR 0, aI x0] h (.inl (some (aI v)), h1)) (hO : h1.2.2 236 = .inl (3, 1, .inr (.inl g))) : Ct 4 360 [aR 0, aI x0, aR 236] h (.inl (some (aI 0)), sw h1 236 (lgC g v)) := by
  refine Ct.of [aR 0, aI x0, aR 236, aU] rfl ?_
  refine r_aldR cd_360_0 rfl rfl ?_
  refine r_con (v := 0) cd_360_1 rfl (by decide) ?_
  refine r_aldR cd_360_2 rfl rfl ?_
  refine r_ild cd_360_3 rfl rfl ?_
  refine r_dI (k1 := 1) (k2 := 6) (kc' := 1) (ks' := 6) hC cd_360_4 rfl rfl rfl (rc0 h0 rfl) rfl rfl rfl rfl (Nat.le_of_ble_eq_true rfl) (Nat.le_of_ble_eq_true rfl) rfl ?_
  refine r_i2l cd_360_7 rfl ?_
  refine r_lst (i := 0) cd_360_8 rfl hO rfl (by omega) rfl ?_
  refine r_goto cd_360_9 ?_
  refine r_con (v := 0) cd_360_15 rfl (by decide) ?_
  exact r_ret cd_360_16 True.intro (rfl)
theorem u_360_0 {h h1 : aH} (x0 : Int) {fs : List aV} (h0 : h.2.2 0 = .inr (7, fs)) (hC : Ct 3 162 [aR 0, aI x0] h (.inr 0, h1)) : Ct 4 360 [aR 0, aI x0, aR 236] h (.inl (some (aI 1)), h1) := by
  refine Ct.of [aR 0, aI x0, aR 236, aU] rfl ?_
  refine r_aldR cd_360_0 rfl rfl ?_
  refine r_con (v := 0) cd_360_1 rfl (by decide) ?_
  refine r_aldR cd_360_2 rfl rfl ?_
  refine r_ild cd_360_3 rfl rfl ?_
  refine r_dH (k1 := 1) (k2 := 6) (kc' := 1) (ks' := 6) (hp9 := 13) (sl := 3) hC cd_360_4 rfl rfl (rc0 h0 rfl) rfl rfl rfl rfl (Nat.le_of_ble_eq_true rfl) (Nat.le_of_ble_eq_true rfl) rfl rfl rfl (L' := [aR 0, aI x0, aR 236, aU]) rfl ?_
  refine r_con (v := 1) cd_360_13 rfl (by decide) ?_
  exact r_ret cd_360_14 True.intro (rfl)
theorem w_361 {h h1 : aH} (x0 : Int) {v : Int} {g : Nat → Int64} {fs : List aV} (h0 : h.2.2 0 = .inr (7, fs)) (hC : Ct 3 163 [aR 0, aI x0] h (.inl (some (aI v)), h1)) (hO : h1.2.2 236 = .inl (3, 1, .inr (.inl g))) : Ct 4 361 [aR 0, aI x0, aR 236] h (.inl (some (aI 0)), sw h1 236 (lgC g v)) := by
  refine Ct.of [aR 0, aI x0, aR 236, aU] rfl ?_
  refine r_aldR cd_361_0 rfl rfl ?_
  refine r_con (v := 0) cd_361_1 rfl (by decide) ?_
  refine r_aldR cd_361_2 rfl rfl ?_
  refine r_ild cd_361_3 rfl rfl ?_
  refine r_dI (k1 := 1) (k2 := 6) (kc' := 1) (ks' := 6) hC cd_361_4 rfl rfl rfl (rc0 h0 rfl) rfl rfl rfl rfl (Nat.le_of_ble_eq_true rfl) (Nat.le_of_ble_eq_true rfl) rfl ?_
  refine r_i2l cd_361_7 rfl ?_
  refine r_lst (i := 0) cd_361_8 rfl hO rfl (by omega) rfl ?_
  refine r_goto cd_361_9 ?_
  refine r_con (v := 0) cd_361_15 rfl (by decide) ?_
  exact r_ret cd_361_16 True.intro (rfl)
theorem u_361_0 {h h1 : aH} (x0 : Int) {fs : List aV} (h0 : h.2.2 0 = .inr (7, fs)) (hC : Ct 3 163 [aR 0, aI x0] h (.inr 0, h1)) : Ct 4 361 [aR 0, aI x0, aR 236] h (.inl (some (aI 1)), h1) := by
  refine Ct.of [aR 0, aI x0, aR 236, aU] rfl ?_
  refine r_aldR cd_361_0 rfl rfl ?_
  refine r_con (v := 0) cd_361_1 rfl (by decide) ?_
  refine r_aldR cd_361_2 rfl rfl ?_
  refine r_ild cd_361_3 rfl rfl ?_
  refine r_dH (k1 := 1) (k2 := 6) (kc' := 1) (ks' := 6) (hp9 := 13) (sl := 3) hC cd_361_4 rfl rfl (rc0 h0 rfl) rfl rfl rfl rfl (Nat.le_of_ble_eq_true rfl) (Nat.le_of_ble_eq_true rfl) rfl rfl rfl (L' := [aR 0, aI x0, aR 236, aU]) rfl ?_
  refine r_con (v := 1) cd_361_13 rfl (by decide) ?_
  exact r_ret cd_361_14 True.intro (rfl)
theorem w_362 {h h1 : aH} (x0 : Int) {v : Int} {g : Nat → Int64} {fs : List aV} (h0 : h.2.2 0 = .inr (7, fs)) (hC : Ct 3 164 [aR 0, aI x0] h (.inl (some (aI v)), h1)) (hO : h1.2.2 236 = .inl (3, 1, .inr (.inl g))) : Ct 4 362 [aR 0, aI x0, aR 236] h (.inl (some (aI 0)), sw h1 236 (lgC g v)) := by
  refine Ct.of [aR 0, aI x0, aR 236, aU] rfl ?_
  refine r_aldR cd_362_0 rfl rfl ?_
  refine r_con (v := 0) cd_362_1 rfl (by decide) ?_
  refine r_aldR cd_362_2 rfl rfl ?_
  refine r_ild cd_362_3 rfl rfl ?_
  refine r_dI (k1 := 1) (k2 := 6) (kc' := 1) (ks' := 6) hC cd_362_4 rfl rfl rfl (rc0 h0 rfl) rfl rfl rfl rfl (Nat.le_of_ble_eq_true rfl) (Nat.le_of_ble_eq_true rfl) rfl ?_
  refine r_i2l cd_362_7 rfl ?_
  refine r_lst (i := 0) cd_362_8 rfl hO rfl (by omega) rfl ?_
  refine r_goto cd_362_9 ?_
  refine r_con (v := 0) cd_362_15 rfl (by decide) ?_
  exact r_ret cd_362_16 True.intro (rfl)
theorem u_362_0 {h h1 : aH} (x0 : Int) {fs : List aV} (h0 : h.2.2 0 = .inr (7, fs)) (hC : Ct 3 164 [aR 0, aI x0] h (.inr 0, h1)) : Ct 4 362 [aR 0, aI x0, aR 236] h (.inl (some (aI 1)), h1) := by
  refine Ct.of [aR 0, aI x0, aR 236, aU] rfl ?_
  refine r_aldR cd_362_0 rfl rfl ?_
  refine r_con (v := 0) cd_362_1 rfl (by decide) ?_
  refine r_aldR cd_362_2 rfl rfl ?_
  refine r_ild cd_362_3 rfl rfl ?_
  refine r_dH (k1 := 1) (k2 := 6) (kc' := 1) (ks' := 6) (hp9 := 13) (sl := 3) hC cd_362_4 rfl rfl (rc0 h0 rfl) rfl rfl rfl rfl (Nat.le_of_ble_eq_true rfl) (Nat.le_of_ble_eq_true rfl) rfl rfl rfl (L' := [aR 0, aI x0, aR 236, aU]) rfl ?_
  refine r_con (v := 1) cd_362_13 rfl (by decide) ?_
  exact r_ret cd_362_14 True.intro (rfl)
theorem w_363 {h h1 : aH} (x0 : Int) {v : Int} {g : Nat → Int64} {fs : List aV} (h0 : h.2.2 0 = .inr (7, fs)) (hC : Ct 3 165 [aR 0, aI x0] h (.inl (some (aI v)), h1)) (hO : h1.2.2 236 = .inl (3, 1, .inr (.inl g))) : Ct 4 363 [aR 0, aI x0, aR 236] h (.inl (some (aI 0)), sw h1 236 (lgC g v)) := by
  refine Ct.of [aR 0, aI x0, aR 236, aU] rfl ?_
  refine r_aldR cd_363_0 rfl rfl ?_
  refine r_con (v := 0) cd_363_1 rfl (by decide) ?_
  refine r_aldR cd_363_2 rfl rfl ?_
  refine r_ild cd_363_3 rfl rfl ?_
  refine r_dI (k1 := 1) (k2 := 6) (kc' := 1) (ks' := 6) hC cd_363_4 rfl rfl rfl (rc0 h0 rfl) rfl rfl rfl rfl (Nat.le_of_ble_eq_true rfl) (Nat.le_of_ble_eq_true rfl) rfl ?_
  refine r_i2l cd_363_7 rfl ?_
  refine r_lst (i := 0) cd_363_8 rfl hO rfl (by omega) rfl ?_
  refine r_goto cd_363_9 ?_
  refine r_con (v := 0) cd_363_15 rfl (by decide) ?_
  exact r_ret cd_363_16 True.intro (rfl)
theorem u_363_0 {h h1 : aH} (x0 : Int) {fs : List aV} (h0 : h.2.2 0 = .inr (7, fs)) (hC : Ct 3 165 [aR 0, aI x0] h (.inr 0, h1)) : Ct 4 363 [aR 0, aI x0, aR 236] h (.inl (some (aI 1)), h1) := by
  refine Ct.of [aR 0, aI x0, aR 236, aU] rfl ?_
  refine r_aldR cd_363_0 rfl rfl ?_
  refine r_con (v := 0) cd_363_1 rfl (by decide) ?_
  refine r_aldR cd_363_2 rfl rfl ?_
  refine r_ild cd_363_3 rfl rfl ?_
  refine r_dH (k1 := 1) (k2 := 6) (kc' := 1) (ks' := 6) (hp9 := 13) (sl := 3) hC cd_363_4 rfl rfl (rc0 h0 rfl) rfl rfl rfl rfl (Nat.le_of_ble_eq_true rfl) (Nat.le_of_ble_eq_true rfl) rfl rfl rfl (L' := [aR 0, aI x0, aR 236, aU]) rfl ?_
  refine r_con (v := 1) cd_363_13 rfl (by decide) ?_
  exact r_ret cd_363_14 True.intro (rfl)
theorem w_364 {h h1 : aH} (x0 : Int) {v : Int} {g : Nat → Int64} {fs : List aV} (h0 : h.2.2 0 = .inr (7, fs)) (hC : Ct 3 166 [aR 0, aI x0] h (.inl (some (aI v)), h1)) (hO : h1.2.2 236 = .inl (3, 1, .inr (.inl g))) : Ct 4 364 [aR 0, aI x0, aR 236] h (.inl (some (aI 0)), sw h1 236 (lgC g v)) := by
  refine Ct.of [aR 0, aI x0, aR 236, aU] rfl ?_
  refine r_aldR cd_364_0 rfl rfl ?_
  refine r_con (v := 0) cd_364_1 rfl (by decide) ?_
  refine r_aldR cd_364_2 rfl rfl ?_
  refine r_ild cd_364_3 rfl rfl ?_
  refine r_dI (k1 := 1) (k2 := 6) (kc' := 1) (ks' := 6) hC cd_364_4 rfl rfl rfl (rc0 h0 rfl) rfl rfl rfl rfl (Nat.le_of_ble_eq_true rfl) (Nat.le_of_ble_eq_true rfl) rfl ?_
  refine r_i2l cd_364_7 rfl ?_
  refine r_lst (i := 0) cd_364_8 rfl hO rfl (by omega) rfl ?_
  refine r_goto cd_364_9 ?_
  refine r_con (v := 0) cd_364_15 rfl (by decide) ?_
  exact r_ret cd_364_16 True.intro (rfl)
theorem u_364_0 {h h1 : aH} (x0 : Int) {fs : List aV} (h0 : h.2.2 0 = .inr (7, fs)) (hC : Ct 3 166 [aR 0, aI x0] h (.inr 0, h1)) : Ct 4 364 [aR 0, aI x0, aR 236] h (.inl (some (aI 1)), h1) := by
  refine Ct.of [aR 0, aI x0, aR 236, aU] rfl ?_
  refine r_aldR cd_364_0 rfl rfl ?_
  refine r_con (v := 0) cd_364_1 rfl (by decide) ?_
  refine r_aldR cd_364_2 rfl rfl ?_
  refine r_ild cd_364_3 rfl rfl ?_
  refine r_dH (k1 := 1) (k2 := 6) (kc' := 1) (ks' := 6) (hp9 := 13) (sl := 3) hC cd_364_4 rfl rfl (rc0 h0 rfl) rfl rfl rfl rfl (Nat.le_of_ble_eq_true rfl) (Nat.le_of_ble_eq_true rfl) rfl rfl rfl (L' := [aR 0, aI x0, aR 236, aU]) rfl ?_
  refine r_con (v := 1) cd_364_13 rfl (by decide) ?_
  exact r_ret cd_364_14 True.intro (rfl)
theorem w_365 {h h1 : aH} (x0 x1 : Int) {v : Int} {g : Nat → Int64} {fs : List aV} (h0 : h.2.2 0 = .inr (7, fs)) (hC : Ct 4 167 [aR 0, aI x0, aI x1] h (.inl (some (aI v)), h1)) (hO : h1.2.2 236 = .inl (3, 1, .inr (.inl g))) : Ct 5 365 [aR 0, aI x0, aI x1, aR 236] h (.inl (some (aI 0)), sw h1 236 (lgC g v)) := by
  refine Ct.of [aR 0, aI x0, aI x1, aR 236, aU] rfl ?_
  refine r_aldR cd_365_0 rfl rfl ?_
  refine r_con (v := 0) cd_365_1 rfl (by decide) ?_
  refine r_aldR cd_365_2 rfl rfl ?_
  refine r_ild cd_365_3 rfl rfl ?_
  refine r_ild cd_365_4 rfl rfl ?_
  refine r_dI (k1 := 2) (k2 := 12) (kc' := 2) (ks' := 12) hC cd_365_5 rfl rfl rfl (rc0 h0 rfl) rfl rfl rfl rfl (Nat.le_of_ble_eq_true rfl) (Nat.le_of_ble_eq_true rfl) rfl ?_
  refine r_i2l cd_365_8 rfl ?_
  refine r_lst (i := 0) cd_365_9 rfl hO rfl (by omega) rfl ?_
  refine r_goto cd_365_10 ?_
  refine r_con (v := 0) cd_365_17 rfl (by decide) ?_
  exact r_ret cd_365_18 True.intro (rfl)
theorem u_365_0 {h h1 : aH} (x0 x1 : Int) {fs : List aV} (h0 : h.2.2 0 = .inr (7, fs)) (hC : Ct 4 167 [aR 0, aI x0, aI x1] h (.inr 0, h1)) : Ct 5 365 [aR 0, aI x0, aI x1, aR 236] h (.inl (some (aI 1)), h1) := by
  refine Ct.of [aR 0, aI x0, aI x1, aR 236, aU] rfl ?_
  refine r_aldR cd_365_0 rfl rfl ?_
  refine r_con (v := 0) cd_365_1 rfl (by decide) ?_
  refine r_aldR cd_365_2 rfl rfl ?_
  refine r_ild cd_365_3 rfl rfl ?_
  refine r_ild cd_365_4 rfl rfl ?_
  refine r_dH (k1 := 2) (k2 := 12) (kc' := 2) (ks' := 12) (hp9 := 15) (sl := 4) hC cd_365_5 rfl rfl (rc0 h0 rfl) rfl rfl rfl rfl (Nat.le_of_ble_eq_true rfl) (Nat.le_of_ble_eq_true rfl) rfl rfl rfl (L' := [aR 0, aI x0, aI x1, aR 236, aU]) rfl ?_
  refine r_con (v := 1) cd_365_15 rfl (by decide) ?_
  exact r_ret cd_365_16 True.intro (rfl)
theorem w_366 {h h1 : aH} (x0 : Int) {v : Int} {g : Nat → Int64} {fs : List aV} (h0 : h.2.2 0 = .inr (7, fs)) (hC : Ct 4 168 [aR 0, aI x0] h (.inl (some (aI v)), h1)) (hO : h1.2.2 236 = .inl (3, 1, .inr (.inl g))) : Ct 5 366 [aR 0, aI x0, aR 236] h (.inl (some (aI 0)), sw h1 236 (lgC g v)) := by
  refine Ct.of [aR 0, aI x0, aR 236, aU] rfl ?_
  refine r_aldR cd_366_0 rfl rfl ?_
  refine r_con (v := 0) cd_366_1 rfl (by decide) ?_
  refine r_aldR cd_366_2 rfl rfl ?_
  refine r_ild cd_366_3 rfl rfl ?_
  refine r_dI (k1 := 1) (k2 := 6) (kc' := 1) (ks' := 6) hC cd_366_4 rfl rfl rfl (rc0 h0 rfl) rfl rfl rfl rfl (Nat.le_of_ble_eq_true rfl) (Nat.le_of_ble_eq_true rfl) rfl ?_
  refine r_i2l cd_366_7 rfl ?_
  refine r_lst (i := 0) cd_366_8 rfl hO rfl (by omega) rfl ?_
  refine r_goto cd_366_9 ?_
  refine r_con (v := 0) cd_366_15 rfl (by decide) ?_
  exact r_ret cd_366_16 True.intro (rfl)
theorem u_366_0 {h h1 : aH} (x0 : Int) {fs : List aV} (h0 : h.2.2 0 = .inr (7, fs)) (hC : Ct 4 168 [aR 0, aI x0] h (.inr 0, h1)) : Ct 5 366 [aR 0, aI x0, aR 236] h (.inl (some (aI 1)), h1) := by
  refine Ct.of [aR 0, aI x0, aR 236, aU] rfl ?_
  refine r_aldR cd_366_0 rfl rfl ?_
  refine r_con (v := 0) cd_366_1 rfl (by decide) ?_
  refine r_aldR cd_366_2 rfl rfl ?_
  refine r_ild cd_366_3 rfl rfl ?_
  refine r_dH (k1 := 1) (k2 := 6) (kc' := 1) (ks' := 6) (hp9 := 13) (sl := 3) hC cd_366_4 rfl rfl (rc0 h0 rfl) rfl rfl rfl rfl (Nat.le_of_ble_eq_true rfl) (Nat.le_of_ble_eq_true rfl) rfl rfl rfl (L' := [aR 0, aI x0, aR 236, aU]) rfl ?_
  refine r_con (v := 1) cd_366_13 rfl (by decide) ?_
  exact r_ret cd_366_14 True.intro (rfl)
theorem w_367 {h h1 : aH} (x0 : Int) {v : Int} {g : Nat → Int64} {fs : List aV} (h0 : h.2.2 0 = .inr (7, fs)) (hC : Ct 3 169 [aR 0, aI x0] h (.inl (some (aI v)), h1)) (hO : h1.2.2 236 = .inl (3, 1, .inr (.inl g))) : Ct 4 367 [aR 0, aI x0, aR 236] h (.inl (some (aI 0)), sw h1 236 (lgC g v)) := by
  refine Ct.of [aR 0, aI x0, aR 236, aU] rfl ?_
  refine r_aldR cd_367_0 rfl rfl ?_
  refine r_con (v := 0) cd_367_1 rfl (by decide) ?_
  refine r_aldR cd_367_2 rfl rfl ?_
  refine r_ild cd_367_3 rfl rfl ?_
  refine r_dI (k1 := 1) (k2 := 6) (kc' := 1) (ks' := 6) hC cd_367_4 rfl rfl rfl (rc0 h0 rfl) rfl rfl rfl rfl (Nat.le_of_ble_eq_true rfl) (Nat.le_of_ble_eq_true rfl) rfl ?_
  refine r_i2l cd_367_7 rfl ?_
  refine r_lst (i := 0) cd_367_8 rfl hO rfl (by omega) rfl ?_
  refine r_goto cd_367_9 ?_
  refine r_con (v := 0) cd_367_15 rfl (by decide) ?_
  exact r_ret cd_367_16 True.intro (rfl)
theorem u_367_0 {h h1 : aH} (x0 : Int) {fs : List aV} (h0 : h.2.2 0 = .inr (7, fs)) (hC : Ct 3 169 [aR 0, aI x0] h (.inr 0, h1)) : Ct 4 367 [aR 0, aI x0, aR 236] h (.inl (some (aI 1)), h1) := by
  refine Ct.of [aR 0, aI x0, aR 236, aU] rfl ?_
  refine r_aldR cd_367_0 rfl rfl ?_
  refine r_con (v := 0) cd_367_1 rfl (by decide) ?_
  refine r_aldR cd_367_2 rfl rfl ?_
  refine r_ild cd_367_3 rfl rfl ?_
  refine r_dH (k1 := 1) (k2 := 6) (kc' := 1) (ks' := 6) (hp9 := 13) (sl := 3) hC cd_367_4 rfl rfl (rc0 h0 rfl) rfl rfl rfl rfl (Nat.le_of_ble_eq_true rfl) (Nat.le_of_ble_eq_true rfl) rfl rfl rfl (L' := [aR 0, aI x0, aR 236, aU]) rfl ?_
  refine r_con (v := 1) cd_367_13 rfl (by decide) ?_
  exact r_ret cd_367_14 True.intro (rfl)
theorem w_368 {h h1 : aH} (x0 : Int) {v : Int} {g : Nat → Int64} {fs : List aV} (h0 : h.2.2 0 = .inr (7, fs)) (hC : Ct 5 170 [aR 0, aI x0] h (.inl (some (aI v)), h1)) (hO : h1.2.2 236 = .inl (3, 1, .inr (.inl g))) : Ct 6 368 [aR 0, aI x0, aR 236] h (.inl (some (aI 0)), sw h1 236 (lgC g v)) := by
  refine Ct.of [aR 0, aI x0, aR 236, aU] rfl ?_
  refine r_aldR cd_368_0 rfl rfl ?_
  refine r_con (v := 0) cd_368_1 rfl (by decide) ?_
  refine r_aldR cd_368_2 rfl rfl ?_
  refine r_ild cd_368_3 rfl rfl ?_
  refine r_dI (k1 := 1) (k2 := 6) (kc' := 1) (ks' := 6) hC cd_368_4 rfl rfl rfl (rc0 h0 rfl) rfl rfl rfl rfl (Nat.le_of_ble_eq_true rfl) (Nat.le_of_ble_eq_true rfl) rfl ?_
  refine r_i2l cd_368_7 rfl ?_
  refine r_lst (i := 0) cd_368_8 rfl hO rfl (by omega) rfl ?_
  refine r_goto cd_368_9 ?_
  refine r_con (v := 0) cd_368_15 rfl (by decide) ?_
  exact r_ret cd_368_16 True.intro (rfl)
theorem u_368_0 {h h1 : aH} (x0 : Int) {fs : List aV} (h0 : h.2.2 0 = .inr (7, fs)) (hC : Ct 5 170 [aR 0, aI x0] h (.inr 0, h1)) : Ct 6 368 [aR 0, aI x0, aR 236] h (.inl (some (aI 1)), h1) := by
  refine Ct.of [aR 0, aI x0, aR 236, aU] rfl ?_
  refine r_aldR cd_368_0 rfl rfl ?_
  refine r_con (v := 0) cd_368_1 rfl (by decide) ?_
  refine r_aldR cd_368_2 rfl rfl ?_
  refine r_ild cd_368_3 rfl rfl ?_
  refine r_dH (k1 := 1) (k2 := 6) (kc' := 1) (ks' := 6) (hp9 := 13) (sl := 3) hC cd_368_4 rfl rfl (rc0 h0 rfl) rfl rfl rfl rfl (Nat.le_of_ble_eq_true rfl) (Nat.le_of_ble_eq_true rfl) rfl rfl rfl (L' := [aR 0, aI x0, aR 236, aU]) rfl ?_
  refine r_con (v := 1) cd_368_13 rfl (by decide) ?_
  exact r_ret cd_368_14 True.intro (rfl)
theorem w_369 {h h1 : aH} (x0 x1 : Int) {v : Int} {g : Nat → Int64} {fs : List aV} (h0 : h.2.2 0 = .inr (7, fs)) (hC : Ct 6 171 [aR 0, aI x0, aI x1] h (.inl (some (aI v)), h1)) (hO : h1.2.2 236 = .inl (3, 1, .inr (.inl g))) : Ct 7 369 [aR 0, aI x0, aI x1, aR 236] h (.inl (some (aI 0)), sw h1 236 (lgC g v)) := by
  refine Ct.of [aR 0, aI x0, aI x1, aR 236, aU] rfl ?_
  refine r_aldR cd_369_0 rfl rfl ?_
  refine r_con (v := 0) cd_369_1 rfl (by decide) ?_
  refine r_aldR cd_369_2 rfl rfl ?_
  refine r_ild cd_369_3 rfl rfl ?_
  refine r_ild cd_369_4 rfl rfl ?_
  refine r_dI (k1 := 2) (k2 := 12) (kc' := 2) (ks' := 12) hC cd_369_5 rfl rfl rfl (rc0 h0 rfl) rfl rfl rfl rfl (Nat.le_of_ble_eq_true rfl) (Nat.le_of_ble_eq_true rfl) rfl ?_
  refine r_i2l cd_369_8 rfl ?_
  refine r_lst (i := 0) cd_369_9 rfl hO rfl (by omega) rfl ?_
  refine r_goto cd_369_10 ?_
  refine r_con (v := 0) cd_369_21 rfl (by decide) ?_
  exact r_ret cd_369_22 True.intro (rfl)
theorem u_369_0 {h h1 : aH} (x0 x1 : Int) {fs : List aV} (h0 : h.2.2 0 = .inr (7, fs)) (hC : Ct 6 171 [aR 0, aI x0, aI x1] h (.inr 0, h1)) : Ct 7 369 [aR 0, aI x0, aI x1, aR 236] h (.inl (some (aI 1)), h1) := by
  refine Ct.of [aR 0, aI x0, aI x1, aR 236, aU] rfl ?_
  refine r_aldR cd_369_0 rfl rfl ?_
  refine r_con (v := 0) cd_369_1 rfl (by decide) ?_
  refine r_aldR cd_369_2 rfl rfl ?_
  refine r_ild cd_369_3 rfl rfl ?_
  refine r_ild cd_369_4 rfl rfl ?_
  refine r_dH (k1 := 2) (k2 := 12) (kc' := 2) (ks' := 12) (hp9 := 15) (sl := 4) hC cd_369_5 rfl rfl (rc0 h0 rfl) rfl rfl rfl rfl (Nat.le_of_ble_eq_true rfl) (Nat.le_of_ble_eq_true rfl) rfl rfl rfl (L' := [aR 0, aI x0, aI x1, aR 236, aU]) rfl ?_
  refine r_con (v := 1) cd_369_15 rfl (by decide) ?_
  exact r_ret cd_369_16 True.intro (rfl)
theorem u_369_1 {h h1 : aH} (x0 x1 : Int) {fs : List aV} (h0 : h.2.2 0 = .inr (7, fs)) (hC : Ct 6 171 [aR 0, aI x0, aI x1] h (.inr 1, h1)) : Ct 7 369 [aR 0, aI x0, aI x1, aR 236] h (.inl (some (aI 2)), h1) := by
  refine Ct.of [aR 0, aI x0, aI x1, aR 236, aU] rfl ?_
  refine r_aldR cd_369_0 rfl rfl ?_
  refine r_con (v := 0) cd_369_1 rfl (by decide) ?_
  refine r_aldR cd_369_2 rfl rfl ?_
  refine r_ild cd_369_3 rfl rfl ?_
  refine r_ild cd_369_4 rfl rfl ?_
  refine r_dH (k1 := 2) (k2 := 12) (kc' := 2) (ks' := 12) (hp9 := 19) (sl := 4) hC cd_369_5 rfl rfl (rc0 h0 rfl) rfl rfl rfl rfl (Nat.le_of_ble_eq_true rfl) (Nat.le_of_ble_eq_true rfl) rfl rfl rfl (L' := [aR 0, aI x0, aI x1, aR 236, aU]) rfl ?_
  refine r_con (v := 2) cd_369_19 rfl (by decide) ?_
  exact r_ret cd_369_20 True.intro (rfl)
theorem w_370 {h h1 : aH} (x0 x1 : Int) {v : Int} {g : Nat → Int64} {fs : List aV} (h0 : h.2.2 0 = .inr (7, fs)) (hC : Ct 6 173 [aR 0, aI x0, aI x1] h (.inl (some (aI v)), h1)) (hO : h1.2.2 236 = .inl (3, 1, .inr (.inl g))) : Ct 7 370 [aR 0, aI x0, aI x1, aR 236] h (.inl (some (aI 0)), sw h1 236 (lgC g v)) := by
  refine Ct.of [aR 0, aI x0, aI x1, aR 236, aU] rfl ?_
  refine r_aldR cd_370_0 rfl rfl ?_
  refine r_con (v := 0) cd_370_1 rfl (by decide) ?_
  refine r_aldR cd_370_2 rfl rfl ?_
  refine r_ild cd_370_3 rfl rfl ?_
  refine r_ild cd_370_4 rfl rfl ?_
  refine r_dI (k1 := 2) (k2 := 12) (kc' := 2) (ks' := 12) hC cd_370_5 rfl rfl rfl (rc0 h0 rfl) rfl rfl rfl rfl (Nat.le_of_ble_eq_true rfl) (Nat.le_of_ble_eq_true rfl) rfl ?_
  refine r_i2l cd_370_8 rfl ?_
  refine r_lst (i := 0) cd_370_9 rfl hO rfl (by omega) rfl ?_
  refine r_goto cd_370_10 ?_
  refine r_con (v := 0) cd_370_21 rfl (by decide) ?_
  exact r_ret cd_370_22 True.intro (rfl)
theorem u_370_0 {h h1 : aH} (x0 x1 : Int) {fs : List aV} (h0 : h.2.2 0 = .inr (7, fs)) (hC : Ct 6 173 [aR 0, aI x0, aI x1] h (.inr 0, h1)) : Ct 7 370 [aR 0, aI x0, aI x1, aR 236] h (.inl (some (aI 1)), h1) := by
  refine Ct.of [aR 0, aI x0, aI x1, aR 236, aU] rfl ?_
  refine r_aldR cd_370_0 rfl rfl ?_
  refine r_con (v := 0) cd_370_1 rfl (by decide) ?_
  refine r_aldR cd_370_2 rfl rfl ?_
  refine r_ild cd_370_3 rfl rfl ?_
  refine r_ild cd_370_4 rfl rfl ?_
  refine r_dH (k1 := 2) (k2 := 12) (kc' := 2) (ks' := 12) (hp9 := 15) (sl := 4) hC cd_370_5 rfl rfl (rc0 h0 rfl) rfl rfl rfl rfl (Nat.le_of_ble_eq_true rfl) (Nat.le_of_ble_eq_true rfl) rfl rfl rfl (L' := [aR 0, aI x0, aI x1, aR 236, aU]) rfl ?_
  refine r_con (v := 1) cd_370_15 rfl (by decide) ?_
  exact r_ret cd_370_16 True.intro (rfl)
theorem u_370_1 {h h1 : aH} (x0 x1 : Int) {fs : List aV} (h0 : h.2.2 0 = .inr (7, fs)) (hC : Ct 6 173 [aR 0, aI x0, aI x1] h (.inr 1, h1)) : Ct 7 370 [aR 0, aI x0, aI x1, aR 236] h (.inl (some (aI 2)), h1) := by
  refine Ct.of [aR 0, aI x0, aI x1, aR 236, aU] rfl ?_
  refine r_aldR cd_370_0 rfl rfl ?_
  refine r_con (v := 0) cd_370_1 rfl (by decide) ?_
  refine r_aldR cd_370_2 rfl rfl ?_
  refine r_ild cd_370_3 rfl rfl ?_
  refine r_ild cd_370_4 rfl rfl ?_
  refine r_dH (k1 := 2) (k2 := 12) (kc' := 2) (ks' := 12) (hp9 := 19) (sl := 4) hC cd_370_5 rfl rfl (rc0 h0 rfl) rfl rfl rfl rfl (Nat.le_of_ble_eq_true rfl) (Nat.le_of_ble_eq_true rfl) rfl rfl rfl (L' := [aR 0, aI x0, aI x1, aR 236, aU]) rfl ?_
  refine r_con (v := 2) cd_370_19 rfl (by decide) ?_
  exact r_ret cd_370_20 True.intro (rfl)
theorem w_371 {h h1 : aH} (x0 : Int) {v : Int} {g : Nat → Int64} {fs : List aV} (h0 : h.2.2 0 = .inr (7, fs)) (hC : Ct 5 174 [aR 0, aI x0] h (.inl (some (aI v)), h1)) (hO : h1.2.2 236 = .inl (3, 1, .inr (.inl g))) : Ct 6 371 [aR 0, aI x0, aR 236] h (.inl (some (aI 0)), sw h1 236 (lgC g v)) := by
  refine Ct.of [aR 0, aI x0, aR 236, aU] rfl ?_
  refine r_aldR cd_371_0 rfl rfl ?_
  refine r_con (v := 0) cd_371_1 rfl (by decide) ?_
  refine r_aldR cd_371_2 rfl rfl ?_
  refine r_ild cd_371_3 rfl rfl ?_
  refine r_dI (k1 := 1) (k2 := 6) (kc' := 1) (ks' := 6) hC cd_371_4 rfl rfl rfl (rc0 h0 rfl) rfl rfl rfl rfl (Nat.le_of_ble_eq_true rfl) (Nat.le_of_ble_eq_true rfl) rfl ?_
  refine r_i2l cd_371_7 rfl ?_
  refine r_lst (i := 0) cd_371_8 rfl hO rfl (by omega) rfl ?_
  refine r_goto cd_371_9 ?_
  refine r_con (v := 0) cd_371_15 rfl (by decide) ?_
  exact r_ret cd_371_16 True.intro (rfl)
theorem u_371_0 {h h1 : aH} (x0 : Int) {fs : List aV} (h0 : h.2.2 0 = .inr (7, fs)) (hC : Ct 5 174 [aR 0, aI x0] h (.inr 0, h1)) : Ct 6 371 [aR 0, aI x0, aR 236] h (.inl (some (aI 1)), h1) := by
  refine Ct.of [aR 0, aI x0, aR 236, aU] rfl ?_
  refine r_aldR cd_371_0 rfl rfl ?_
  refine r_con (v := 0) cd_371_1 rfl (by decide) ?_
  refine r_aldR cd_371_2 rfl rfl ?_
  refine r_ild cd_371_3 rfl rfl ?_
  refine r_dH (k1 := 1) (k2 := 6) (kc' := 1) (ks' := 6) (hp9 := 13) (sl := 3) hC cd_371_4 rfl rfl (rc0 h0 rfl) rfl rfl rfl rfl (Nat.le_of_ble_eq_true rfl) (Nat.le_of_ble_eq_true rfl) rfl rfl rfl (L' := [aR 0, aI x0, aR 236, aU]) rfl ?_
  refine r_con (v := 1) cd_371_13 rfl (by decide) ?_
  exact r_ret cd_371_14 True.intro (rfl)
theorem w_372 {h h1 : aH} (x0 : Int) {v : Int} {g : Nat → Int64} {fs : List aV} (h0 : h.2.2 0 = .inr (7, fs)) (hC : Ct 5 175 [aR 0, aI x0] h (.inl (some (aI v)), h1)) (hO : h1.2.2 236 = .inl (3, 1, .inr (.inl g))) : Ct 6 372 [aR 0, aI x0, aR 236] h (.inl (some (aI 0)), sw h1 236 (lgC g v)) := by
  refine Ct.of [aR 0, aI x0, aR 236, aU] rfl ?_
  refine r_aldR cd_372_0 rfl rfl ?_
  refine r_con (v := 0) cd_372_1 rfl (by decide) ?_
  refine r_aldR cd_372_2 rfl rfl ?_
  refine r_ild cd_372_3 rfl rfl ?_
  refine r_dI (k1 := 1) (k2 := 6) (kc' := 1) (ks' := 6) hC cd_372_4 rfl rfl rfl (rc0 h0 rfl) rfl rfl rfl rfl (Nat.le_of_ble_eq_true rfl) (Nat.le_of_ble_eq_true rfl) rfl ?_
  refine r_i2l cd_372_7 rfl ?_
  refine r_lst (i := 0) cd_372_8 rfl hO rfl (by omega) rfl ?_
  refine r_goto cd_372_9 ?_
  refine r_con (v := 0) cd_372_15 rfl (by decide) ?_
  exact r_ret cd_372_16 True.intro (rfl)
theorem u_372_0 {h h1 : aH} (x0 : Int) {fs : List aV} (h0 : h.2.2 0 = .inr (7, fs)) (hC : Ct 5 175 [aR 0, aI x0] h (.inr 0, h1)) : Ct 6 372 [aR 0, aI x0, aR 236] h (.inl (some (aI 1)), h1) := by
  refine Ct.of [aR 0, aI x0, aR 236, aU] rfl ?_
  refine r_aldR cd_372_0 rfl rfl ?_
  refine r_con (v := 0) cd_372_1 rfl (by decide) ?_
  refine r_aldR cd_372_2 rfl rfl ?_
  refine r_ild cd_372_3 rfl rfl ?_
  refine r_dH (k1 := 1) (k2 := 6) (kc' := 1) (ks' := 6) (hp9 := 13) (sl := 3) hC cd_372_4 rfl rfl (rc0 h0 rfl) rfl rfl rfl rfl (Nat.le_of_ble_eq_true rfl) (Nat.le_of_ble_eq_true rfl) rfl rfl rfl (L' := [aR 0, aI x0, aR 236, aU]) rfl ?_
  refine r_con (v := 1) cd_372_13 rfl (by decide) ?_
  exact r_ret cd_372_14 True.intro (rfl)
