/-! THE LAW: its cases that change (written by wip/whole/gen75.py) -/
theorem MS.rem {s P kd tx s' P' b0 w : Nat → Int} {t : Int} {ps : List (Nat → Int)} {kp : Option (Nat → Int)} {T : Nat} {ek eo : Int} {rl : Nat} (S : MS s P kd tx t ps kp T ek eo rl) (hl : ps.length ≤ 8) (R : RmP (va_up s 15 0) ps.length P (cpF w 0 0 0 211 b0) s' P') : MS s' P' kd tx 0 (pus w ps) kp T ek eo rl := by
  obtain ⟨a1, a2, a3, a4, a5, a6, -, a8, a9, a10⟩ := S
  obtain ⟨r1, r2, r3⟩ := R
  refine ⟨?_, (r2 6 (by decide)).trans a2, (r2 9 (by decide)).trans a3, (r2 11 (by decide)).trans a4, (r2 12 (by decide)).trans a5, (r2 14 (by decide)).trans a6, (r2 15 (by decide)).trans (vu_at _ _ _), a8, fun q v hq j hj => ?_, a10⟩
  · rw [r1, pus_len hl]
    by_cases e : ps.length = 8
    · rw [if_pos e, if_pos e]; rfl
    · rw [if_neg e, if_neg e]; omega
  · have hw : ∀ j, j < 211 → cpF w 0 0 0 211 b0 j = w j := fun j hj => by
      rw [cpF_at, if_pos (by omega), show 0 + (j - 0) = j by omega]
    rw [pus_len hl, r3]
    rcases pus_at hq with ⟨rfl, rfl⟩ | ⟨i, rfl, hi, hp⟩
    · by_cases e : ps.length = 8
      · rw [if_pos e, if_pos e, cpF_at, if_pos (by omega), show 0 + (211 * (8 - 1 - 0) + j - 211 * 7) = j by omega]
        exact hw j hj
      · rw [if_neg e, if_neg e, cpF_at, if_pos (by omega), show 0 + (211 * (ps.length + 1 - 1 - 0) + j - 211 * ps.length) = j by omega]
        exact hw j hj
    · have hl2 : i < ps.length := by
        rcases Nat.lt_or_ge i ps.length with h | h
        · exact h
        · rw [List.getElem?_eq_none h] at hp; cases hp
      have hv := a9 i v hp j hj
      by_cases e : ps.length = 8
      · rw [if_pos e, if_pos e, cpF_at, if_neg (by omega), shF_at (by omega), if_pos (by omega), show 211 * (8 - 1 - (i + 1)) + j + 211 = 211 * (ps.length - 1 - i) + j by omega]
        exact hv
      · rw [if_neg e, if_neg e, cpF_at, if_neg (by omega), show 211 * (ps.length + 1 - 1 - (i + 1)) + j = 211 * (ps.length - 1 - i) + j by omega]
        exact hv
theorem WF.pus {w w2 : Nat → Int} {ps : List (Nat → Int)} {kp : Option (Nat → Int)} {T : Nat} {bu : Nat → Int} {rl : Nat} {rp : Nat → Int} (W : WF w ps kp T bu rl rp) (hz : IZ w2) : WF w2 (pus w ps) kp T bu rl rp := by
  obtain ⟨b1, b2, b3, b4⟩ := W
  refine ⟨hz, ?_, fun v hv => ?_, b4⟩
  · rw [pus_len b2]
    split <;> omega
  · rcases List.mem_cons.mp (List.mem_of_mem_take hv) with e | e
    · rw [e]; exact b1
    · exact b3 v e
section LCHG
variable {h : aH} {t : Int} {g : Nat → Int64} {w : Nat → Int} {ps : List (Nat → Int)} {kp : Option (Nat → Int)} {T : Nat} {bu : Nat → Int} {ek eo : Int} {rl : Nat} {rp : Nat → Int} {s b0 as P kd tx nu : Nat → Int} {Kw yw Km ym : Nat} {ar : List aV}
theorem BP.chg (M : MC h s w b0 as P kd bu tx rp nu) (S : MS s P kd tx t ps kp T ek eo rl) (W : WF w ps kp T bu rl rp) {h1 : aH} {w2 : Nat → Int} {v : Int} (C' : CR h1 w2 (pus w ps) kp T bu ek eo rl rp) (F : Fc h h1) (hz : IZ w2) (hw : Ct Kw yw (aR 0 :: (ar ++ [aR 236])) h (.inl (some (aI 0)), sw h1 236 (lgC g v))) (hr : ∃ s' P', Ct Km ym (aR 226 :: ar) (sw h1 236 (lgC g v)) (.inl (some (aI v)), sw (sw (sw (sw (sw (sw h1 236 (lgC g v)) 226 (.inr (8, Mo (va_up s 15 0)))) 228 (.inl (0, 211, .inl (cpF w 0 0 0 211 b0)))) 227 (.inl (0, 211, .inl w2))) 230 (.inl (0, 1688, .inl P'))) 226 (.inr (8, Mo s'))) ∧ RmP (va_up s 15 0) ps.length P (cpF w 0 0 0 211 b0) s' P') : BP Kw yw Km ym ar h := by
  obtain ⟨s', P', c2, rm⟩ := hr
  have fr : ∀ a, ¬ a = 226 → ¬ a = 227 → ¬ a = 228 → ¬ a = 230 → ¬ a = 236 → (sw (sw (sw (sw (sw (sw h1 236 (lgC g v)) 226 (.inr (8, Mo (va_up s 15 0)))) 228 (.inl (0, 211, .inl (cpF w 0 0 0 211 b0)))) 227 (.inl (0, 211, .inl w2))) 230 (.inl (0, 1688, .inl P'))) 226 (.inr (8, Mo s'))).2.2 a = h1.2.2 a := fun a g1 g2 g3 g4 g5 => (sw_ne g1).trans ((sw_ne g4).trans ((sw_ne g2).trans ((sw_ne g3).trans ((sw_ne g1).trans (sw_ne g5)))))
  obtain ⟨m1, m2, m3, m4, m5, m6, m7, m8, m9, m10⟩ := M
  have fm : ∀ a, 226 ≤ a → ¬ a = 226 → ¬ a = 227 → ¬ a = 228 → ¬ a = 230 → ¬ a = 236 → _ := fun a g0 g1 g2 g3 g4 g5 => (fr a g1 g2 g3 g4 g5).trans (F.1 a g0)
  refine ⟨_, _, 0, v, va_up g 0 (i32 v).toInt64, w2, pus w ps, kp, T, bu, ek, eo, rl, rp, hw, ⟨s, (sw_ne (by decide)).trans ((F.1 226 (by decide)).trans m1)⟩, c2, ⟨C'.mv fun a ha => fr a (by omega) (by omega) (by omega) (by omega) (by omega), ⟨s', cpF w 0 0 0 211 b0, as, P', kd, tx, nu, ⟨sw_at _ _ _, (sw_ne (by decide)).trans ((sw_ne (by decide)).trans (sw_at _ _ _)), (sw_ne (by decide)).trans ((sw_ne (by decide)).trans ((sw_ne (by decide)).trans (sw_at _ _ _))), (fm 229 (by decide) (by decide) (by decide) (by decide) (by decide) (by decide)).trans m4, (sw_ne (by decide)).trans (sw_at _ _ _), (fm 231 (by decide) (by decide) (by decide) (by decide) (by decide) (by decide)).trans m6, (fm 232 (by decide) (by decide) (by decide) (by decide) (by decide) (by decide)).trans m7, (fm 233 (by decide) (by decide) (by decide) (by decide) (by decide) (by decide)).trans m8, (fm 234 (by decide) (by decide) (by decide) (by decide) (by decide) (by decide)).trans m9, (fm 235 (by decide) (by decide) (by decide) (by decide) (by decide) (by decide)).trans m10⟩, S.rem W.2.1 rm⟩, W.pus hz, ?_⟩, fun _ => vu_at _ _ _, F.2.1, by decide, by decide, F.2.1⟩
  exact (sw_ne (by decide)).trans ((sw_ne (by decide)).trans ((sw_ne (by decide)).trans ((sw_ne (by decide)).trans ((sw_ne (by decide)).trans (sw_at _ _ _)))))
theorem post_6 (hI : Inv0 w) {y0 y1 y2 y3 : Int} : postW w y0 y1 y2 y3 6 - 1 = ((nP w : Nat) : Int) := by
  have hp := hI.pNe
  have e : po1 w y0 y1 y2 y3 6 = w 6 := by
    unfold po1
    rw [vu_ne (by omega), vu_ne (by omega), vu_ne (by omega), vu_ne (by omega), vu_ne (by omega), vu_ne (by omega)]
  unfold postW
  rw [vu_at, e]
  omega
theorem fill_1 {b : Nat} {x : Int} : bo (fillW w b x) b 1 = bo w b 1 + x := by
  show va_up (va_up (sbo w b 1 (bo w b 1 + x)) 2 _) 9 _ (83 + 4 * b + 1) = _
  rw [vu_ne (by omega), vu_ne (by omega)]
  exact vu_at _ _ _
theorem tie_n2 {p b : Nat} (h : whyT w p b = 0) : ¬ pa w p 4 = 2 := by
  intro e
  unfold whyT at h
  rw [if_pos (by omega)] at h
  cases h
theorem unt_iz (h : IZ w) {p : Nat} (hp : p < nP w) (hq : canU w p = true) : IZ (untW w p) := by
  have hc := canU_iff.mp hq
  have hb := h.1.1.bNe
  have h9 := (h.1.1.ps p hp).2.2.2.2
  exact h.unt (q := p) (b := (pa w p 5).toNat) hp (by omega) (tied_iff.mpr ⟨hc.1, by omega⟩)
theorem l_3 (J : JJ h t g w ps kp T bu ek eo rl rp) (y0 : Int) (hy0 : inR y0) (y1 : Int) (hy1 : inR y1) : BP 8 332 3 254 [aI y0, aI y1] h := by
  obtain ⟨C, ⟨s, b0, as, P, kd, tx, nu, M, S⟩, W, O⟩ := J
  have hI := W.1.1.1
  obtain ⟨h0, hR, -⟩ := id C
  cases g0 : isPl w y0 with
  | false =>
    have e : tRoof w y0 y1 = 1 := by simp [tRoof, g0]
    exact BP.bad C M S W O (c := 1) (u_332_0 y0 y1 h0 (z_130_0 C hI y0 hy0 y1 hy1 g0)) (by have q := b_254 M.1 M.2.1 hI y0 hy0 y1 hy1 (by rw [e]; decide); rw [e] at q; exact q) (by decide) (by decide)
  | true =>
    cases g1 : inB y1 0 9 with
    | false =>
      have e : tRoof w y0 y1 = 2 := by simp [tRoof, g0, g1]
      exact BP.bad C M S W O (c := 2) (u_332_1 y0 y1 h0 (z_130_1 C hI y0 hy0 y1 hy1 g0 g1)) (by have q := b_254 M.1 M.2.1 hI y0 hy0 y1 hy1 (by rw [e]; decide); rw [e] at q; exact q) (by decide) (by decide)
    | true =>
      obtain ⟨k0, rfl⟩ : ∃ k : Nat, y0 = ((k : Nat) : Int) := ⟨y0.toNat, by have := isPl_iff.mp g0; omega⟩
      have e0 := isPl_iff.mp g0
      have e1 := inB_iff.mp g1
      have hbn := hI.bNe
      have hpn := hI.pNe
      have hln := hI.len
      have hrn := hI.hour
      have hgn := hI.gas
      have h4n := hI.gn
      obtain ⟨h1, c1, C1, F1⟩ := x_130 C hI W.2.1 _ hy0 y1 hy1 g0 g1 (k_76_0 hR hI _ _ _) (fun h1 R => v_84_0 R hI k0 (by omega) y1 0 0)
      have MH := M.mv (h' := sw h1 236 (lgC g (w (23 + k0)))) fun a h1 h2 => (sw_ne (by omega)).trans (F1.1 a h1)
      exact BP.chg M S W C1 F1 (IZ.setS W.1 (by omega) (by omega) (by omega) (by omega) (by omega) (by omega) (by omega)) (w_332 _ y1 h0 c1 ((F1.1 236 (by decide)).trans O)) (g_254 MH.1 MH.2.1 MH.2.2.1 MH.2.2.2.2.1 hI ps.length S.1 W.2.1 k0 y1 hy1 (by omega) (by omega) (by omega))
theorem l_4 (J : JJ h t g w ps kp T bu ek eo rl rp) (y0 : Int) (hy0 : inR y0) (y1 : Int) (hy1 : inR y1) : BP 8 333 3 257 [aI y0, aI y1] h := by
  obtain ⟨C, ⟨s, b0, as, P, kd, tx, nu, M, S⟩, W, O⟩ := J
  have hI := W.1.1.1
  obtain ⟨h0, hR, -⟩ := id C
  cases g0 : isPl w y0 with
  | false =>
    have e : tRoof w y0 y1 = 1 := by simp [tRoof, g0]
    exact BP.bad C M S W O (c := 1) (u_333_0 y0 y1 h0 (z_133_0 C hI y0 hy0 y1 hy1 g0)) (by have q := b_257 M.1 M.2.1 hI y0 hy0 y1 hy1 (by rw [e]; decide); rw [e] at q; exact q) (by decide) (by decide)
  | true =>
    cases g1 : inB y1 0 9 with
    | false =>
      have e : tRoof w y0 y1 = 2 := by simp [tRoof, g0, g1]
      exact BP.bad C M S W O (c := 2) (u_333_1 y0 y1 h0 (z_133_1 C hI y0 hy0 y1 hy1 g0 g1)) (by have q := b_257 M.1 M.2.1 hI y0 hy0 y1 hy1 (by rw [e]; decide); rw [e] at q; exact q) (by decide) (by decide)
    | true =>
      obtain ⟨k0, rfl⟩ : ∃ k : Nat, y0 = ((k : Nat) : Int) := ⟨y0.toNat, by have := isPl_iff.mp g0; omega⟩
      have e0 := isPl_iff.mp g0
      have e1 := inB_iff.mp g1
      have hbn := hI.bNe
      have hpn := hI.pNe
      have hln := hI.len
      have hrn := hI.hour
      have hgn := hI.gas
      have h4n := hI.gn
      obtain ⟨h1, c1, C1, F1⟩ := x_133 C hI W.2.1 _ hy0 y1 hy1 g0 g1 (k_76_1 hR hI _ _ _) (fun h1 R => v_84_1 R hI k0 (by omega) y1 0 0)
      have MH := M.mv (h' := sw h1 236 (lgC g (w (53 + k0)))) fun a h1 h2 => (sw_ne (by omega)).trans (F1.1 a h1)
      exact BP.chg M S W C1 F1 (IZ.setS W.1 (by omega) (by omega) (by omega) (by omega) (by omega) (by omega) (by omega)) (w_333 _ y1 h0 c1 ((F1.1 236 (by decide)).trans O)) (g_257 MH.1 MH.2.1 MH.2.2.1 MH.2.2.2.2.1 hI ps.length S.1 W.2.1 k0 y1 hy1 (by omega) (by omega) (by omega))
theorem l_5 (J : JJ h t g w ps kp T bu ek eo rl rp) (y0 : Int) (hy0 : inR y0) : BP 8 334 2 258 [aI y0] h := by
  obtain ⟨C, ⟨s, b0, as, P, kd, tx, nu, M, S⟩, W, O⟩ := J
  have hI := W.1.1.1
  obtain ⟨h0, hR, -⟩ := id C
  cases g0 : inB y0 (-3) 3 with
  | false =>
    have e : tGust w y0 = 1 := by simp [tGust, g0]
    exact BP.bad C M S W O (c := 1) (u_334_1 y0 h0 (z_134_0 C hI y0 hy0 g0)) (by have q := b_258 M.1 M.2.1 hI y0 hy0 (by rw [e]; decide); rw [e] at q; exact q) (by decide) (by decide)
  | true =>
    have e0 := inB_iff.mp g0
    have hbn := hI.bNe
    have hpn := hI.pNe
    have hln := hI.len
    have hrn := hI.hour
    have hgn := hI.gas
    have h4n := hI.gn
    by_cases hq : w 4 = 12
    · have e : tGust w y0 = 2 := by simp [tGust, g0, hq]
      exact BP.bad C M S W O (c := 2) (u_334_2 y0 h0 (r_134c C hI y0 hy0 g0 ((k_76_2 hR hI _ _ _).eq (by simp [hq])))) (by have q := b_258 M.1 M.2.1 hI y0 hy0 (by rw [e]; decide); rw [e] at q; exact q) (by decide) (by decide)
    · have dm2 := 0
      obtain ⟨h1, c1, C1, F1⟩ := x_134 C hI W.2.1 y0 hy0 g0 ((k_76_2 hR hI _ _ _).eq (by simp [hq])) (fun h1 R => v_84_2 R hI y0 (by omega) 0 0 0)
      have MH := M.mv (h' := sw h1 236 (lgC g (w 4 + 1))) fun a h1 h2 => (sw_ne (by omega)).trans (F1.1 a h1)
      have ve : blowW w y0 4 = w 4 + 1 := by unfold blowW; rw [vu_at, vu_ne (by omega)]
      exact BP.chg M S W C1 F1 (IZ.blow W.1 (by omega) (by omega) (by omega)) (w_334 y0 h0 c1 ((F1.1 236 (by decide)).trans O)) (by have q := g_258 MH.1 MH.2.1 MH.2.2.1 MH.2.2.2.2.1 hI ps.length S.1 W.2.1 y0 hy0 (by omega) (by omega) (by omega); rw [ve] at q; exact q)
theorem l_6 (J : JJ h t g w ps kp T bu ek eo rl rp) (y0 : Int) (hy0 : inR y0) : BP 8 335 3 259 [aI y0] h := by
  obtain ⟨C, ⟨s, b0, as, P, kd, tx, nu, M, S⟩, W, O⟩ := J
  have hI := W.1.1.1
  obtain ⟨h0, hR, -⟩ := id C
  cases g0 : inB y0 1 9 with
  | false =>
    have e : tLeak y0 = 1 := by simp [tLeak, g0]
    exact BP.bad C M S W O (c := 1) (u_335_1 y0 h0 (z_135_0 C hI y0 hy0 g0)) (by have q := b_259 M.1 M.2.1 hI y0 hy0 (by rw [e]; decide); rw [e] at q; exact q) (by decide) (by decide)
  | true =>
    have e0 := inB_iff.mp g0
    have hbn := hI.bNe
    have hpn := hI.pNe
    have hln := hI.len
    have hrn := hI.hour
    have hgn := hI.gas
    have h4n := hI.gn
    obtain ⟨h1, c1, C1, F1⟩ := x_135 C hI W.2.1 y0 hy0 g0 (k_76_3 hR hI _ _ _) (fun h1 R => v_84_3 R hI y0 0 0 0)
    have MH := M.mv (h' := sw h1 236 (lgC g (w 3))) fun a h1 h2 => (sw_ne (by omega)).trans (F1.1 a h1)
    exact BP.chg M S W C1 F1 (IZ.setS W.1 (by omega) (by omega) (by omega) (by omega) (by omega) (by omega) (by omega)) (w_335 y0 h0 c1 ((F1.1 236 (by decide)).trans O)) (g_259 MH.1 MH.2.1 MH.2.2.1 MH.2.2.2.2.1 hI ps.length S.1 W.2.1 y0 hy0 (by omega) (by omega))
theorem l_7 (J : JJ h t g w ps kp T bu ek eo rl rp) (y0 : Int) (hy0 : inR y0) (y1 : Int) (hy1 : inR y1) (y2 : Int) (hy2 : inR y2) : BP 8 336 3 260 [aI y0, aI y1, aI y2] h := by
  obtain ⟨C, ⟨s, b0, as, P, kd, tx, nu, M, S⟩, W, O⟩ := J
  have hI := W.1.1.1
  obtain ⟨h0, hR, -⟩ := id C
  cases g0 : isPl w y0 with
  | false =>
    have e : tBalo w y0 y1 y2 = 1 := by simp [tBalo, g0]
    exact BP.bad C M S W O (c := 1) (u_336_0 y0 y1 y2 h0 (z_136_0 C hI y0 hy0 y1 hy1 y2 hy2 g0)) (by have q := b_260 M.1 M.2.1 hI y0 hy0 y1 hy1 y2 hy2 (by rw [e]; decide); rw [e] at q; exact q) (by decide) (by decide)
  | true =>
    cases g1 : inB y1 1 30 with
    | false =>
      have e : tBalo w y0 y1 y2 = 2 := by simp [tBalo, g0, g1]
      exact BP.bad C M S W O (c := 2) (u_336_1 y0 y1 y2 h0 (z_136_1 C hI y0 hy0 y1 hy1 y2 hy2 g0 g1)) (by have q := b_260 M.1 M.2.1 hI y0 hy0 y1 hy1 y2 hy2 (by rw [e]; decide); rw [e] at q; exact q) (by decide) (by decide)
    | true =>
      cases g2 : inB y2 1 9 with
      | false =>
        have e : tBalo w y0 y1 y2 = 2 := by simp [tBalo, g0, g1, g2]
        exact BP.bad C M S W O (c := 2) (u_336_1 y0 y1 y2 h0 (z_136_2 C hI y0 hy0 y1 hy1 y2 hy2 g0 g1 g2)) (by have q := b_260 M.1 M.2.1 hI y0 hy0 y1 hy1 y2 hy2 (by rw [e]; decide); rw [e] at q; exact q) (by decide) (by decide)
      | true =>
        have e0 := isPl_iff.mp g0
        have e1 := inB_iff.mp g1
        have e2 := inB_iff.mp g2
        have hbn := hI.bNe
        have hpn := hI.pNe
        have hln := hI.len
        have hrn := hI.hour
        have hgn := hI.gas
        have h4n := hI.gn
        by_cases hq : w 5 = 8
        · have e : tBalo w y0 y1 y2 = 3 := by simp [tBalo, g0, g1, g2, hq]
          exact BP.bad C M S W O (c := 3) (u_336_2 y0 y1 y2 h0 (r_136c C hI y0 hy0 y1 hy1 y2 hy2 g0 g1 g2 ((k_76_4 hR hI _ _ _).eq (by simp [hq])))) (by have q := b_260 M.1 M.2.1 hI y0 hy0 y1 hy1 y2 hy2 (by rw [e]; decide); rw [e] at q; exact q) (by decide) (by decide)
        · have dm2 := 0
          obtain ⟨h1, c1, C1, F1⟩ := x_136 C hI W.2.1 y0 hy0 y1 hy1 y2 hy2 g0 g1 g2 ((k_76_4 hR hI _ _ _).eq (by simp [hq])) (fun h1 R => v_84_4 R hI y0 y1 y2 (by omega) 0)
          have MH := M.mv (h' := sw h1 236 (lgC g (w 5))) fun a h1 h2 => (sw_ne (by omega)).trans (F1.1 a h1)
          have ve : ((nB w : Nat) : Int) = w 5 := hI.bNe.1
          exact BP.chg M S W C1 F1 (IZ.brin W.1 (by omega) ⟨by omega, by omega⟩ ⟨by omega, by omega⟩ ⟨by omega, by omega⟩) (w_336 y0 y1 y2 h0 c1 ((F1.1 236 (by decide)).trans O)) (by have q := g_260 MH.1 MH.2.1 MH.2.2.1 MH.2.2.2.2.1 hI ps.length S.1 W.2.1 y0 hy0 y1 hy1 y2 hy2 (by omega) (by omega) (by omega) (by omega) (by omega) (by omega) (by omega); rw [ve] at q; exact q)
theorem l_8 (J : JJ h t g w ps kp T bu ek eo rl rp) (y0 : Int) (hy0 : inR y0) (y1 : Int) (hy1 : inR y1) (y2 : Int) (hy2 : inR y2) (y3 : Int) (hy3 : inR y3) : BP 8 337 3 262 [aI y0, aI y1, aI y2, aI y3] h := by
  obtain ⟨C, ⟨s, b0, as, P, kd, tx, nu, M, S⟩, W, O⟩ := J
  have hI := W.1.1.1
  obtain ⟨h0, hR, -⟩ := id C
  cases g0 : isPl w y1 with
  | false =>
    have e : tParc w y0 y1 y2 y3 = 1 := by simp [tParc, g0]
    exact BP.bad C M S W O (c := 1) (u_337_0 y0 y1 y2 y3 h0 (z_137_0 C hI y0 hy0 y1 hy1 y2 hy2 y3 hy3 g0)) (by have q := b_262 M.1 M.2.1 hI y0 hy0 y1 hy1 y2 hy2 y3 hy3 (by rw [e]; decide); rw [e] at q; exact q) (by decide) (by decide)
  | true =>
    cases g1 : isPl w y2 with
    | false =>
      have e : tParc w y0 y1 y2 y3 = 1 := by simp [tParc, g0, g1]
      exact BP.bad C M S W O (c := 1) (u_337_0 y0 y1 y2 y3 h0 (z_137_1 C hI y0 hy0 y1 hy1 y2 hy2 y3 hy3 g0 g1)) (by have q := b_262 M.1 M.2.1 hI y0 hy0 y1 hy1 y2 hy2 y3 hy3 (by rw [e]; decide); rw [e] at q; exact q) (by decide) (by decide)
    | true =>
      by_cases gs : y1 = y2
      · have e : tParc w y0 y1 y2 y3 = 2 := by simp [tParc, g0, g1, gs]
        exact BP.bad C M S W O (c := 2) (u_337_1 y0 y1 y2 y3 h0 (z_137_s C hI y0 hy0 y1 hy1 y2 hy2 y3 hy3 g0 g1 gs)) (by have q := b_262 M.1 M.2.1 hI y0 hy0 y1 hy1 y2 hy2 y3 hy3 (by rw [e]; decide); rw [e] at q; exact q) (by decide) (by decide)
      · have dm := 0
        cases g2 : inB y0 1 9 with
        | false =>
          have e : tParc w y0 y1 y2 y3 = 2 := by simp [tParc, g0, g1, gs, g2]
          exact BP.bad C M S W O (c := 2) (u_337_1 y0 y1 y2 y3 h0 (z_137_2 C hI y0 hy0 y1 hy1 y2 hy2 y3 hy3 gs g0 g1 g2)) (by have q := b_262 M.1 M.2.1 hI y0 hy0 y1 hy1 y2 hy2 y3 hy3 (by rw [e]; decide); rw [e] at q; exact q) (by decide) (by decide)
        | true =>
          cases g3 : inB y3 0 99 with
          | false =>
            have e : tParc w y0 y1 y2 y3 = 2 := by simp [tParc, g0, g1, gs, g2, g3]
            exact BP.bad C M S W O (c := 2) (u_337_1 y0 y1 y2 y3 h0 (z_137_3 C hI y0 hy0 y1 hy1 y2 hy2 y3 hy3 gs g0 g1 g2 g3)) (by have q := b_262 M.1 M.2.1 hI y0 hy0 y1 hy1 y2 hy2 y3 hy3 (by rw [e]; decide); rw [e] at q; exact q) (by decide) (by decide)
          | true =>
            have e0 := isPl_iff.mp g0
            have e1 := isPl_iff.mp g1
            have e2 := inB_iff.mp g2
            have e3 := inB_iff.mp g3
            have hbn := hI.bNe
            have hpn := hI.pNe
            have hln := hI.len
            have hrn := hI.hour
            have hgn := hI.gas
            have h4n := hI.gn
            by_cases hq : ¬ (w 6 < 16 ∧ numbd w y3 = -1)
            · have e : tParc w y0 y1 y2 y3 = 3 := by
                by_cases h6 : w 6 = 16
                · simp [tParc, g0, g1, g2, g3, gs, h6]
                · have hn : ¬ numbd w y3 = -1 := fun e => hq ⟨by have := hI.pn; omega, e⟩
                  simp [tParc, g0, g1, g2, g3, gs, h6, hn]
              exact BP.bad C M S W O (c := 3) (u_337_2 y0 y1 y2 y3 h0 (r_137c C hI y0 hy0 y1 hy1 y2 hy2 y3 hy3 g0 g1 g2 g3 gs ((k_76_5 hR hI _ _ _ hy3).eq (by rw [show (decide (w 6 < 16) && decide (numbd w y3 = -1)) = false from by rw [← Bool.decide_and]; exact decide_eq_false hq]; rfl)))) (by have q := b_262 M.1 M.2.1 hI y0 hy0 y1 hy1 y2 hy2 y3 hy3 (by rw [e]; decide); rw [e] at q; exact q) (by decide) (by decide)
            · have hq := Decidable.of_not_not hq
              obtain ⟨h1, c1, C1, F1⟩ := x_137 C hI W.2.1 y0 hy0 y1 hy1 y2 hy2 y3 hy3 g0 g1 g2 g3 gs ((k_76_5 hR hI _ _ _ hy3).eq (by simp [hq])) (fun h1 R => v_84_5 R hI y0 y1 y2 y3 (by omega))
              have MH := M.mv (h' := sw h1 236 (lgC g (((nP w : Nat) : Int)))) fun a h1 h2 => (sw_ne (by omega)).trans (F1.1 a h1)
              have ve : postW w y0 y1 y2 y3 6 - 1 = ((nP w : Nat) : Int) := post_6 hI
              exact BP.chg M S W C1 F1 (IZ.post W.1 (by omega) ⟨by omega, by omega⟩ ⟨by omega, by omega⟩ ⟨by omega, by omega⟩ ⟨by omega, by omega⟩ hq.2) (w_337 y0 y1 y2 y3 h0 c1 ((F1.1 236 (by decide)).trans O)) (by have q := g_262 MH.1 MH.2.1 MH.2.2.1 MH.2.2.2.2.1 hI ps.length S.1 W.2.1 y0 hy0 y1 hy1 y2 hy2 y3 hy3 (by omega) (by omega) (by omega) (by omega) (by omega) (by omega) gs (by omega) (by omega) (by omega) hq.2; rw [ve] at q; exact q)
theorem l_9 (J : JJ h t g w ps kp T bu ek eo rl rp) (y0 : Int) (hy0 : inR y0) (y1 : Int) (hy1 : inR y1) : BP 8 338 6 263 [aI y0, aI y1] h := by
  obtain ⟨C, ⟨s, b0, as, P, kd, tx, nu, M, S⟩, W, O⟩ := J
  have hI := W.1.1.1
  obtain ⟨h0, hR, -⟩ := id C
  cases g0 : isPa w y0 with
  | false =>
    have e : tTie w y0 y1 = 1 := by simp [tTie, g0]
    exact BP.bad C M S W O (c := 1) (u_338_0 y0 y1 h0 (z_138_0 C hI y0 hy0 y1 hy1 g0)) (by have q := b_263 M.1 M.2.1 hI y0 hy0 y1 hy1 (by rw [e]; decide); rw [e] at q; exact q) (by decide) (by decide)
  | true =>
    cases g1 : isBa w y1 with
    | false =>
      have e : tTie w y0 y1 = 1 := by simp [tTie, g0, g1]
      exact BP.bad C M S W O (c := 1) (u_338_0 y0 y1 h0 (z_138_1 C hI y0 hy0 y1 hy1 g0 g1)) (by have q := b_263 M.1 M.2.1 hI y0 hy0 y1 hy1 (by rw [e]; decide); rw [e] at q; exact q) (by decide) (by decide)
    | true =>
      obtain ⟨k0, rfl⟩ : ∃ k : Nat, y0 = ((k : Nat) : Int) := ⟨y0.toNat, by have := isPa_iff.mp g0; omega⟩
      obtain ⟨k1, rfl⟩ : ∃ k : Nat, y1 = ((k : Nat) : Int) := ⟨y1.toNat, by have := isBa_iff.mp g1; omega⟩
      have e0 := isPa_iff.mp g0
      have e1 := isBa_iff.mp g1
      have hbn := hI.bNe
      have hpn := hI.pNe
      have hln := hI.len
      have hrn := hI.hour
      have hgn := hI.gas
      have h4n := hI.gn
      by_cases hq : ¬ whyT w k0 k1 = 0
      · have e : tTie w ((k0 : Nat) : Int) ((k1 : Nat) : Int) = 2 := by simp [tTie, g0, g1, hq]
        exact BP.bad C M S W O (c := 2) (u_338_2 _ _ h0 (r_138c C hI _ hy0 _ hy1 g0 g1 ((k_76_6 hR hI _ k0 (by omega) k1 (by omega) (W.1.1.2.2 k1 (by omega)).2).eq (by simp [hq])))) (by have q := b_263 M.1 M.2.1 hI _ hy0 _ hy1 (by rw [e]; decide); rw [e] at q; exact q) (by decide) (by decide)
      · have hq := Decidable.of_not_not hq
        obtain ⟨h1, c1, C1, F1⟩ := x_138 C hI W.2.1 _ hy0 _ hy1 g0 g1 ((k_76_6 hR hI _ k0 (by omega) k1 (by omega) (W.1.1.2.2 k1 (by omega)).2).eq (by simp [hq])) (fun h1 R => v_84_6 R hI k0 k1 (by omega) (by omega) (tie_n2 hq) 0 0)
        have MH := M.mv (h' := sw h1 236 (lgC g (loadOf (putP w k0 1 ((k1 : Nat) : Int)) k1))) fun a h1 h2 => (sw_ne (by omega)).trans (F1.1 a h1)
        exact BP.chg M S W C1 F1 (IZ.tie W.1 (by omega) (by omega) hq) (w_338 _ _ h0 c1 ((F1.1 236 (by decide)).trans O)) (g_263 MH.1 MH.2.1 MH.2.2.1 MH.2.2.2.2.1 hI ps.length S.1 W.2.1 k0 k1 (by omega) (by omega) hq)
theorem l_10 (J : JJ h t g w ps kp T bu ek eo rl rp) (y0 : Int) (hy0 : inR y0) : BP 8 339 3 266 [aI y0] h := by
  obtain ⟨C, ⟨s, b0, as, P, kd, tx, nu, M, S⟩, W, O⟩ := J
  have hI := W.1.1.1
  obtain ⟨h0, hR, -⟩ := id C
  cases g0 : isPa w y0 with
  | false =>
    have e : tUnt w y0 = 1 := by simp [tUnt, g0]
    exact BP.bad C M S W O (c := 1) (u_339_0 y0 h0 (z_141_0 C hI y0 hy0 g0)) (by have q := b_266 M.1 M.2.1 hI y0 hy0 (by rw [e]; decide); rw [e] at q; exact q) (by decide) (by decide)
  | true =>
    obtain ⟨k0, rfl⟩ : ∃ k : Nat, y0 = ((k : Nat) : Int) := ⟨y0.toNat, by have := isPa_iff.mp g0; omega⟩
    have e0 := isPa_iff.mp g0
    have hbn := hI.bNe
    have hpn := hI.pNe
    have hln := hI.len
    have hrn := hI.hour
    have hgn := hI.gas
    have h4n := hI.gn
    by_cases hq : ¬ canU w k0 = true
    · have e : tUnt w ((k0 : Nat) : Int) = 2 := by simp [tUnt, g0, hq]
      exact BP.bad C M S W O (c := 2) (u_339_2 _ h0 (r_141c C hI _ hy0 g0 ((k_76_7 hR hI _ _ k0 (by omega)).eq (by simp [hq])))) (by have q := b_266 M.1 M.2.1 hI _ hy0 (by rw [e]; decide); rw [e] at q; exact q) (by decide) (by decide)
    · have hq := Decidable.of_not_not hq
      obtain ⟨h1, c1, C1, F1⟩ := x_141 C hI W.2.1 _ hy0 g0 ((k_76_7 hR hI _ _ k0 (by omega)).eq (by simp [hq])) (fun h1 R => v_84_7 R hI k0 (by omega) (canU_iff.mp hq).1 0 0 0)
      have MH := M.mv (h' := sw h1 236 (lgC g (pa w k0 5))) fun a h1 h2 => (sw_ne (by omega)).trans (F1.1 a h1)
      exact BP.chg M S W C1 F1 (unt_iz W.1 (by omega) hq) (w_339 _ h0 c1 ((F1.1 236 (by decide)).trans O)) (g_266 MH.1 MH.2.1 MH.2.2.1 MH.2.2.2.2.1 hI ps.length S.1 W.2.1 k0 (by omega) hq)
theorem l_11 (J : JJ h t g w ps kp T bu ek eo rl rp) (y0 : Int) (hy0 : inR y0) : BP 8 340 7 267 [aI y0] h := by
  obtain ⟨C, ⟨s, b0, as, P, kd, tx, nu, M, S⟩, W, O⟩ := J
  have hI := W.1.1.1
  obtain ⟨h0, hR, -⟩ := id C
  cases g0 : isBa w y0 with
  | false =>
    have e : tLau w y0 = 1 := by simp [tLau, g0]
    exact BP.bad C M S W O (c := 1) (u_340_0 y0 h0 (z_142_0 C hI y0 hy0 g0)) (by have q := b_267 M.1 M.2.1 hI y0 hy0 (by rw [e]; decide); rw [e] at q; exact q) (by decide) (by decide)
  | true =>
    obtain ⟨k0, rfl⟩ : ∃ k : Nat, y0 = ((k : Nat) : Int) := ⟨y0.toNat, by have := isBa_iff.mp g0; omega⟩
    have e0 := isBa_iff.mp g0
    have hbn := hI.bNe
    have hpn := hI.pNe
    have hln := hI.len
    have hrn := hI.hour
    have hgn := hI.gas
    have h4n := hI.gn
    by_cases hq : ¬ whyL w k0 = 0
    · have e : tLau w ((k0 : Nat) : Int) = 2 := by simp [tLau, g0, hq]
      exact BP.bad C M S W O (c := 2) (u_340_2 _ h0 (r_142c C hI _ hy0 g0 ((k_76_8 hR hI _ _ k0 (by omega)).eq (by simp [hq])))) (by have q := b_267 M.1 M.2.1 hI _ hy0 (by rw [e]; decide); rw [e] at q; exact q) (by decide) (by decide)
    · have hq := Decidable.of_not_not hq
      obtain ⟨h1, c1, C1, F1⟩ := x_142 C hI W.2.1 _ hy0 g0 ((k_76_8 hR hI _ _ k0 (by omega)).eq (by simp [hq])) (fun h1 R => v_84_8 R hI k0 (by omega) 0 0 0)
      have MH := M.mv (h' := sw h1 236 (lgC g (hOf (sbo w k0 3 1) k0))) fun a h1 h2 => (sw_ne (by omega)).trans (F1.1 a h1)
      exact BP.chg M S W C1 F1 (IZ.how W.1 (by omega) (by decide) (by decide)) (w_340 _ h0 c1 ((F1.1 236 (by decide)).trans O)) (g_267 MH.1 MH.2.1 MH.2.2.1 MH.2.2.2.2.1 hI ps.length S.1 W.2.1 k0 (by omega) hq)
theorem l_12 (J : JJ h t g w ps kp T bu ek eo rl rp) (y0 : Int) (hy0 : inR y0) : BP 8 341 3 268 [aI y0] h := by
  obtain ⟨C, ⟨s, b0, as, P, kd, tx, nu, M, S⟩, W, O⟩ := J
  have hI := W.1.1.1
  obtain ⟨h0, hR, -⟩ := id C
  cases g0 : isBa w y0 with
  | false =>
    have e : tHow w y0 1 = 1 := by simp [tHow, g0]
    exact BP.bad C M S W O (c := 1) (u_341_0 y0 h0 (z_143_0 C hI y0 hy0 g0)) (by have q := b_268 M.1 M.2.1 hI y0 hy0 (by rw [e]; decide); rw [e] at q; exact q) (by decide) (by decide)
  | true =>
    obtain ⟨k0, rfl⟩ : ∃ k : Nat, y0 = ((k : Nat) : Int) := ⟨y0.toNat, by have := isBa_iff.mp g0; omega⟩
    have e0 := isBa_iff.mp g0
    have hbn := hI.bNe
    have hpn := hI.pNe
    have hln := hI.len
    have hrn := hI.hour
    have hgn := hI.gas
    have h4n := hI.gn
    by_cases hq : ¬ bo w k0 3 = 1
    · have e : tHow w ((k0 : Nat) : Int) 1 = 2 := by simp [tHow, g0, hq]
      exact BP.bad C M S W O (c := 2) (u_341_2 _ h0 (r_143c C hI _ hy0 g0 ((k_76_9 hR hI _ _ k0 (by omega)).eq (by simp [hq])))) (by have q := b_268 M.1 M.2.1 hI _ hy0 (by rw [e]; decide); rw [e] at q; exact q) (by decide) (by decide)
    · have hq := Decidable.of_not_not hq
      obtain ⟨h1, c1, C1, F1⟩ := x_143 C hI W.2.1 _ hy0 g0 ((k_76_9 hR hI _ _ k0 (by omega)).eq (by simp [hq])) (fun h1 R => v_84_9 R hI k0 (by omega) 0 0 0)
      have MH := M.mv (h' := sw h1 236 (lgC g (bo w k0 0))) fun a h1 h2 => (sw_ne (by omega)).trans (F1.1 a h1)
      have ve : bo (sbo w k0 3 0) k0 0 = bo w k0 0 := by rw [sbo_bo (by decide) (by decide), if_neg (by omega)]
      exact BP.chg M S W C1 F1 (IZ.how W.1 (by omega) (by decide) (by decide)) (w_341 _ h0 c1 ((F1.1 236 (by decide)).trans O)) (by have q := g_268 MH.1 MH.2.1 MH.2.2.1 MH.2.2.2.2.1 hI ps.length S.1 W.2.1 k0 (by omega) hq; rw [ve] at q; exact q)
theorem l_13 (J : JJ h t g w ps kp T bu ek eo rl rp) (y0 : Int) (hy0 : inR y0) : BP 8 342 7 269 [aI y0] h := by
  obtain ⟨C, ⟨s, b0, as, P, kd, tx, nu, M, S⟩, W, O⟩ := J
  have hI := W.1.1.1
  obtain ⟨h0, hR, -⟩ := id C
  cases g0 : isBa w y0 with
  | false =>
    have e : tHow w y0 2 = 1 := by simp [tHow, g0]
    exact BP.bad C M S W O (c := 1) (u_342_0 y0 h0 (z_144_0 C hI y0 hy0 g0)) (by have q := b_269 M.1 M.2.1 hI y0 hy0 (by rw [e]; decide); rw [e] at q; exact q) (by decide) (by decide)
  | true =>
    obtain ⟨k0, rfl⟩ : ∃ k : Nat, y0 = ((k : Nat) : Int) := ⟨y0.toNat, by have := isBa_iff.mp g0; omega⟩
    have e0 := isBa_iff.mp g0
    have hbn := hI.bNe
    have hpn := hI.pNe
    have hln := hI.len
    have hrn := hI.hour
    have hgn := hI.gas
    have h4n := hI.gn
    by_cases hq : ¬ bo w k0 3 = 2
    · have e : tHow w ((k0 : Nat) : Int) 2 = 2 := by simp [tHow, g0, hq]
      exact BP.bad C M S W O (c := 2) (u_342_2 _ h0 (r_144c C hI _ hy0 g0 ((k_76_10 hR hI _ _ k0 (by omega)).eq (by simp [hq])))) (by have q := b_269 M.1 M.2.1 hI _ hy0 (by rw [e]; decide); rw [e] at q; exact q) (by decide) (by decide)
    · have hq := Decidable.of_not_not hq
      obtain ⟨h1, c1, C1, F1⟩ := x_144 C hI W.2.1 _ hy0 g0 ((k_76_10 hR hI _ _ k0 (by omega)).eq (by simp [hq])) (fun h1 R => v_84_10 R hI k0 (by omega) 0 0 0)
      have MH := M.mv (h' := sw h1 236 (lgC g (freeN w k0))) fun a h1 h2 => (sw_ne (by omega)).trans (F1.1 a h1)
      exact BP.chg M S W C1 F1 (IZ.free W.1 (by omega)) (w_342 _ h0 c1 ((F1.1 236 (by decide)).trans O)) (g_269 MH.1 MH.2.1 MH.2.2.1 MH.2.2.2.2.1 hI ps.length S.1 W.2.1 k0 (by omega) hq)
theorem l_14 (J : JJ h t g w ps kp T bu ek eo rl rp) (y0 : Int) (hy0 : inR y0) (y1 : Int) (hy1 : inR y1) : BP 8 343 3 270 [aI y0, aI y1] h := by
  obtain ⟨C, ⟨s, b0, as, P, kd, tx, nu, M, S⟩, W, O⟩ := J
  have hI := W.1.1.1
  obtain ⟨h0, hR, -⟩ := id C
  cases g0 : isBa w y0 with
  | false =>
    have e : tFil w y0 y1 = 1 := by simp [tFil, g0]
    exact BP.bad C M S W O (c := 1) (u_343_0 y0 y1 h0 (z_145_0 C hI y0 hy0 y1 hy1 g0)) (by have q := b_270 M.1 M.2.1 hI y0 hy0 y1 hy1 (by rw [e]; decide); rw [e] at q; exact q) (by decide) (by decide)
  | true =>
    cases g1 : inB y1 1 29 with
    | false =>
      have e : tFil w y0 y1 = 2 := by simp [tFil, g0, g1]
      exact BP.bad C M S W O (c := 2) (u_343_1 y0 y1 h0 (z_145_1 C hI y0 hy0 y1 hy1 g0 g1)) (by have q := b_270 M.1 M.2.1 hI y0 hy0 y1 hy1 (by rw [e]; decide); rw [e] at q; exact q) (by decide) (by decide)
    | true =>
      obtain ⟨k0, rfl⟩ : ∃ k : Nat, y0 = ((k : Nat) : Int) := ⟨y0.toNat, by have := isBa_iff.mp g0; omega⟩
      obtain ⟨k1, rfl⟩ : ∃ k : Nat, y1 = ((k : Nat) : Int) := ⟨y1.toNat, by have := inB_iff.mp g1; omega⟩
      have e0 := isBa_iff.mp g0
      have e1 := inB_iff.mp g1
      have hbn := hI.bNe
      have hpn := hI.pNe
      have hln := hI.len
      have hrn := hI.hour
      have hgn := hI.gas
      have h4n := hI.gn
      by_cases hq : ¬ canF w k0 ((k1 : Nat) : Int) = true
      · have e : tFil w ((k0 : Nat) : Int) ((k1 : Nat) : Int) = 3 := by simp [tFil, g0, g1, hq]
        exact BP.bad C M S W O (c := 3) (u_343_2 _ _ h0 (r_145c C hI _ hy0 _ hy1 g0 g1 ((k_76_11 hR hI _ k0 (by omega) k1 (by omega)).eq (by simp [hq])))) (by have q := b_270 M.1 M.2.1 hI _ hy0 _ hy1 (by rw [e]; decide); rw [e] at q; exact q) (by decide) (by decide)
      · have hq := Decidable.of_not_not hq
        obtain ⟨h1, c1, C1, F1⟩ := x_145 C hI W.2.1 _ hy0 _ hy1 g0 g1 ((k_76_11 hR hI _ k0 (by omega) k1 (by omega)).eq (by simp [hq])) (fun h1 R => v_84_11 R hI k0 ((k1 : Nat) : Int) (by omega) 0 0)
        have MH := M.mv (h' := sw h1 236 (lgC g (bo w k0 1 + ((k1 : Nat) : Int)))) fun a h1 h2 => (sw_ne (by omega)).trans (F1.1 a h1)
        have ve : bo (fillW w k0 ((k1 : Nat) : Int)) k0 1 = bo w k0 1 + ((k1 : Nat) : Int) := fill_1
        exact BP.chg M S W C1 F1 (IZ.fil W.1 (by omega) (by omega) hq) (w_343 _ _ h0 c1 ((F1.1 236 (by decide)).trans O)) (by have q := g_270 MH.1 MH.2.1 MH.2.2.1 MH.2.2.2.2.1 hI ps.length S.1 W.2.1 k0 _ hy1 (by omega) (by omega) (by omega) hq; rw [ve] at q; exact q)
theorem l_15 (J : JJ h t g w ps kp T bu ek eo rl rp) (y0 : Int) (hy0 : inR y0) : BP 8 344 2 271 [aI y0] h := by
  obtain ⟨C, ⟨s, b0, as, P, kd, tx, nu, M, S⟩, W, O⟩ := J
  have hI := W.1.1.1
  obtain ⟨h0, hR, -⟩ := id C
  cases g0 : inB y0 1 200 with
  | false =>
    have e : tGas w y0 = 1 := by simp [tGas, g0]
    exact BP.bad C M S W O (c := 1) (u_344_1 y0 h0 (z_146_0 C hI y0 hy0 g0)) (by have q := b_271 M.1 M.2.1 hI y0 hy0 (by rw [e]; decide); rw [e] at q; exact q) (by decide) (by decide)
  | true =>
    obtain ⟨k0, rfl⟩ : ∃ k : Nat, y0 = ((k : Nat) : Int) := ⟨y0.toNat, by have := inB_iff.mp g0; omega⟩
    have e0 := inB_iff.mp g0
    have hbn := hI.bNe
    have hpn := hI.pNe
    have hln := hI.len
    have hrn := hI.hour
    have hgn := hI.gas
    have h4n := hI.gn
    by_cases hq : 999 < w 2 + ((k0 : Nat) : Int)
    · have e : tGas w ((k0 : Nat) : Int) = 2 := by simp [tGas, g0, hq]
      exact BP.bad C M S W O (c := 2) (u_344_2 _ h0 (r_146c C hI _ hy0 g0 ((k_76_12 hR hI _ _ k0 (by omega)).eq (by simp [hq])))) (by have q := b_271 M.1 M.2.1 hI _ hy0 (by rw [e]; decide); rw [e] at q; exact q) (by decide) (by decide)
    · have dm2 := 0
      obtain ⟨h1, c1, C1, F1⟩ := x_146 C hI W.2.1 _ hy0 g0 ((k_76_12 hR hI _ _ k0 (by omega)).eq (by simp [hq])) (fun h1 R => v_84_12 R hI ((k0 : Nat) : Int) 0 0 0)
      have MH := M.mv (h' := sw h1 236 (lgC g (w 2 + ((k0 : Nat) : Int)))) fun a h1 h2 => (sw_ne (by omega)).trans (F1.1 a h1)
      have ve : va_up w 2 (w 2 + ((k0 : Nat) : Int)) 2 = w 2 + ((k0 : Nat) : Int) := vu_at _ _ _
      exact BP.chg M S W C1 F1 (IZ.setS W.1 (by omega) (by omega) (by omega) (by omega) (by omega) (by omega) (by omega)) (w_344 _ h0 c1 ((F1.1 236 (by decide)).trans O)) (by have q := g_271 MH.1 MH.2.1 MH.2.2.1 MH.2.2.2.2.1 hI ps.length S.1 W.2.1 _ hy0 (by omega) (by omega) (by omega); rw [ve] at q; exact q)
theorem l_16 (J : JJ h t g w ps kp T bu ek eo rl rp) (y0 : Int) (hy0 : inR y0) (y1 : Int) (hy1 : inR y1) : BP 8 345 4 272 [aI y0, aI y1] h := by
  obtain ⟨C, ⟨s, b0, as, P, kd, tx, nu, M, S⟩, W, O⟩ := J
  have hI := W.1.1.1
  obtain ⟨h0, hR, -⟩ := id C
  cases g0 : isPl w y0 with
  | false =>
    have e : tClm w y0 y1 = 1 := by simp [tClm, g0]
    exact BP.bad C M S W O (c := 1) (u_345_0 y0 y1 h0 (z_147_0 C hI y0 hy0 y1 hy1 g0)) (by have q := b_272 M.1 M.2.1 hI y0 hy0 y1 hy1 (by rw [e]; decide); rw [e] at q; exact q) (by decide) (by decide)
  | true =>
    obtain ⟨k0, rfl⟩ : ∃ k : Nat, y0 = ((k : Nat) : Int) := ⟨y0.toNat, by have := isPl_iff.mp g0; omega⟩
    have e0 := isPl_iff.mp g0
    have hbn := hI.bNe
    have hpn := hI.pNe
    have hln := hI.len
    have hrn := hI.hour
    have hgn := hI.gas
    have h4n := hI.gn
    have fb := foundP_b (w := w) ((k0 : Nat) : Int) y1
    by_cases gs : foundP w ((k0 : Nat) : Int) y1 = -1
    · have e : tClm w ((k0 : Nat) : Int) y1 = 2 := by simp [tClm, g0, gs]
      exact BP.bad C M S W O (c := 2) (u_345_3 _ y1 h0 (z_147_s C hI _ hy0 y1 hy1 g0 gs)) (by have q := b_272 M.1 M.2.1 hI _ hy0 y1 hy1 (by rw [e]; decide); rw [e] at q; exact q) (by decide) (by decide)
    · obtain ⟨p9, hp9⟩ : ∃ p : Nat, foundP w ((k0 : Nat) : Int) y1 = ((p : Nat) : Int) := ⟨(foundP w ((k0 : Nat) : Int) y1).toNat, by omega⟩
      obtain ⟨h1, c1, C1, F1⟩ := x_147 C hI W.2.1 _ hy0 y1 hy1 g0 gs (k_76_13 hR hI _ _ _) (fun h1 R => v_84_13 R hI k0 (by omega) y1 hy1 p9 hp9 0 0)
      have MH := M.mv (h' := sw h1 236 (lgC g (paid w p9))) fun a h1 h2 => (sw_ne (by omega)).trans (F1.1 a h1)
      exact BP.chg M S W C1 F1 (IZ.clm W.1 (found_o hp9).1 (found_o hp9).2.1) (w_345 _ y1 h0 c1 ((F1.1 236 (by decide)).trans O)) (g_272 MH.1 MH.2.1 MH.2.2.1 MH.2.2.2.2.1 hI ps.length S.1 W.2.1 _ hy0 y1 hy1 p9 (by omega) (by omega) hp9)
theorem l_17 (J : JJ h t g w ps kp T bu ek eo rl rp) (y0 : Int) (hy0 : inR y0) : BP 8 346 8 273 [aI y0] h := by
  obtain ⟨C, ⟨s, b0, as, P, kd, tx, nu, M, S⟩, W, O⟩ := J
  have hI := W.1.1.1
  obtain ⟨h0, hR, -⟩ := id C
  cases g0 : inB y0 1 24 with
  | false =>
    have e : tHrs w y0 = 1 := by simp [tHrs, g0]
    exact BP.bad C M S W O (c := 1) (u_346_1 y0 h0 (z_148_0 C hI y0 hy0 g0)) (by have q := b_273 M.1 M.2.1 hI y0 hy0 (by rw [e]; decide); rw [e] at q; exact q) (by decide) (by decide)
  | true =>
    obtain ⟨k0, rfl⟩ : ∃ k : Nat, y0 = ((k : Nat) : Int) := ⟨y0.toNat, by have := inB_iff.mp g0; omega⟩
    have e0 := inB_iff.mp g0
    have hbn := hI.bNe
    have hpn := hI.pNe
    have hln := hI.len
    have hrn := hI.hour
    have hgn := hI.gas
    have h4n := hI.gn
    by_cases hq : 999 < w 1 + ((k0 : Nat) : Int)
    · have e : tHrs w ((k0 : Nat) : Int) = 2 := by simp [tHrs, g0, hq]
      exact BP.bad C M S W O (c := 2) (u_346_2 _ h0 (r_148c C hI _ hy0 g0 ((k_76_14 hR hI _ _ k0 (by omega)).eq (by simp [hq])))) (by have q := b_273 M.1 M.2.1 hI _ hy0 (by rw [e]; decide); rw [e] at q; exact q) (by decide) (by decide)
    · have dm2 := 0
      obtain ⟨h1, c1, C1, F1⟩ := x_148 C hI W.2.1 _ hy0 g0 ((k_76_14 hR hI _ _ k0 (by omega)).eq (by simp [hq])) (fun h1 R => v_84_14 R hI k0 (by omega) 0 0 0)
      have MH := M.mv (h' := sw h1 236 (lgC g (passW w k0 1))) fun a h1 h2 => (sw_ne (by omega)).trans (F1.1 a h1)
      exact BP.chg M S W C1 F1 (IZ.pass W.1 (by omega)) (w_346 _ h0 c1 ((F1.1 236 (by decide)).trans O)) (g_273 MH.1 MH.2.1 MH.2.2.1 MH.2.2.2.2.1 hI ps.length S.1 W.2.1 k0 (by omega) (by omega) (by omega))
end LCHG
