/-! THE LAW: input, undo, the kept World (written by wip/whole/gen78.py) -/
theorem bv_se (b : BitVec 32) : b.signExtend 8 = b.setWidth 8 := by
  apply BitVec.eq_of_getLsbD_eq
  intro i hi
  rw [BitVec.getLsbD_signExtend, BitVec.getLsbD_setWidth, if_pos (by omega)]
theorem bv_sh (b : BitVec 32) (k : Nat) (hk : k ≤ 24) : (b.sshiftRight k).setWidth 8 = (b >>> k).setWidth 8 := by
  apply BitVec.eq_of_getLsbD_eq
  intro i hi
  rw [BitVec.getLsbD_setWidth, BitVec.getLsbD_setWidth, BitVec.getLsbD_sshiftRight, BitVec.getLsbD_ushiftRight, if_pos (by omega), decide_eq_false (show ¬ 32 ≤ i by omega)]
  simp
theorem bv_255 (b : BitVec 32) : (b &&& 255#32).toInt = ((b.setWidth 8).toNat : Int) := by
  have h1 : (b &&& 255#32).toNat = b.toNat % 256 := by
    rw [BitVec.toNat_and]
    exact Nat.and_two_pow_sub_one_eq_mod b.toNat 8
  rw [BitVec.toInt_eq_toNat_of_lt (by omega), h1, BitVec.toNat_setWidth]
theorem bt_v (c : BitVec 8) : BT (c.toNat : Int) c.toInt := by
  have h := c.isLt
  rw [BitVec.toInt_eq_toNat_cond]
  unfold BT
  split <;> omega
theorem bt_k (a : Int32) (k : Nat) (hk : k ≤ 24) (y : BitVec 32) (hy : y = a.toBitVec >>> k) : BT (a.toBitVec.sshiftRight k &&& 255#32).toInt ((Int32.ofBitVec y).toInt8.toInt32).toInt := by
  have e : ((Int32.ofBitVec y).toInt8.toInt32).toInt = ((a.toBitVec >>> k).setWidth 8).toInt := by
    rw [Int8.toInt_toInt32]
    show (y.signExtend 8).toInt = _
    rw [bv_se, hy]
  rw [e, bv_255, bv_sh _ k hk]
  exact bt_v _
theorem bt_24 (x : Int) : BT (byF x 24) (byI (ushrI x 24)) := by
  have h := bt_k (i32 x) 24 (by decide) _ rfl
  have e1 : byF x 24 = ((i32 x).toBitVec.sshiftRight 24 &&& 255#32).toInt := by
    show ((i32 ((i32 x >>> (i32 24 &&& 31)).toInt)) &&& i32 255).toInt = _
    rw [i32_to]; rfl
  have e2 : byI (ushrI x 24) = ((Int32.ofBitVec ((i32 x).toBitVec >>> 24)).toInt8.toInt32).toInt := by
    show ((i32 (((i32 x).toUInt32 >>> ((i32 24).toUInt32 &&& Int32.toUInt32 31)).toInt32).toInt).toInt8.toInt32).toInt = _
    rw [i32_to]; rfl
  rw [e1, e2]
  exact h
theorem bt_16 (x : Int) : BT (byF x 16) (byI (ushrI x 16)) := by
  have h := bt_k (i32 x) 16 (by decide) _ rfl
  have e1 : byF x 16 = ((i32 x).toBitVec.sshiftRight 16 &&& 255#32).toInt := by
    show ((i32 ((i32 x >>> (i32 16 &&& 31)).toInt)) &&& i32 255).toInt = _
    rw [i32_to]; rfl
  have e2 : byI (ushrI x 16) = ((Int32.ofBitVec ((i32 x).toBitVec >>> 16)).toInt8.toInt32).toInt := by
    show ((i32 (((i32 x).toUInt32 >>> ((i32 16).toUInt32 &&& Int32.toUInt32 31)).toInt32).toInt).toInt8.toInt32).toInt = _
    rw [i32_to]; rfl
  rw [e1, e2]
  exact h
theorem bt_8 (x : Int) : BT (byF x 8) (byI (ushrI x 8)) := by
  have h := bt_k (i32 x) 8 (by decide) _ rfl
  have e1 : byF x 8 = ((i32 x).toBitVec.sshiftRight 8 &&& 255#32).toInt := by
    show ((i32 ((i32 x >>> (i32 8 &&& 31)).toInt)) &&& i32 255).toInt = _
    rw [i32_to]; rfl
  have e2 : byI (ushrI x 8) = ((Int32.ofBitVec ((i32 x).toBitVec >>> 8)).toInt8.toInt32).toInt := by
    show ((i32 (((i32 x).toUInt32 >>> ((i32 8).toUInt32 &&& Int32.toUInt32 31)).toInt32).toInt).toInt8.toInt32).toInt = _
    rw [i32_to]; rfl
  rw [e1, e2]
  exact h
theorem bt_0 (x : Int) : BT (byF x 0) (byI x) := by
  have h := bt_k (i32 x) 0 (by decide) (i32 x).toBitVec (by simp)
  have e1 : byF x 0 = ((i32 x).toBitVec.sshiftRight 0 &&& 255#32).toInt := by
    show ((i32 ((i32 x >>> (i32 0 &&& 31)).toInt)) &&& i32 255).toInt = _
    rw [i32_to]; rfl
  rw [e1]
  exact h
theorem ty_bt {bu tb : Nat → Int} {N : Nat} (h : ∀ k, k < N → BT (bu k) (tb k)) (x : Int) : ∀ k, k < N + 4 → BT (ty4 bu N x k) (by4 tb N x k) := fun k hk => by
  unfold ty4 by4
  by_cases e3 : k = N + 3
  · rw [e3, show N + 1 + 1 + 1 = N + 3 by omega, vu_at, vu_at]; exact bt_0 x
  · rw [vu_ne (by omega), vu_ne e3]
    by_cases e2 : k = N + 2
    · rw [e2, show N + 1 + 1 = N + 2 by omega, vu_at, vu_at]; exact bt_8 x
    · rw [vu_ne (by omega), vu_ne e2]
      by_cases e1 : k = N + 1
      · rw [e1, vu_at, vu_at]; exact bt_16 x
      · rw [vu_ne e1, vu_ne e1]
        by_cases e0 : k = N
        · rw [e0, vu_at, vu_at]; exact bt_24 x
        · rw [vu_ne e0, vu_ne e0]; exact h k (by omega)
theorem tx_up {bu : Nat → Int} (h : TxB bu) {k : Nat} {v : Int} (hv : 0 ≤ v ∧ v ≤ 255) : TxB (va_up bu k v) := fun j => by
  unfold va_up
  split
  · exact hv
  · exact h j
theorem tx_ty {bu : Nat → Int} (h : TxB bu) {N : Nat} {x : Int} : TxB (ty4 bu N x) := tx_up (tx_up (tx_up (tx_up h (byF_b x 24)) (byF_b x 16)) (byF_b x 8)) (byF_b x 0)
theorem tx_ap {bu : Nat → Int} (h : TxB bu) {N : Nat} {x0 x1 x2 x3 x4 : Int} : TxB (apF bu N x0 x1 x2 x3 x4) := tx_ty (tx_ty (tx_ty (tx_ty (tx_ty h))))
/-- four bytes more are in the tokens' text -/
theorem a_73 {h : aH} {bu tb : Nat → Int} {N : Nat} (hO : ∃ st nx kd vl, h.2.2 202 = TO ((N : Nat) : Int) st nx kd vl) (hB : h.2.2 203 = .inl (1, 600, .inl tb)) (hT : ∀ k, k < N → BT (bu k) (tb k)) (v : Int) (hN : N + 4 ≤ 600) : ∃ h' tb', Ct 3 73 [aR 202, aI v] h (.inl none, h') ∧ (∃ st nx kd vl, h'.2.2 202 = TO ((N + 4 : Nat) : Int) st nx kd vl) ∧ h'.2.2 203 = .inl (1, 600, .inl tb') ∧ (∀ k, k < N + 4 → BT (ty4 bu N v k) (tb' k)) ∧ (∀ a, ¬ a = 202 → ¬ a = 203 → h'.2.2 a = h.2.2 a) ∧ h'.1 = h.1 ∧ h'.2.1 = h.2.1 := by
  obtain ⟨st, nx, kd, vl, hO⟩ := hO
  exact ⟨_, _, v_73 st nx kd vl hO hB v hN, ⟨st, nx, kd, vl, sw_at _ _ _⟩, (sw_ne (by decide)).trans (sw_at _ _ _), ty_bt hT v, fun a g1 g2 => (sw_ne g1).trans (sw_ne g2), rfl, rfl⟩
section LINP
variable {h : aH} {t : Int} {g : Nat → Int64} {w : Nat → Int} {ps : List (Nat → Int)} {kp : Option (Nat → Int)} {T : Nat} {bu : Nat → Int} {ek eo : Int} {rl : Nat} {rp : Nat → Int} {s b0 as P kd tx nu : Nat → Int}
theorem z_107 (C : CR h w ps kp T bu ek eo rl rp) (hT6 : T ≤ 600) (y0 y1 y2 y3 y4 : Int) (hn : ¬ T + 20 ≤ 600) : Ct 4 107 [aR 0, aI y0, aI y1, aI y2, aI y3, aI y4] h (.inl (some (aI (-1))), h) := by
  obtain ⟨h0, hR, hK, hT, hH, ⟨⟨dp, ex, hS1⟩, ⟨st, nx, kd9, vl, hO⟩, ⟨tb, hB, hbt⟩, hX4, hva, hbd, hrd⟩, hrb⟩ := id C
  refine Ct.of [aR 0, aI y0, aI y1, aI y2, aI y3, aI y4] rfl ?_
  refine r_aldR cd_107_0 rfl rfl ?_
  refine r_get cd_107_1 rfl h0 rfl ?_
  refine r_get cd_107_4 rfl hS1 rfl ?_
  refine r_con (v := 20) cd_107_7 rfl (by decide) ?_
  refine r_cI (k_62 st nx kd9 vl hO 20 (by decide) hT6) cd_107_9 rfl rfl rfl (rc0 hO rfl) rfl rfl rfl ?_
  refine r_if52b cd_107_12 rfl (fun n1 => ?_) (fun n1 => ?_)
  · refine r_con (v := (-1)) cd_107_15 rfl (by decide) ?_
    exact r_ret cd_107_16 True.intro (rfl)
  · exact Bool.noConfusion (n1.symm.trans (decide_eq_false hn))
theorem x_107 (C : CR h w ps kp T bu ek eo rl rp) (hT6 : T ≤ 600) (y0 y1 y2 y3 y4 : Int) (hn : T + 20 ≤ 600) : ∃ h', Ct 4 107 [aR 0, aI y0, aI y1, aI y2, aI y3, aI y4] h (.inl (some (aI ((T + 20 : Nat) : Int))), h') ∧ CR h' w ps kp (T + 20) (apF bu T y0 y1 y2 y3 y4) ek eo rl rp ∧ Fc h h' := by
  obtain ⟨h0, hR, hK, hT, hH, ⟨⟨dp, ex, hS1⟩, ⟨st, nx, kd9, vl, hO⟩, ⟨tb, hB, hbt⟩, hX4, hva, hbd, hrd⟩, hrb⟩ := id C
  obtain ⟨h1, t1, c1, ⟨st1, nx1, kd1, vl1, o1⟩, b1, bt1, f1, q1, r1⟩ := a_73 (h := h) (N := T) ⟨st, nx, kd9, vl, hO⟩ hB hbt y0 (by omega)
  obtain ⟨h2, t2, c2, ⟨st2, nx2, kd2, vl2, o2⟩, b2, bt2, f2, q2, r2⟩ := a_73 (h := h1) (N := T + 4) ⟨st1, nx1, kd1, vl1, o1⟩ b1 bt1 y1 (by omega)
  obtain ⟨h3, t3, c3, ⟨st3, nx3, kd3, vl3, o3⟩, b3, bt3, f3, q3, r3⟩ := a_73 (h := h2) (N := T + 4 + 4) ⟨st2, nx2, kd2, vl2, o2⟩ b2 bt2 y2 (by omega)
  obtain ⟨h4, t4, c4, ⟨st4, nx4, kd4, vl4, o4⟩, b4, bt4, f4, q4, r4⟩ := a_73 (h := h3) (N := T + 4 + 4 + 4) ⟨st3, nx3, kd3, vl3, o3⟩ b3 bt3 y3 (by omega)
  obtain ⟨h5, t5, c5, ⟨st5, nx5, kd5, vl5, o5⟩, b5, bt5, f5, q5, r5⟩ := a_73 (h := h4) (N := T + 4 + 4 + 4 + 4) ⟨st4, nx4, kd4, vl4, o4⟩ b4 bt4 y4 (by omega)
  have fa : ∀ a, ¬ a = 202 → ¬ a = 203 → h5.2.2 a = h.2.2 a := fun a g1 g2 => (f5 a g1 g2).trans ((f4 a g1 g2).trans ((f3 a g1 g2).trans ((f2 a g1 g2).trans (f1 a g1 g2))))
  have f21 := fun a g1 g2 => (f2 a g1 g2).trans (f1 a g1 g2)
  have f31 := fun a g1 g2 => (f3 a g1 g2).trans (f21 a g1 g2)
  have f41 := fun a g1 g2 => (f4 a g1 g2).trans (f31 a g1 g2)
  have u1 := (f1 0 (by decide) (by decide)).trans h0
  have v1 := (f1 201 (by decide) (by decide)).trans hS1
  have u2 := (f21 0 (by decide) (by decide)).trans h0
  have v2 := (f21 201 (by decide) (by decide)).trans hS1
  have u3 := (f31 0 (by decide) (by decide)).trans h0
  have v3 := (f31 201 (by decide) (by decide)).trans hS1
  have u4 := (f41 0 (by decide) (by decide)).trans h0
  have v4 := (f41 201 (by decide) (by decide)).trans hS1
  have u5 := (fa 0 (by decide) (by decide)).trans h0
  have v5 := (fa 201 (by decide) (by decide)).trans hS1
  refine ⟨h5, Ct.of [aR 0, aI y0, aI y1, aI y2, aI y3, aI y4] rfl ?_, ⟨u5, hR.mv fun a g1 g2 => fa a (by omega) (by omega), hK.mv fun a g1 g2 => fa a (by omega) (by omega), hT.mv fun a g1 g2 => fa a (by omega) (by omega), hH.mv fun a g1 g2 => fa a (by omega) (by omega), ⟨⟨dp, ex, v5⟩, ⟨st5, nx5, kd5, vl5, o5⟩, ⟨t5, b5, bt5⟩, hX4.mv fun a g1 g2 => fa a (by omega) (by omega), hva.imp fun _ e => (fa _ (by decide) (by decide)).trans e, hbd.imp fun _ e => (fa _ (by decide) (by decide)).trans e, hrd.imp fun _ e => (fa _ (by decide) (by decide)).trans e⟩, hrb.imp fun _ e => ⟨(fa _ (by decide) (by decide)).trans e.1, e.2⟩⟩, ⟨fun a ha => fa a (by omega) (by omega), q5.trans (q4.trans (q3.trans (q2.trans q1))), r5.trans (r4.trans (r3.trans (r2.trans r1)))⟩⟩
  refine r_aldR cd_107_0 rfl rfl ?_
  refine r_get cd_107_1 rfl h0 rfl ?_
  refine r_get cd_107_4 rfl hS1 rfl ?_
  refine r_con (v := 20) cd_107_7 rfl (by decide) ?_
  refine r_cI (k_62 st nx kd9 vl hO 20 (by decide) hT6) cd_107_9 rfl rfl rfl (rc0 hO rfl) rfl rfl rfl ?_
  refine r_if52b cd_107_12 rfl (fun n1 => ?_) (fun n1 => ?_)
  · exact Bool.noConfusion (n1.symm.trans (decide_eq_true hn))
  · refine r_aldR cd_107_17 rfl rfl ?_
    refine r_get cd_107_18 rfl h0 rfl ?_
    refine r_get cd_107_21 rfl hS1 rfl ?_
    refine r_ild cd_107_24 rfl rfl ?_
    refine r_cV c1 cd_107_25 rfl rfl rfl (rc0 hO rfl) rfl rfl rfl ?_
    refine r_aldR cd_107_28 rfl rfl ?_
    refine r_get cd_107_29 rfl u1 rfl ?_
    refine r_get cd_107_32 rfl v1 rfl ?_
    refine r_ild cd_107_35 rfl rfl ?_
    refine r_cV c2 cd_107_36 rfl rfl rfl (rc0 o1 rfl) rfl rfl rfl ?_
    refine r_aldR cd_107_39 rfl rfl ?_
    refine r_get cd_107_40 rfl u2 rfl ?_
    refine r_get cd_107_43 rfl v2 rfl ?_
    refine r_ild cd_107_46 rfl rfl ?_
    refine r_cV c3 cd_107_47 rfl rfl rfl (rc0 o2 rfl) rfl rfl rfl ?_
    refine r_aldR cd_107_50 rfl rfl ?_
    refine r_get cd_107_51 rfl u3 rfl ?_
    refine r_get cd_107_54 rfl v3 rfl ?_
    refine r_ild cd_107_57 rfl rfl ?_
    refine r_cV c4 cd_107_59 rfl rfl rfl (rc0 o3 rfl) rfl rfl rfl ?_
    refine r_aldR cd_107_62 rfl rfl ?_
    refine r_get cd_107_63 rfl u4 rfl ?_
    refine r_get cd_107_66 rfl v4 rfl ?_
    refine r_ild cd_107_69 rfl rfl ?_
    refine r_cV c5 cd_107_71 rfl rfl rfl (rc0 o4 rfl) rfl rfl rfl ?_
    refine r_aldR cd_107_74 rfl rfl ?_
    refine r_get cd_107_75 rfl u5 rfl ?_
    refine r_get cd_107_78 rfl v5 rfl ?_
    refine r_get cd_107_81 rfl o5 rfl ?_
    exact r_ret cd_107_84 True.intro (rfl)
theorem l_0 (J : JJ h t g w ps kp T bu ek eo rl rp) (y0 : Int) (hy0 : inR y0) (y1 : Int) (hy1 : inR y1) (y2 : Int) (hy2 : inR y2) (y3 : Int) (hy3 : inR y3) (y4 : Int) (hy4 : inR y4) : AP 4 107 2 247 [aI y0, aI y1, aI y2, aI y3, aI y4] h := by
  obtain ⟨C, ⟨s, b0, as, P, kd, tx, nu, M, S⟩, W, O⟩ := J
  have hI := W.1.1.1
  obtain ⟨h0, hR, -⟩ := id C
  have hT6 := W.2.2.2.2.1
  by_cases hn : T + 20 ≤ 600
  · obtain ⟨h1, c1, C1, F1⟩ := x_107 C hT6 y0 y1 y2 y3 y4 hn
    have MH := M.mv (h' := h1) fun a h1 h2 => F1.1 a h1
    obtain ⟨m1, m2, m3, m4, m5, m6, m7, m8, m9, m10⟩ := MH
    obtain ⟨a1, a2, a3, a4, a5, a6, a7, a8⟩ := S
    obtain ⟨h2, s2, c2, ⟨r1, r2, r3, r4, r5⟩, e1, e2, e3⟩ := c_247 m1 m7 y0 y1 y2 y3 y4 T a3 hn
    exact ⟨h1, h2, ((T + 20 : Nat) : Int), 0, g, w, ps, kp, T + 20, apF bu T y0 y1 y2 y3 y4, ek, eo, rl, rp, c1, ⟨s, m1⟩, c2, ⟨C1.mv fun a ha => r3 a (by omega) (by omega), ⟨s2, b0, as, P, kd, tx, nu, ⟨r1, (r3 _ (by decide) (by decide)).trans m2, (r3 _ (by decide) (by decide)).trans m3, (r3 _ (by decide) (by decide)).trans m4, (r3 _ (by decide) (by decide)).trans m5, (r3 _ (by decide) (by decide)).trans m6, r2, (r3 _ (by decide) (by decide)).trans m8, (r3 _ (by decide) (by decide)).trans m9, (r3 _ (by decide) (by decide)).trans m10⟩, ⟨(e3 5 (by decide) (by decide)).trans a1, (e3 6 (by decide) (by decide)).trans a2, e1, (e3 11 (by decide) (by decide)).trans a4, (e3 12 (by decide) (by decide)).trans a5, (e3 14 (by decide) (by decide)).trans a6, e2, a8⟩⟩, ⟨W.1, W.2.1, W.2.2.1, W.2.2.2.1, hn, tx_ap W.2.2.2.2.2.1, W.2.2.2.2.2.2⟩, (r3 _ (by decide) (by decide)).trans ((F1.1 236 (by decide)).trans O)⟩, r4.trans F1.2.1, F1.2.1⟩
  · exact AP.ok C M S W O (z_107 C hT6 y0 y1 y2 y3 y4 hn) (d_247 M.1 y0 y1 y2 y3 y4 T S.2.2.1 hn hT6)
theorem z_128 (C : CR h w ps kp T bu ek eo rl rp) (hT6 : T ≤ 600) (x : Int) (hx : inR x) (g0 : inB x 0 ((T : Nat) : Int) = false) : Ct 2 128 [aR 0, aI x] h (.inr 1, h) := by
  obtain ⟨h0, hR, hK, hT, hH, ⟨⟨dp, ex, hS1⟩, ⟨st, nx, kd9, vl, hO⟩, ⟨tb, hB, hbt⟩, hX4, hva, hbd, hrd⟩, hrb⟩ := id C
  refine Ct.of [aR 0, aI x] rfl ?_
  refine r_ild cd_128_0 rfl rfl ?_
  refine r_con (v := 0) cd_128_1 rfl (by decide) ?_
  refine r_aldR cd_128_2 rfl rfl ?_
  refine r_get cd_128_3 rfl h0 rfl ?_
  refine r_get cd_128_6 rfl hS1 rfl ?_
  refine r_get cd_128_9 rfl hO rfl ?_
  exact r_dX (k1 := 1) (k2 := 6) (z_129 x hx 0 ⟨by decide, by decide⟩ ((T : Nat) : Int) ⟨by omega, by omega⟩ g0) cd_128_12 rfl rfl True.intro rfl rfl (Nat.le_of_ble_eq_true rfl) (Nat.le_of_ble_eq_true rfl) rfl rfl (rfl)
theorem x_128 (C : CR h w ps kp T bu ek eo rl rp) (hT6 : T ≤ 600) (n : Nat) (hn : n ≤ T) : ∃ h', Ct 2 128 [aR 0, aI ((n : Nat) : Int)] h (.inl (some (aI ((n : Nat) : Int))), h') ∧ CR h' w ps kp n bu ek eo rl rp ∧ Fc h h' := by
  obtain ⟨h0, hR, hK, hT, hH, ⟨⟨dp, ex, hS1⟩, ⟨st, nx, kd9, vl, hO⟩, ⟨tb, hB, hbt⟩, hX4, hva, hbd, hrd⟩, hrb⟩ := id C
  have fa : ∀ a, ¬ a = 202 → (sw h 202 (TO ((n : Nat) : Int) st nx kd9 vl)).2.2 a = h.2.2 a := fun a ha => sw_ne ha
  refine ⟨sw h 202 (TO ((n : Nat) : Int) st nx kd9 vl), Ct.of [aR 0, aI ((n : Nat) : Int)] rfl ?_, ⟨(fa 0 (by decide)).trans h0, hR.mv fun a g1 g2 => fa a (by omega), hK.mv fun a g1 g2 => fa a (by omega), hT.mv fun a g1 g2 => fa a (by omega), hH.mv fun a g1 g2 => fa a (by omega), ⟨⟨dp, ex, (fa _ (by decide)).trans hS1⟩, ⟨st, nx, kd9, vl, sw_at _ _ _⟩, ⟨tb, (fa _ (by decide)).trans hB, fun k hk => hbt k (by omega)⟩, hX4.mv fun a g1 g2 => fa a (by omega), hva.imp fun _ e => (fa _ (by decide)).trans e, hbd.imp fun _ e => (fa _ (by decide)).trans e, hrd.imp fun _ e => (fa _ (by decide)).trans e⟩, hrb.imp fun _ e => ⟨(fa _ (by decide)).trans e.1, e.2⟩⟩, ⟨fun a ha => fa a (by omega), rfl, rfl⟩⟩
  refine r_ild cd_128_0 rfl rfl ?_
  refine r_con (v := 0) cd_128_1 rfl (by decide) ?_
  refine r_aldR cd_128_2 rfl rfl ?_
  refine r_get cd_128_3 rfl h0 rfl ?_
  refine r_get cd_128_6 rfl hS1 rfl ?_
  refine r_get cd_128_9 rfl hO rfl ?_
  refine r_dV (k1 := 1) (k2 := 6) (kc' := 1) (ks' := 6) (x_129 ((n : Nat) : Int) ⟨by omega, by omega⟩ 0 ⟨by decide, by decide⟩ ((T : Nat) : Int) ⟨by omega, by omega⟩ (inB_iff.mpr ⟨by omega, by omega⟩)) cd_128_12 rfl rfl rfl True.intro rfl rfl rfl rfl (Nat.le_of_ble_eq_true rfl) (Nat.le_of_ble_eq_true rfl) rfl ?_
  refine r_aldR cd_128_15 rfl rfl ?_
  refine r_get cd_128_16 rfl h0 rfl ?_
  refine r_get cd_128_19 rfl hS1 rfl ?_
  refine r_ild cd_128_22 rfl rfl ?_
  refine r_cV (v_72 st nx kd9 vl hO ((n : Nat) : Int)) cd_128_23 rfl rfl rfl (rc0 hO rfl) rfl rfl rfl ?_
  refine r_ild cd_128_26 rfl rfl ?_
  exact r_ret cd_128_27 True.intro (rfl)
theorem l_1 (J : JJ h t g w ps kp T bu ek eo rl rp) (y0 : Int) (hy0 : inR y0) : BP 3 331 2 249 [aI y0] h := by
  obtain ⟨C, ⟨s, b0, as, P, kd, tx, nu, M, S⟩, W, O⟩ := J
  have hI := W.1.1.1
  obtain ⟨h0, hR, -⟩ := id C
  have hT6 := W.2.2.2.2.1
  cases g0 : inB y0 0 ((T : Nat) : Int) with
  | false => exact BP.bad C M S W O (c := 1) (u_331_1 y0 h0 (z_128 C hT6 y0 hy0 g0)) (d_249 M.1 y0 hy0 T S.2.2.1 hT6 (fun e => by rw [inB_iff.mpr e] at g0; cases g0)) (by decide) (by decide)
  | true =>
    have e0 := inB_iff.mp g0
    obtain ⟨n, rfl⟩ : ∃ n : Nat, y0 = ((n : Nat) : Int) := ⟨y0.toNat, by omega⟩
    obtain ⟨h1, c1, C1, F1⟩ := x_128 C hT6 n (by omega)
    have MH := M.mv (h' := sw h1 236 (lgC g ((n : Nat) : Int))) fun a h1 h2 => (sw_ne (by omega)).trans (F1.1 a h1)
    have c2 := c_249 MH.1 _ hy0 T S.2.2.1 hT6 e0
    obtain ⟨a1, a2, a3, a4, a5, a6, a7, a8⟩ := S
    exact ⟨_, _, 0, ((n : Nat) : Int), va_up g 0 (i32 ((n : Nat) : Int)).toInt64, w, ps, kp, n, bu, ek, eo, rl, rp, w_331 _ h0 c1 ((F1.1 236 (by decide)).trans O), ⟨s, MH.1⟩, c2, ⟨C1.mv fun a ha => (sw_ne (by omega)).trans (sw_ne (by omega)), ⟨_, b0, as, P, kd, tx, nu, MH.s, ⟨a1, a2, vu_at _ _ _, a4, a5, a6, (vu_ne (by decide)).trans (vu_at _ _ _), a8⟩⟩, ⟨W.1, W.2.1, W.2.2.1, W.2.2.2.1, by omega, W.2.2.2.2.2⟩, (sw_ne (by decide)).trans (sw_at _ _ _)⟩, fun _ => vu_at _ _ _, F1.2.1, by decide, by decide, F1.2.1⟩
theorem CH.tak {h : aH} {v : Nat → Int} {r : List (Nat → Int)} (H : CH h (v :: r)) (hl : r.length < 8) (hX : Ex h 1) (hI : Inv0 v) : ∃ h', Ct 3 13 [aR 55, aR 1] h (.inl none, h') ∧ Rp h' 1 v ∧ CH h' r ∧ (∀ a, (a < 1 ∨ 19 ≤ a) → (a < 55 ∨ 201 ≤ a) → h'.2.2 a = h.2.2 a) ∧ h'.1 = h.1 ∧ h'.2.1 = h.2.1 := by
  obtain ⟨lt, hlt, hO, ⟨f, hF, hf⟩, hX8, hV⟩ := H
  have R0 := hV 0 v rfl
  rw [show (lt + 8 - 0) % 8 = lt by omega] at R0
  obtain ⟨h', c1, o1, R1, F1, e1, e2⟩ := v_13 lt (r.length + 1) hlt (by omega) hO hF hf R0 hI hX ((lt + 7) % 8) rfl r.length rfl
  refine ⟨h', c1, R1, ⟨(lt + 7) % 8, by omega, o1, ⟨f, (F1 56 (by omega) (by omega)).trans hF, hf⟩, fun i hi => (hX8 i hi).mv fun a g1 g2 => F1 a (by omega) (by omega), fun q u hq => ?_⟩, fun a g1 g2 => F1 a (by omega) g1, e1, e2⟩
  have hl2 : q < r.length := by
    rcases Nat.lt_or_ge q r.length with h | h
    · exact h
    · rw [List.getElem?_eq_none h] at hq; cases hq
  have R2 := hV (q + 1) u (by rw [List.getElem?_cons_succ]; exact hq)
  rw [show ((lt + 7) % 8 + 8 - q) % 8 = (lt + 8 - (q + 1)) % 8 by omega]
  exact R2.mv fun a g1 g2 => F1 a (by omega) (by omega)
theorem z_109 (C : CR h w [] kp T bu ek eo rl rp) : Ct 4 109 [aR 0] h (.inl (some (aI (-1))), h) := by
  obtain ⟨h0, -, -, -, ⟨lt, hl, h55, -⟩, -⟩ := id C
  have h55 : h.2.2 55 = .inr (1, [aR 56, aI ((lt : Nat) : Int), aI 0]) := h55
  refine Ct.of [aR 0] rfl ?_
  refine r_aldR cd_109_0 rfl rfl ?_
  refine r_get cd_109_1 rfl h0 rfl ?_
  refine r_get cd_109_4 rfl h55 rfl ?_
  refine r_if52 cd_109_7 rfl ⟨by omega, by omega⟩ (fun n1 => ?_) (fun n1 => ?_)
  · refine r_con (v := (-1)) cd_109_10 rfl (by decide) ?_
    exact r_ret cd_109_11 True.intro (rfl)
  · exact absurd n1 (by decide)
theorem x_109 {v : Nat → Int} {r : List (Nat → Int)} (C : CR h w (v :: r) kp T bu ek eo rl rp) (hl : r.length < 8) (hI : Inv0 v) : ∃ h', Ct 4 109 [aR 0] h (.inl (some (aI ((r.length : Nat) : Int))), h') ∧ CR h' v r kp T bu ek eo rl rp ∧ Fc h h' := by
  obtain ⟨h0, hR, hK, hT, hH, hS, ⟨rb, hB, hb⟩⟩ := id C
  obtain ⟨fs, q9⟩ := hR.o
  obtain ⟨h1, c1, R1, H1, F1, e1, e2⟩ := hH.tak hl hR.ex hI
  obtain ⟨lt, hlt, h55, -⟩ := id hH
  have h55 : h.2.2 55 = .inr (1, [aR 56, aI ((lt : Nat) : Int), aI ((r.length + 1 : Nat) : Int)]) := h55
  obtain ⟨lt2, hlt2, k55, -⟩ := id H1
  have k0 := (F1 0 (by omega) (by omega)).trans h0
  refine ⟨h1, Ct.of [aR 0] rfl ?_, ⟨k0, R1, hK.mv fun a g1 g2 => F1 a (by omega) (by omega), hT.mv fun a g1 g2 => F1 a (by omega) (by omega), H1, hS.mv fun a g1 g2 => F1 a (by omega) (by omega), ⟨rb, (F1 225 (by omega) (by omega)).trans hB, hb⟩⟩, ⟨fun a ha => F1 a (by omega) (by omega), e1, e2⟩⟩
  refine r_aldR cd_109_0 rfl rfl ?_
  refine r_get cd_109_1 rfl h0 rfl ?_
  refine r_get cd_109_4 rfl h55 rfl ?_
  refine r_if52 cd_109_7 rfl ⟨by omega, by omega⟩ (fun n1 => ?_) (fun n1 => ?_)
  · exact absurd n1 (by omega)
  · refine r_aldR cd_109_12 rfl rfl ?_
    refine r_get cd_109_13 rfl h0 rfl ?_
    refine r_aldR cd_109_16 rfl rfl ?_
    refine r_get cd_109_17 rfl h0 rfl ?_
    refine r_cV c1 cd_109_20 rfl rfl rfl (rc0 h55 rfl) rfl rfl rfl ?_
    refine r_aldR cd_109_23 rfl rfl ?_
    refine r_get cd_109_24 rfl k0 rfl ?_
    refine r_get cd_109_27 rfl k55 rfl ?_
    exact r_ret cd_109_30 True.intro (rfl)
theorem l_18 (J : JJ h t g w ps kp T bu ek eo rl rp) : AP 4 109 1 274 [] h := by
  obtain ⟨C, ⟨s, b0, as, P, kd, tx, nu, M, S⟩, W, O⟩ := J
  have hI := W.1.1.1
  obtain ⟨h0, hR, -⟩ := id C
  rcases ps with _ | ⟨v, r⟩
  · exact AP.ok C M S W O (z_109 C) (d_274 M.1 S.1)
  · have hl : r.length < 8 := W.2.1
    have hz := W.2.2.1 v (List.mem_cons_self)
    obtain ⟨h1, c1, C1, F1⟩ := x_109 C hl hz.1.1
    have MH := M.mv (h' := h1) fun a h1 h2 => F1.1 a h1
    obtain ⟨m1, m2, m3, m4, m5, m6, m7, m8, m9, m10⟩ := MH
    obtain ⟨a1, a2, a3, a4, a5, a6, a7, a8, a9, a10⟩ := S
    have hv := a9 0 v rfl
    have c2 := c_274 m1 m2 m5 r.length a1 hl (fun j hj => hv j hj) hz.2 W.1.2
    refine ⟨h1, _, ((r.length : Nat) : Int), 0, g, v, r, kp, T, bu, ek, eo, rl, rp, c1, ⟨s, m1⟩, c2, ⟨C1.mv fun a ha => (sw_ne (by omega)).trans (sw_ne (by omega)), ⟨_, b0, as, P, kd, tx, nu, ⟨(sw_ne (by decide)).trans (sw_at _ _ _), sw_at _ _ _, (sw_ne (by decide)).trans ((sw_ne (by decide)).trans m3), (sw_ne (by decide)).trans ((sw_ne (by decide)).trans m4), (sw_ne (by decide)).trans ((sw_ne (by decide)).trans m5), (sw_ne (by decide)).trans ((sw_ne (by decide)).trans m6), (sw_ne (by decide)).trans ((sw_ne (by decide)).trans m7), (sw_ne (by decide)).trans ((sw_ne (by decide)).trans m8), (sw_ne (by decide)).trans ((sw_ne (by decide)).trans m9), (sw_ne (by decide)).trans ((sw_ne (by decide)).trans m10)⟩, ⟨vu_at _ _ _, a2, a3, a4, a5, a6, (vu_ne (by decide)).trans (vu_at _ _ _), a8, fun q u hq j hj => ?_, a10⟩⟩, ⟨hz, by omega, fun u hu => W.2.2.1 u (List.mem_cons_of_mem _ hu), W.2.2.2⟩, (sw_ne (by decide)).trans ((sw_ne (by decide)).trans ((F1.1 236 (by decide)).trans O))⟩, F1.2.1, F1.2.1⟩
    have hl2 : q < r.length := by
      rcases Nat.lt_or_ge q r.length with h | h
      · exact h
      · rw [List.getElem?_eq_none h] at hq; cases hq
    have e := a9 (q + 1) u (by rw [List.getElem?_cons_succ]; exact hq) j hj
    rw [show 211 * (r.length - 1 - q) + j = 211 * ((v :: r).length - 1 - (q + 1)) + j by rw [List.length_cons]; omega]
    exact e
theorem x_111 (C : CR h w ps kp T bu ek eo rl rp) (hI : Inv0 w) : ∃ h', Ct 3 111 [aR 0] h (.inl (some (aI (w 1))), h') ∧ CR h' w ps (some w) T bu ek eo rl rp ∧ Fc h h' := by
  obtain ⟨h0, hR, hK, hT, hH, hS, ⟨rb, hB, hb⟩⟩ := id C
  obtain ⟨fs, q9⟩ := hR.o
  have hX : Ex h 19 := by
    rcases kp with _ | v
    · exact hK
    · exact Rp.ex hK
  obtain ⟨gs, o9⟩ := hX.o
  obtain ⟨h1, c1, R1, F1⟩ := v_100 hR hI hX (by omega)
  have k0 := (F1.1 0 (by omega)).trans h0
  have S1 : Rp h1 1 w := hR.mv fun a g1 g2 => F1.1 a (by omega)
  obtain ⟨c, ⟨p0, p1, p2, p3, p4, p5, p6, p7, p8, p9, p10, p11, p12, p13, p14, p15, p16, p17⟩, q0, q1, q2, q3, q4, q5, q6, q7, q8, q9, q10, q11, q12, q13, q14⟩ := id S1
  have fa : ∀ a, ¬ a = 0 → (a < 19 ∨ 37 ≤ a) → (sw h1 0 (.inr (7, [aR 1, aR 19, aR 37, aR 55, aR 201, aR 225, aI ((rl : Nat) : Int), aI 1]))).2.2 a = h.2.2 a := fun a g1 g2 => (sw_ne g1).trans (F1.1 a (by omega))
  refine ⟨sw h1 0 (.inr (7, [aR 1, aR 19, aR 37, aR 55, aR 201, aR 225, aI ((rl : Nat) : Int), aI 1])), Ct.of [aR 0] rfl ?_, ⟨sw_at _ _ _, hR.mv fun a g1 g2 => fa a (by omega) (by omega), R1.mv fun a g1 g2 => sw_ne (by omega), hT.mv fun a g1 g2 => fa a (by omega) (by omega), hH.mv fun a g1 g2 => fa a (by omega) (by omega), hS.mv fun a g1 g2 => fa a (by omega) (by omega), ⟨rb, (fa 225 (by omega) (by omega)).trans hB, hb⟩⟩, ⟨fun a ha => fa a (by omega) (by omega), F1.2.1, F1.2.2⟩⟩
  refine r_aldR cd_111_0 rfl rfl ?_
  refine r_get cd_111_1 rfl h0 rfl ?_
  refine r_aldR cd_111_4 rfl rfl ?_
  refine r_get cd_111_5 rfl h0 rfl ?_
  refine r_cV c1 cd_111_8 rfl rfl rfl (rc0 o9 rfl) rfl rfl rfl ?_
  refine r_aldR cd_111_11 rfl rfl ?_
  refine r_con (v := 1) cd_111_12 rfl (by decide) ?_
  refine r_put (fs' := [aR 1, aR 19, aR 37, aR 55, aR 201, aR 225, aI ((rl : Nat) : Int), aI 1]) cd_111_13 rfl k0 rfl rfl ?_
  refine r_aldR cd_111_16 rfl rfl ?_
  refine r_get cd_111_17 rfl (sw_at _ _ _) rfl ?_
  refine r_get cd_111_20 rfl ((sw_ne (by decide)).trans p0) rfl ?_
  exact r_ret cd_111_23 True.intro (rfl)
theorem l_20 (J : JJ h t g w ps kp T bu ek eo rl rp) : AP 3 111 1 276 [] h := by
  obtain ⟨C, ⟨s, b0, as, P, kd, tx, nu, M, S⟩, W, O⟩ := J
  have hI := W.1.1.1
  obtain ⟨h0, hR, -⟩ := id C
  obtain ⟨h1, c1, C1, F1⟩ := x_111 C hI
  have MH := M.mv (h' := h1) fun a h1 h2 => F1.1 a h1
  obtain ⟨m1, m2, m3, m4, m5, m6, m7, m8, m9, m10⟩ := MH
  obtain ⟨a1, a2, a3, a4, a5, a6, a7, a8, a9, a10⟩ := S
  have c2 := c_276 m1 m2 m6
  exact ⟨h1, _, w 1, 0, g, w, ps, some w, T, bu, ek, eo, rl, rp, c1, ⟨s, m1⟩, c2, ⟨C1.mv fun a ha => (sw_ne (by omega)).trans (sw_ne (by omega)), ⟨_, b0, as, P, cpF w 0 0 0 211 kd, tx, nu, ⟨(sw_ne (by decide)).trans (sw_at _ _ _), (sw_ne (by decide)).trans ((sw_ne (by decide)).trans m2), (sw_ne (by decide)).trans ((sw_ne (by decide)).trans m3), (sw_ne (by decide)).trans ((sw_ne (by decide)).trans m4), (sw_ne (by decide)).trans ((sw_ne (by decide)).trans m5), sw_at _ _ _, (sw_ne (by decide)).trans ((sw_ne (by decide)).trans m7), (sw_ne (by decide)).trans ((sw_ne (by decide)).trans m8), (sw_ne (by decide)).trans ((sw_ne (by decide)).trans m9), (sw_ne (by decide)).trans ((sw_ne (by decide)).trans m10)⟩, ⟨a1, vu_at _ _ _, a3, a4, a5, a6, (vu_ne (by decide)).trans (vu_at _ _ _), a8, a9, fun v hv j hj => by rw [← Option.some.inj hv]; exact cp_to hj⟩⟩, ⟨W.1, W.2.1, W.2.2.1, fun v hv => by rw [← Option.some.inj hv]; exact W.1, W.2.2.2.2⟩, (sw_ne (by decide)).trans ((sw_ne (by decide)).trans ((F1.1 236 (by decide)).trans O))⟩, F1.2.1, F1.2.1⟩
theorem z_149 (C : CR h w ps none T bu ek eo rl rp) : Ct 3 149 [aR 0] h (.inr 3, h) := by
  obtain ⟨h0, -⟩ := id C
  have h0 : h.2.2 0 = .inr (7, [aR 1, aR 19, aR 37, aR 55, aR 201, aR 225, aI ((rl : Nat) : Int), aI 0]) := h0
  refine Ct.of [aR 0] rfl ?_
  refine r_aldR cd_149_0 rfl rfl ?_
  refine r_get cd_149_1 rfl h0 rfl ?_
  refine r_if52 cd_149_4 rfl ⟨by omega, by omega⟩ (fun n1 => ?_) (fun n1 => ?_)
  · exact r_throw cd_149_7 rfl (rfl)
  · exact absurd n1 (by decide)
theorem x_149 {v : Nat → Int} (C : CR h w ps (some v) T bu ek eo rl rp) (hI : Inv0 v) : ∃ h', Ct 3 149 [aR 0] h (.inl (some (aI (v 1))), h') ∧ CR h' v [] (some v) T bu ek eo rl rp ∧ Fc h h' := by
  obtain ⟨h0, hR, hK, hT, ⟨lt, hlt, h55, hF, hX, -⟩, hS, ⟨rb, hB, hb⟩⟩ := id C
  have h0 : h.2.2 0 = .inr (7, [aR 1, aR 19, aR 37, aR 55, aR 201, aR 225, aI ((rl : Nat) : Int), aI 1]) := h0
  have hK : Rp h 19 v := hK
  obtain ⟨fs, z9⟩ := hR.o
  obtain ⟨gs, o9⟩ := hK.o
  obtain ⟨h1, c1, R1, F1⟩ := v_100 hK hI hR.ex (by omega)
  have k0 := (F1.1 0 (by omega)).trans h0
  have k55 := (F1.1 55 (by omega)).trans h55
  obtain ⟨c, ⟨p0, p1, p2, p3, p4, p5, p6, p7, p8, p9, p10, p11, p12, p13, p14, p15, p16, p17⟩, q0, q1, q2, q3, q4, q5, q6, q7, q8, q9, q10, q11, q12, q13, q14⟩ := id R1
  have fa : ∀ a, ¬ a = 55 → (a < 1 ∨ 19 ≤ a) → (sw h1 55 (.inr (1, [aR 56, aI ((lt : Nat) : Int), aI 0]))).2.2 a = h.2.2 a := fun a g1 g2 => (sw_ne g1).trans (F1.1 a (by omega))
  refine ⟨sw h1 55 (.inr (1, [aR 56, aI ((lt : Nat) : Int), aI 0])), Ct.of [aR 0] rfl ?_, ⟨(fa 0 (by decide) (by decide)).trans h0, R1.mv fun a g1 g2 => sw_ne (by omega), hK.mv fun a g1 g2 => fa a (by omega) (by omega), hT.mv fun a g1 g2 => fa a (by omega) (by omega), ⟨lt, hlt, sw_at _ _ _, hF.imp fun _ e => ⟨(fa 56 (by decide) (by decide)).trans e.1, e.2⟩, fun i hi => (hX i hi).mv fun a g1 g2 => fa a (by omega) (by omega), fun q u hq => by cases hq⟩, hS.mv fun a g1 g2 => fa a (by omega) (by omega), ⟨rb, (fa 225 (by omega) (by omega)).trans hB, hb⟩⟩, ⟨fun a ha => fa a (by omega) (by omega), F1.2.1, F1.2.2⟩⟩
  refine r_aldR cd_149_0 rfl rfl ?_
  refine r_get cd_149_1 rfl h0 rfl ?_
  refine r_if52 cd_149_4 rfl ⟨by omega, by omega⟩ (fun n1 => ?_) (fun n1 => ?_)
  · exact absurd n1 (by decide)
  · refine r_aldR cd_149_17 rfl rfl ?_
    refine r_get cd_149_18 rfl h0 rfl ?_
    refine r_aldR cd_149_21 rfl rfl ?_
    refine r_get cd_149_22 rfl h0 rfl ?_
    refine r_cV c1 cd_149_25 rfl rfl rfl (rc0 z9 rfl) rfl rfl rfl ?_
    refine r_aldR cd_149_28 rfl rfl ?_
    refine r_get cd_149_29 rfl k0 rfl ?_
    refine r_cV (v_14 _ _ k55) cd_149_32 rfl rfl rfl (rc0 k55 rfl) rfl rfl rfl ?_
    refine r_aldR cd_149_35 rfl rfl ?_
    refine r_get cd_149_36 rfl ((sw_ne (by decide)).trans k0) rfl ?_
    refine r_get cd_149_39 rfl ((sw_ne (by decide)).trans p0) rfl ?_
    exact r_ret cd_149_42 True.intro (rfl)
theorem l_21 (J : JJ h t g w ps kp T bu ek eo rl rp) : BP 4 347 2 277 [] h := by
  obtain ⟨C, ⟨s, b0, as, P, kd, tx, nu, M, S⟩, W, O⟩ := J
  have hI := W.1.1.1
  obtain ⟨h0, hR, -⟩ := id C
  rcases kp with _ | v
  · exact BP.bad C M S W O (c := 1) (u_347_3 h0 (z_149 C)) (b_277 M.1 S.2.1) (by decide) (by decide)
  · have hz := W.2.2.2.1 v rfl
    obtain ⟨h1, c1, C1, F1⟩ := x_149 C hz.1.1
    have MH := M.mv (h' := sw h1 236 (lgC g (v 1))) fun a h1 h2 => (sw_ne (by omega)).trans (F1.1 a h1)
    obtain ⟨m1, m2, m3, m4, m5, m6, m7, m8, m9, m10⟩ := MH
    obtain ⟨a1, a2, a3, a4, a5, a6, a7, a8, a9, a10⟩ := S
    have c2 := c_277 m1 m2 m6 a2 (a10 v rfl) hz.2 W.1.2
    exact ⟨_, _, 0, v 1, va_up g 0 (i32 (v 1)).toInt64, v, [], some v, T, bu, ek, eo, rl, rp, w_347 h0 c1 ((F1.1 236 (by decide)).trans O), ⟨s, m1⟩, c2, ⟨C1.mv fun a ha => (sw_ne (by omega)).trans ((sw_ne (by omega)).trans (sw_ne (by omega))), ⟨_, b0, as, P, kd, tx, nu, ⟨(sw_ne (by decide)).trans (sw_at _ _ _), sw_at _ _ _, (sw_ne (by decide)).trans ((sw_ne (by decide)).trans m3), (sw_ne (by decide)).trans ((sw_ne (by decide)).trans m4), (sw_ne (by decide)).trans ((sw_ne (by decide)).trans m5), (sw_ne (by decide)).trans ((sw_ne (by decide)).trans m6), (sw_ne (by decide)).trans ((sw_ne (by decide)).trans m7), (sw_ne (by decide)).trans ((sw_ne (by decide)).trans m8), (sw_ne (by decide)).trans ((sw_ne (by decide)).trans m9), (sw_ne (by decide)).trans ((sw_ne (by decide)).trans m10)⟩, ⟨vu_at _ _ _, a2, a3, a4, a5, a6, (vu_ne (by decide)).trans (vu_at _ _ _), a8, fun q u hq => (by cases hq), a10⟩⟩, ⟨hz, by decide, fun u hu => (by cases hu), W.2.2.2⟩, (sw_ne (by decide)).trans ((sw_ne (by decide)).trans (sw_at _ _ _))⟩, fun _ => vu_at _ _ _, F1.2.1, by decide, by decide, F1.2.1⟩
end LINP
