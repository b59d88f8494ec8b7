/-! THE CLASS: a script is executed (written by wip/whole/gen68.py) -/
/-- from the loop's head on the script comes to r -/
def GoP (N : Nat) (r : Rs) (h : aH) (n : Nat) : Prop := ∃ (h' : aH) (n' : Nat), (∀ res, RU 9 34 res (135, [aR 201, aI 0, aI ((n' : Nat) : Int)], [], 0, 0, h') → RU 9 34 res (35, [aR 201, aI 1, aI ((n : Nat) : Int)], [], 0, 0, h)) ∧ Fin N r h h'
theorem Fin.tr {N : Nat} {r : Rs} {h h1 h' : aH} (a : NX h h1) (b : Fin N r h1 h') : Fin N r h h' := ⟨b.1, b.2.1, b.2.2.1, b.2.2.2.1, b.2.2.2.2.1, b.2.2.2.2.2.1, a.tr b.2.2.2.2.2.2⟩
theorem jn_34 {res : aRes} {v : Int} {n : Nat} {h : aH} (k : RU 9 34 res (35, [aR 201, aI v, aI ((n + 1 : Nat) : Int)], [], 0, 0, h)) : RU 9 34 res (129, [aR 201, aI v, aI ((n : Nat) : Int)], [], 0, 0, h) := by
  refine r_inc (v := ((n + 1 : Nat) : Int)) cd_34_129 rfl rfl rfl (by omega) (L' := [aR 201, aI v, aI ((n + 1 : Nat) : Int)]) rfl ?_
  refine r_goto cd_34_132 ?_
  exact k
theorem j0_34 {res : aRes} {t : aV} {h : aH} (k : RU 9 34 res (135, [aR 201, aI 0, t], [], 0, 0, h)) : RU 9 34 res (35, [aR 201, aI 0, t], [], 0, 0, h) := by
  refine r_ild cd_34_35 rfl rfl ?_
  refine r_if51 cd_34_36 rfl ⟨by omega, by omega⟩ (fun n1 => ?_) (fun n1 => ?_)
  · exact k
  · exact absurd rfl n1
theorem GoP.step {N : Nat} {r : Rs} {h h1 : aH} {n : Nat} (J : JP 1 n h h1) (X : NX h h1) (g : GoP N r h1 (n + 1)) : GoP N r h n := by
  obtain ⟨h', n', c, f⟩ := g
  exact ⟨h', n', fun res k => J res (jn_34 (c res k)), Fin.tr X f⟩
theorem GoP.stop {N : Nat} {r : Rs} {h h1 : aH} {n : Nat} (J : JP 0 n h h1) (f : Fin N r h h1) : GoP N r h n := ⟨h1, n + 1, fun res k => J res (jn_34 (j0_34 k)), f⟩
theorem bnd_bnd {α β γ : Type} {r : Er ⊕ α} {f : α → Er ⊕ β} {g : β → Er ⊕ γ} : bnd (bnd r f) g = bnd r fun a => bnd (f a) g := by
  cases r <;> rfl
theorem bnd_id {α : Type} {r : Er ⊕ α} : bnd r (fun a => .inr a) = r := by
  cases r <;> rfl
def LoopT (tx tb : Nat → Int) (N d c : Nat) (stop : Int) (R : Nat → (Nat → Int) → Nat → Rs) : Prop := ∀ (f i : Nat) (w : Nat → Int) (ex : Nat) (h : aH) (n : Nat) (rd bd : Nat → Int) (k : Nat × (Nat → Int) × Nat → Rs), XS h tb N i w ex d rd bd → i ≤ N → Inv w → ex ≤ 200 → N + 1 - i ≤ f → n + c * (N - i) + 1 < 1000000 → (∀ (j : Nat) (w' : Nat → Int) (ex' : Nat) (h' : aH) (n' : Nat) (rd' bd' : Nat → Int), loopG stop R tx N f i w ex = .inr (j, w', ex') → XS h' tb N j w' ex' d rd' bd' → (∀ e, e < d → rd' e = rd e ∧ bd' e = bd e) → Inv w' → ex' ≤ 200 → i ≤ j → j ≤ N → tKnd tx N j = stop → NX h h' → n' ≤ n + c * (j - i) → GoP N (k (j, w', ex')) h' n') → GoP N (bnd (loopG stop R tx N f i w ex) k) h n
def RepT (tx tb : Nat → Int) (N d c : Nat) (R : Nat → (Nat → Int) → Nat → Rs) : Prop := ∀ (i : Nat) (w : Nat → Int) (ex : Nat) (h : aH) (n : Nat) (rd bd : Nat → Int) (k : Nat × (Nat → Int) × Nat → Rs), XS h tb N i w ex d rd bd → i ≤ N → Inv w → ex ≤ 200 → wordI tx N i = 15 → n + c * (N - i) + 1 < 1000000 → (∀ (j : Nat) (w' : Nat → Int) (ex' : Nat) (h' : aH) (n' : Nat) (rd' bd' : Nat → Int), R i w ex = .inr (j, w', ex') → XS h' tb N j w' ex' d rd' bd' → (∀ e, e < d → rd' e = rd e ∧ bd' e = bd e) → Inv w' → ex' ≤ 200 → i < j → j ≤ N → NX h h' → n' ≤ n + c * (j - i) → GoP N (k (j, w', ex')) h' n') → GoP N (bnd (R i w ex) k) h n
theorem mul_sp {c i j N : Nat} (h1 : i ≤ j) (h2 : j ≤ N) : c * (N - i) = c * (j - i) + c * (N - j) := by
  rw [← Nat.mul_add, show N - i = (j - i) + (N - j) by omega]
theorem loop_go {tx tb : Nat → Int} {N : Nat} (hN : N ≤ 600) (hT : ∀ k, k < N → BT (tx k) (tb k)) (hb : TxB tx) {d c : Nat} {stop : Int} {R : Nat → (Nat → Int) → Nat → Rs} (hd : d ≤ 2) (hst : (d = 0 ∧ stop = 0) ∨ (0 < d ∧ stop = 5)) (hc : 1 ≤ c) (hRep : RepT tx tb N d c R) (hgood : ∀ {i w ex}, i ≤ N → Inv w → ex ≤ 200 → wordI tx N i = 15 → Good1 N i (R i w ex)) : LoopT tx tb N d c stop R := by
  intro f
  induction f with
  | zero =>
    intro i w ex h n rd bd k hX hi hI hx hf
    omega
  | succ f ih =>
    intro i w ex h n rd bd k hX hi hI hx hf hn hk
    by_cases h1 : tKnd tx N i = stop
    · have e0 : loopG stop R tx N (f + 1) i w ex = .inr (i, w, ex) := by rw [loop_s, if_pos h1]
      rw [e0]
      exact hk i w ex h n rd bd e0 hX (fun _ _ => ⟨rfl, rfl⟩) hI hx (Nat.le_refl _) hi h1 NX.rf (by omega)
    · have e0 : loopG stop R tx N (f + 1) i w ex = bnd (cmdG R tx N i w ex) fun a => loopG stop R tx N f a.1 a.2.1 a.2.2 := by rw [loop_s, if_neg h1]
      have hkk : ∀ {j u ey}, cmdG R tx N i w ex = .inr (j, u, ey) → loopG stop R tx N (f + 1) i w ex = loopG stop R tx N f j u ey := fun e => e0.trans (bnd_r e)
      rw [e0, bnd_bnd]
      by_cases h2 : wordI tx N i = 15
      · have ec : cmdG R tx N i w ex = R i w ex := by
          unfold cmdG
          rw [if_neg (by rw [h2]; decide), if_pos h2]
        rw [ec]
        refine hRep i w ex h n rd bd _ hX hi hI hx h2 hn ?_
        intro j u ey h' n' rd' bd' e X' ag I' x' l1 l2 N' b'
        have m0 := mul_sp (c := c) (i := i) (j := j) (N := N) (by omega) l2
        refine ih j u ey h' n' rd' bd' k X' l2 I' x' (by omega) (by omega) ?_
        intro j2 w2 e2 h2' n2 rd2 bd2 e' X2 ag2 I2 x2 m1 m2 m3 N2 b2
        have m4 := mul_sp (c := c) (i := i) (j := j) (N := j2) (by omega) m1
        exact hk j2 w2 e2 h2' n2 rd2 bd2 ((hkk (ec.trans e)).trans e') X2 (fun q hq => ⟨(ag2 q hq).1.trans (ag q hq).1, (ag2 q hq).2.trans (ag q hq).2⟩) I2 x2 (by omega) m2 m3 (N'.tr N2) (by omega)
      · have ec : cmdG R tx N i w ex = stepA tx N i w ex := by
          unfold cmdG stepA
          by_cases h3 : wordI tx N i = -1
          · rw [if_pos h3, if_pos h3]
          · rw [if_neg h3, if_neg h2, if_neg h3]
        have hg := good_cmd (R := R) (tx := tx) (N := N) (hgood hi hI hx) hi hI hx
        have hs := st_cmd (n := n) hN hT hb hX hi (by omega) hd (fun e => h1 (by rcases hst with ⟨-, s⟩ | ⟨s, -⟩; rw [s]; exact e.1; omega)) (fun e => h1 (by rcases hst with ⟨s, -⟩ | ⟨-, s⟩; omega; rw [s]; exact e.1)) h2 hI hx
        rw [ec] at hg ⊢
        rcases hA : stepA tx N i w ex with e | ⟨j, u, ey⟩
        · rw [hA] at hs
          obtain ⟨h1', J, F⟩ := hs
          exact GoP.stop J F
        · rw [hA] at hs hg
          obtain ⟨h1', J, X', N'⟩ := hs
          obtain ⟨a1, a2, a3, a4⟩ := hg
          simp only at a1 a2 a3 a4 X'
          have m0 := mul_sp (c := c) (i := i) (j := j) (N := N) (by omega) a2
          have m1 := Nat.mul_le_mul_left c (show 1 ≤ j - i by omega)
          refine GoP.step J N' ?_
          show GoP N (bnd (loopG stop R tx N f j u ey) k) h1' (n + 1)
          refine ih j u ey h1' (n + 1) rd bd k X' a2 a3 a4 (by omega) (by omega) ?_
          intro j2 w2 e2 h2' n2 rd2 bd2 e' X2 ag2 I2 x2 m3 m4 m5 N2 b2
          have m6 := mul_sp (c := c) (i := i) (j := j) (N := j2) (by omega) m3
          exact hk j2 w2 e2 h2' n2 rd2 bd2 ((hkk (ec.trans hA)).trans e') X2 ag2 I2 x2 (by omega) m4 m5 (N'.tr N2) (by omega)
theorem rnd_go_1 {tx tb : Nat → Int} {N : Nat} (hN : N ≤ 600) (hT : ∀ k, k < N → BT (tx k) (tb k)) (hb : TxB tx) {R : Nat → (Nat → Int) → Nat → Rs} (hL : LoopT tx tb N 2 1 5 R) (hdet : Dt (loopG 5 R tx N (N + 1))) {ib : Nat} (hib : ib ≤ N) {n1 y : Nat} (hy : y = 1 * (N - ib) + 1) (hn1 : n1 + 20 * y < 1000000) (k' : Nat × (Nat → Int) × Nat → Rs) : ∀ (t T j0 : Nat) (w : Nat → Int) (ex : Nat) (h : aH) (n : Nat) (rd bd : Nat → Int), XS h tb N ib w ex 2 rd bd → Inv w → ex ≤ 200 → rd 1 = ((t + 1 : Nat) : Int) → bd 1 = ((ib : Nat) : Int) → t + 1 + T ≤ 20 → n ≤ n1 + T * y → (∀ j w0 e0 w1 e1, loopG 5 R tx N (N + 1) ib w0 e0 = .inr (j, w1, e1) → n ≤ n1 + T * (1 * (j - ib) + 1)) → (∀ (j : Nat) (w' : Nat → Int) (ex' : Nat) (h' : aH) (n' : Nat) (rd' bd' : Nat → Int), rndG (loopG 5 R tx N (N + 1)) ib (t + 1) j0 w ex = .inr (j, w', ex') → XS h' tb N j w' ex' 2 rd' bd' → rd' 1 = 1 → (∀ e, e < 1 → rd' e = rd e ∧ bd' e = bd e) → Inv w' → ex' ≤ 200 → ib ≤ j → j ≤ N → tKnd tx N j = 5 → NX h h' → n' + 1 ≤ n1 + 20 * (1 * (j - ib) + 1) → GoP N (k' (j, w', ex')) h' n') → GoP N (bnd (rndG (loopG 5 R tx N (N + 1)) ib (t + 1) j0 w ex) k') h n := by
  intro t
  induction t with
  | zero =>
    intro T j0 w ex h n rd bd hX hI hx hr hbd hT1 hna hnb hk
    have hTy : T * y ≤ 19 * y := Nat.mul_le_mul_right y (by omega)
    rw [rnd_s, bnd_bnd]
    refine hL (N + 1) ib w ex h n rd bd _ hX hib hI hx (by omega) (by omega) ?_
    intro j u ey h' n' rd' bd' e X' ag I' x' l1 l2 l3 N' b'
    have hnj := hnb _ _ _ _ _ e
    have hTx : T * (1 * (j - ib) + 1) ≤ 19 * (1 * (j - ib) + 1) := Nat.mul_le_mul_right _ (by omega)
    exact hk j u ey h' n' rd' bd' (by rw [rnd_s]; exact bnd_r e) X' ((ag 1 (by omega)).1.trans hr) (fun q hq => ag q (by omega)) I' x' l1 l2 l3 N' (by omega)
  | succ t ih =>
    intro T j0 w ex h n rd bd hX hI hx hr hbd hT1 hna hnb hk
    have hTy : T * y ≤ 18 * y := Nat.mul_le_mul_right y (by omega)
    rw [rnd_s, bnd_bnd]
    refine hL (N + 1) ib w ex h n rd bd _ hX hib hI hx (by omega) (by omega) ?_
    intro j u ey h' n' rd' bd' e X' ag I' x' l1 l2 l3 N' b'
    have hnj := hnb _ _ _ _ _ e
    have hr' : rd' 1 = ((t + 1 + 1 : Nat) : Int) := (ag 1 (by omega)).1.trans hr
    have hbd' : bd' 1 = ((ib : Nat) : Int) := (ag 1 (by omega)).2.trans hbd
    have hj9 : 1 * (j - ib) ≤ 1 * (N - ib) := Nat.mul_le_mul_left 1 (by omega)
    obtain ⟨h2, J2, X2, N2⟩ := st_close_1a (n := n') hN hT hb X' l2 (by omega) l3 (t + 1) hr' (by omega) (by omega) ib hbd'
    refine GoP.step J2 N2 ?_
    have es : (T + 1) * y = T * y + y := Nat.succ_mul T y
    refine ih (T + 1) j u ey h2 (n' + 1) (va_up rd' 1 ((t + 1 : Nat) : Int)) bd' X2 I' x' (vu_at _ _ _) hbd' (by omega) (by omega) ?_ ?_
    · intro j2 w0 e0 w1 e1 g
      have ej : j2 = j := hdet _ _ _ _ _ (j2, w1, e1) (j, u, ey) g e
      rw [ej]
      have es2 : (T + 1) * (1 * (j - ib) + 1) = T * (1 * (j - ib) + 1) + (1 * (j - ib) + 1) := Nat.succ_mul T _
      omega
    · intro j2 w2 e2 h2' n2 rd2 bd2 e' X3 r3 ag3 I3 x3 m1 m2 m3 N3 b3
      exact hk j2 w2 e2 h2' n2 rd2 bd2 (by rw [rnd_s]; exact (bnd_r e).trans e') X3 r3 (fun q hq => ⟨(ag3 q hq).1.trans ((vu_ne (by omega)).trans (ag q (by omega)).1), (ag3 q hq).2.trans (ag q (by omega)).2⟩) I3 x3 m1 m2 m3 ((N'.tr N2).tr N3) b3
theorem rep_go_1 {tx tb : Nat → Int} {N : Nat} (hN : N ≤ 600) (hT : ∀ k, k < N → BT (tx k) (tb k)) (hb : TxB tx) {R : Nat → (Nat → Int) → Nat → Rs} (hL : LoopT tx tb N 2 1 5 R) (hdet : Dt (loopG 5 R tx N (N + 1))) : RepT tx tb N 1 41 (repG (loopG 5 R tx N (N + 1)) tx N) := by
  intro i w ex h n rd bd k hX hi hI hx hw hn hk
  have hs := st_rep_1 (n := n) hN hT hb hX hi (by omega) hw hI.1
  have hk2 : tKnd tx N i = 2 := (wordI_b (tx := tx) (N := N) (i := i)).2.2 (by rw [hw]; decide)
  have p1 := tPos1 (tx := tx) hi (by rw [hk2]; decide)
  rw [rep_e, bnd_bnd]
  rcases hA : begA tx N (tEnd tx N i) with e | ⟨q, ib⟩
  · rw [hA] at hs
    obtain ⟨h1, J, F⟩ := hs
    exact GoP.stop J F
  · rw [hA] at hs
    obtain ⟨h1, J, X1, N1⟩ := hs
    obtain ⟨q1, q2, q3, q4⟩ := beg_o p1.2 hA
    obtain ⟨t, rfl⟩ : ∃ t, q = t + 1 := ⟨q - 1, by omega⟩
    refine GoP.step J N1 ?_
    show GoP N (bnd (bnd (rndG (loopG 5 R tx N (N + 1)) ib (t + 1) ib w ex) _) k) h1 (n + 1)
    rw [bnd_bnd]
    refine rnd_go_1 hN hT hb hL hdet q4 (n1 := n + 1) rfl (by omega) _ t 0 ib w ex h1 (n + 1) _ _ X1 hI hx (vu_at _ _ _) (vu_at _ _ _) (by omega) (by omega) (fun _ _ _ _ _ _ => by omega) ?_
    intro j w' ex' h' n' rd' bd' e X' r' ag I' x' l1 l2 l3 N' b'
    have p2 := tPos (tx := tx) l2
    have p3 := tPos (tx := tx) p2.2
    by_cases hk1 : tKnd tx N (tEnd tx N j) = 1
    · obtain ⟨h2, J2, X2, N2⟩ := st_close_1b (n := n') hN hT hb X' l2 (by omega) l3 0 r' (by omega) rfl hk1
      rw [if_pos hk1]
      refine GoP.step J2 N2 ?_
      refine hk (tEnd tx N (tEnd tx N j)) w' ex' h2 (n' + 1) _ _ (by rw [rep_e]; exact (bnd_r hA).trans ((bnd_r e).trans (if_pos hk1))) X2 (fun q hq => ⟨(vu_ne (by omega)).trans ((ag q hq).1.trans (vu_ne (by omega))), (ag q hq).2.trans (vu_ne (by omega))⟩) I' x' (by omega) p3.2 ((N1.tr N').tr N2) (by omega)
    · obtain ⟨h2, J2, F⟩ := st_close_1c (n := n') hN hT hb X' l2 (by omega) l3 0 r' (by omega) rfl hk1
      rw [if_neg hk1]
      exact GoP.stop J2 F
theorem rnd_go_0 {tx tb : Nat → Int} {N : Nat} (hN : N ≤ 600) (hT : ∀ k, k < N → BT (tx k) (tb k)) (hb : TxB tx) {R : Nat → (Nat → Int) → Nat → Rs} (hL : LoopT tx tb N 1 41 5 R) (hdet : Dt (loopG 5 R tx N (N + 1))) {ib : Nat} (hib : ib ≤ N) {n1 y : Nat} (hy : y = 41 * (N - ib) + 1) (hn1 : n1 + 20 * y < 1000000) (k' : Nat × (Nat → Int) × Nat → Rs) : ∀ (t T j0 : Nat) (w : Nat → Int) (ex : Nat) (h : aH) (n : Nat) (rd bd : Nat → Int), XS h tb N ib w ex 1 rd bd → Inv w → ex ≤ 200 → rd 0 = ((t + 1 : Nat) : Int) → bd 0 = ((ib : Nat) : Int) → t + 1 + T ≤ 20 → n ≤ n1 + T * y → (∀ j w0 e0 w1 e1, loopG 5 R tx N (N + 1) ib w0 e0 = .inr (j, w1, e1) → n ≤ n1 + T * (41 * (j - ib) + 1)) → (∀ (j : Nat) (w' : Nat → Int) (ex' : Nat) (h' : aH) (n' : Nat) (rd' bd' : Nat → Int), rndG (loopG 5 R tx N (N + 1)) ib (t + 1) j0 w ex = .inr (j, w', ex') → XS h' tb N j w' ex' 1 rd' bd' → rd' 0 = 1 → (∀ e, e < 0 → rd' e = rd e ∧ bd' e = bd e) → Inv w' → ex' ≤ 200 → ib ≤ j → j ≤ N → tKnd tx N j = 5 → NX h h' → n' + 1 ≤ n1 + 20 * (41 * (j - ib) + 1) → GoP N (k' (j, w', ex')) h' n') → GoP N (bnd (rndG (loopG 5 R tx N (N + 1)) ib (t + 1) j0 w ex) k') h n := by
  intro t
  induction t with
  | zero =>
    intro T j0 w ex h n rd bd hX hI hx hr hbd hT1 hna hnb hk
    have hTy : T * y ≤ 19 * y := Nat.mul_le_mul_right y (by omega)
    rw [rnd_s, bnd_bnd]
    refine hL (N + 1) ib w ex h n rd bd _ hX hib hI hx (by omega) (by omega) ?_
    intro j u ey h' n' rd' bd' e X' ag I' x' l1 l2 l3 N' b'
    have hnj := hnb _ _ _ _ _ e
    have hTx : T * (41 * (j - ib) + 1) ≤ 19 * (41 * (j - ib) + 1) := Nat.mul_le_mul_right _ (by omega)
    exact hk j u ey h' n' rd' bd' (by rw [rnd_s]; exact bnd_r e) X' ((ag 0 (by omega)).1.trans hr) (fun q hq => ag q (by omega)) I' x' l1 l2 l3 N' (by omega)
  | succ t ih =>
    intro T j0 w ex h n rd bd hX hI hx hr hbd hT1 hna hnb hk
    have hTy : T * y ≤ 18 * y := Nat.mul_le_mul_right y (by omega)
    rw [rnd_s, bnd_bnd]
    refine hL (N + 1) ib w ex h n rd bd _ hX hib hI hx (by omega) (by omega) ?_
    intro j u ey h' n' rd' bd' e X' ag I' x' l1 l2 l3 N' b'
    have hnj := hnb _ _ _ _ _ e
    have hr' : rd' 0 = ((t + 1 + 1 : Nat) : Int) := (ag 0 (by omega)).1.trans hr
    have hbd' : bd' 0 = ((ib : Nat) : Int) := (ag 0 (by omega)).2.trans hbd
    have hj9 : 41 * (j - ib) ≤ 41 * (N - ib) := Nat.mul_le_mul_left 41 (by omega)
    obtain ⟨h2, J2, X2, N2⟩ := st_close_0a (n := n') hN hT hb X' l2 (by omega) l3 (t + 1) hr' (by omega) (by omega) ib hbd'
    refine GoP.step J2 N2 ?_
    have es : (T + 1) * y = T * y + y := Nat.succ_mul T y
    refine ih (T + 1) j u ey h2 (n' + 1) (va_up rd' 0 ((t + 1 : Nat) : Int)) bd' X2 I' x' (vu_at _ _ _) hbd' (by omega) (by omega) ?_ ?_
    · intro j2 w0 e0 w1 e1 g
      have ej : j2 = j := hdet _ _ _ _ _ (j2, w1, e1) (j, u, ey) g e
      rw [ej]
      have es2 : (T + 1) * (41 * (j - ib) + 1) = T * (41 * (j - ib) + 1) + (41 * (j - ib) + 1) := Nat.succ_mul T _
      omega
    · intro j2 w2 e2 h2' n2 rd2 bd2 e' X3 r3 ag3 I3 x3 m1 m2 m3 N3 b3
      exact hk j2 w2 e2 h2' n2 rd2 bd2 (by rw [rnd_s]; exact (bnd_r e).trans e') X3 r3 (fun q hq => ⟨(ag3 q hq).1.trans ((vu_ne (by omega)).trans (ag q (by omega)).1), (ag3 q hq).2.trans (ag q (by omega)).2⟩) I3 x3 m1 m2 m3 ((N'.tr N2).tr N3) b3
theorem rep_go_0 {tx tb : Nat → Int} {N : Nat} (hN : N ≤ 600) (hT : ∀ k, k < N → BT (tx k) (tb k)) (hb : TxB tx) {R : Nat → (Nat → Int) → Nat → Rs} (hL : LoopT tx tb N 1 41 5 R) (hdet : Dt (loopG 5 R tx N (N + 1))) : RepT tx tb N 0 841 (repG (loopG 5 R tx N (N + 1)) tx N) := by
  intro i w ex h n rd bd k hX hi hI hx hw hn hk
  have hs := st_rep_0 (n := n) hN hT hb hX hi (by omega) hw hI.1
  have hk2 : tKnd tx N i = 2 := (wordI_b (tx := tx) (N := N) (i := i)).2.2 (by rw [hw]; decide)
  have p1 := tPos1 (tx := tx) hi (by rw [hk2]; decide)
  rw [rep_e, bnd_bnd]
  rcases hA : begA tx N (tEnd tx N i) with e | ⟨q, ib⟩
  · rw [hA] at hs
    obtain ⟨h1, J, F⟩ := hs
    exact GoP.stop J F
  · rw [hA] at hs
    obtain ⟨h1, J, X1, N1⟩ := hs
    obtain ⟨q1, q2, q3, q4⟩ := beg_o p1.2 hA
    obtain ⟨t, rfl⟩ : ∃ t, q = t + 1 := ⟨q - 1, by omega⟩
    refine GoP.step J N1 ?_
    show GoP N (bnd (bnd (rndG (loopG 5 R tx N (N + 1)) ib (t + 1) ib w ex) _) k) h1 (n + 1)
    rw [bnd_bnd]
    refine rnd_go_0 hN hT hb hL hdet q4 (n1 := n + 1) rfl (by omega) _ t 0 ib w ex h1 (n + 1) _ _ X1 hI hx (vu_at _ _ _) (vu_at _ _ _) (by omega) (by omega) (fun _ _ _ _ _ _ => by omega) ?_
    intro j w' ex' h' n' rd' bd' e X' r' ag I' x' l1 l2 l3 N' b'
    have p2 := tPos (tx := tx) l2
    have p3 := tPos (tx := tx) p2.2
    by_cases hk1 : tKnd tx N (tEnd tx N j) = 1
    · obtain ⟨h2, J2, X2, N2⟩ := st_close_0b (n := n') hN hT hb X' l2 (by omega) l3 0 r' (by omega) rfl hk1
      rw [if_pos hk1]
      refine GoP.step J2 N2 ?_
      refine hk (tEnd tx N (tEnd tx N j)) w' ex' h2 (n' + 1) _ _ (by rw [rep_e]; exact (bnd_r hA).trans ((bnd_r e).trans (if_pos hk1))) X2 (fun q hq => ⟨(vu_ne (by omega)).trans ((ag q hq).1.trans (vu_ne (by omega))), (ag q hq).2.trans (vu_ne (by omega))⟩) I' x' (by omega) p3.2 ((N1.tr N').tr N2) (by omega)
    · obtain ⟨h2, J2, F⟩ := st_close_0c (n := n') hN hT hb X' l2 (by omega) l3 0 r' (by omega) rfl hk1
      rw [if_neg hk1]
      exact GoP.stop J2 F
theorem rep_go_2 {tx tb : Nat → Int} {N : Nat} (hN : N ≤ 600) (hT : ∀ k, k < N → BT (tx k) (tb k)) (hb : TxB tx) : RepT tx tb N 2 1 (deepR tx N 0) := by
  intro i w ex h n rd bd k hX hi hI hx hw hn hk
  obtain ⟨h1, J, F⟩ := st_rep_2 (n := n) hN hT hb hX hi (by omega) hw
  exact GoP.stop J F
theorem lopd_2 {tx tb : Nat → Int} {N : Nat} (hN : N ≤ 600) (hT : ∀ k, k < N → BT (tx k) (tb k)) (hb : TxB tx) : LoopT tx tb N 2 1 5 (deepR tx N 0) := loop_go hN hT hb (by decide) (Or.inr ⟨by decide, rfl⟩) (by decide) (rep_go_2 hN hT hb) (fun g1 g2 g3 g4 => good_deep g1 g2 g3 g4)
theorem lopd_1 {tx tb : Nat → Int} {N : Nat} (hN : N ≤ 600) (hT : ∀ k, k < N → BT (tx k) (tb k)) (hb : TxB tx) : LoopT tx tb N 1 41 5 (deepR tx N 1) := loop_go hN hT hb (by decide) (Or.inr ⟨by decide, rfl⟩) (by decide) (rep_go_1 hN hT hb (lopd_2 hN hT hb) (det_loop (det_deep 0) (N + 1))) (fun g1 g2 g3 g4 => good_deep g1 g2 g3 g4)
theorem lopd_0 {tx tb : Nat → Int} {N : Nat} (hN : N ≤ 600) (hT : ∀ k, k < N → BT (tx k) (tb k)) (hb : TxB tx) : LoopT tx tb N 0 841 0 (deepR tx N 2) := loop_go hN hT hb (by decide) (Or.inl ⟨rfl, rfl⟩) (by decide) (rep_go_0 hN hT hb (lopd_1 hN hT hb) (det_loop (det_deep 1) (N + 1))) (fun g1 g2 g3 g4 => good_deep g1 g2 g3 g4)
def okR (r : Rs) : Int := match r with
  | .inl _ => 0
  | .inr _ => 1
theorem x_34 {r : Rs} {N n' : Nat} {h h' : aH} (hr : ∀ e, r = .inl e → 1 ≤ e.1 ∧ e.1 ≤ 5) (F : Fin N r h h') : RU 9 34 (.inl (some (aI (okR r))), h') (135, [aR 201, aI 0, aI ((n' : Nat) : Int)], [], 0, 0, h') := by
  obtain ⟨F, -⟩ := F
  rcases r with e | a
  · obtain ⟨dp, ex, s1⟩ := F
    have h1 := hr e rfl
    refine r_aldR cd_34_135 rfl rfl ?_
    refine r_get cd_34_136 rfl s1 rfl ?_
    refine r_if52 cd_34_139 rfl ⟨by omega, by omega⟩ (fun n1 => ?_) (fun n1 => ?_)
    · exact absurd n1 (by omega)
    · refine r_con (v := 0) cd_34_146 rfl (by decide) ?_
      exact r_ret cd_34_147 (Or.inl rfl) (rfl)
  · obtain ⟨⟨dp, ex, s1⟩, -⟩ := F
    refine r_aldR cd_34_135 rfl rfl ?_
    refine r_get cd_34_136 rfl s1 rfl ?_
    refine r_if52 cd_34_139 rfl ⟨by omega, by omega⟩ (fun n1 => ?_) (fun n1 => ?_)
    · refine r_con (v := 1) cd_34_142 rfl (by decide) ?_
      refine r_goto cd_34_143 ?_
      exact r_ret cd_34_147 (Or.inr rfl) (rfl)
    · exact absurd n1 (by decide)
theorem v_34 {h : aH} {tx tb : Nat → Int} {N : Nat} (hN : N ≤ 600) (hT : ∀ k, k < N → BT (tx k) (tb k)) (hb : TxB tx) (dp ex ek eo : Int) (hS : h.2.2 201 = SO dp ex ek eo) (hX : Ex h 204) (st nx kd vl : Int) (hO : h.2.2 202 = TO N st nx kd vl) (hB : h.2.2 203 = .inl (1, 600, .inl tb)) (hV : ∃ va, h.2.2 222 = .inl (0, 4, .inl va)) (hD : ∃ bd, h.2.2 223 = .inl (0, 2, .inl bd)) (hQ : ∃ rd, h.2.2 224 = .inl (0, 2, .inl rd)) : ∃ h', Ct 9 34 [aR 201] h (.inl (some (aI (okR (parA tx N)))), h') ∧ Fin N (parA tx N) h h' := by
  obtain ⟨va, hV⟩ := hV
  obtain ⟨bd, hD⟩ := hD
  obtain ⟨rd, hQ⟩ := hQ
  have s1 : (sw (sw h 201 (SO 0 0 0 (-1))) 202 (TO N st 0 kd vl)).2.2 201 = SO 0 0 0 (-1) := (sw_ne (by decide)).trans (sw_at _ _ _)
  have o1 : (sw (sw h 201 (SO 0 0 0 (-1))) 202 (TO N st 0 kd vl)).2.2 202 = TO N st ((0 : Nat) : Int) kd vl := sw_at _ _ _
  have N1 : NO h (sw (sw h 201 (SO 0 0 0 (-1))) 202 (TO N st 0 kd vl)) := NO.rf.s.t
  have b1 : (sw (sw h 201 (SO 0 0 0 (-1))) 202 (TO N st 0 kd vl)).2.2 203 = .inl (1, 600, .inl tb) := (N1.1 203 (by decide) (by decide)).trans hB
  have P1 := v_35 (h := (sw (sw h 201 (SO 0 0 0 (-1))) 202 (TO N st 0 kd vl))) hN hT 0 0 0 (-1) s1 (N1.ex hX) hb st kd vl o1 b1
  have hgp := good_par (tx := tx) (N := N)
  have hre : ∀ e, parA tx N = .inl e → 1 ≤ e.1 ∧ e.1 ≤ 5 := fun e he => by rw [he] at hgp; exact hgp
  rcases hA : headA tx N with e | ⟨a, j⟩
  · rw [hA] at P1
    obtain ⟨gc, ce, sc, tc, Xc, nc, vc⟩ := P1
    have NG : NC h gc := N1.nc.tr nc
    have ep : parA tx N = .inl e := par_e.trans (bnd_e hA)
    have F9 : Fin N (parA tx N) h gc := by
      rw [ep]
      exact ⟨⟨_, _, sc⟩, tc, Xc, ⟨_, vc.trans ((N1.1 222 (by decide) (by decide)).trans hV)⟩, ⟨_, (NG.1 223 (by decide)).trans hD⟩, ⟨_, (NG.1 224 (by decide)).trans hQ⟩, NG.nx⟩
    refine ⟨gc, Ct.of [aR 201, aU, aU] rfl ?_, F9⟩
    refine r_aldR cd_34_0 rfl rfl ?_
    refine r_con (v := 0) cd_34_1 rfl (by decide) ?_
    refine r_put (fs' := [aR 202, aR 204, aR 222, aR 223, aR 224, aI 0, aI ex, aI ek, aI eo]) cd_34_2 rfl hS rfl rfl ?_
    refine r_aldR cd_34_5 rfl rfl ?_
    refine r_con (v := 0) cd_34_6 rfl (by decide) ?_
    refine r_put (fs' := [aR 202, aR 204, aR 222, aR 223, aR 224, aI 0, aI 0, aI ek, aI eo]) cd_34_7 rfl (sw_at _ _ _) rfl rfl ?_
    rw [sw_sw]
    refine r_aldR cd_34_10 rfl rfl ?_
    refine r_con (v := 0) cd_34_11 rfl (by decide) ?_
    refine r_put (fs' := [aR 202, aR 204, aR 222, aR 223, aR 224, aI 0, aI 0, aI 0, aI eo]) cd_34_12 rfl (sw_at _ _ _) rfl rfl ?_
    rw [sw_sw]
    refine r_aldR cd_34_15 rfl rfl ?_
    refine r_con (v := (-1)) cd_34_16 rfl (by decide) ?_
    refine r_put (fs' := [aR 202, aR 204, aR 222, aR 223, aR 224, aI 0, aI 0, aI 0, aI (-1)]) cd_34_17 rfl (sw_at _ _ _) rfl rfl ?_
    rw [sw_sw]
    refine r_aldR cd_34_20 rfl rfl ?_
    refine r_get cd_34_21 rfl (sw_at _ _ _) rfl ?_
    refine r_con (v := 0) cd_34_24 rfl (by decide) ?_
    refine r_cV (v_63 (N := N) st nx kd vl ((sw_ne (by decide)).trans hO) 0) cd_34_25 rfl rfl rfl (rc0 ((sw_ne (by decide)).trans hO) rfl) rfl rfl rfl ?_
    refine r_aldR cd_34_28 rfl rfl ?_
    refine r_cI ce cd_34_29 rfl rfl rfl (rc0 ((sw_ne (by decide)).trans (sw_at _ _ _)) rfl) rfl rfl rfl ?_
    refine r_ist cd_34_32 rfl rfl (L' := [aR 201, aI 0, aU]) rfl ?_
    refine r_con (v := 0) cd_34_33 rfl (by decide) ?_
    refine r_ist cd_34_34 rfl rfl (L' := [aR 201, aI 0, aI 0]) rfl ?_
    exact j0_34 (x_34 (n' := 0) hre F9)
  · rw [hA] at P1
    obtain ⟨gc, ce, sc, tc, Rc, nc, vc⟩ := P1
    have NG : NC h gc := N1.nc.tr nc
    have ep : parA tx N = loopG 0 (deepR tx N 2) tx N (N + 1) j (iniW ((a : Nat) : Int)) 0 := par_e.trans (bnd_r hA)
    have ho : a ≤ 30 ∧ 8 ≤ a ∧ j ≤ N := by
      unfold headA at hA
      by_cases hy : saysB tx N 0 (sT 52) = true
      · rw [if_pos hy] at hA
        obtain ⟨⟨a1, j1⟩, g1, g2⟩ := bnd_o hA
        obtain ⟨-, z2, z3, z4, -⟩ := numA_o g1 (by decide)
        have p1 := tPos (tx := tx) (N := N) (i := 0) (by omega)
        have p2 := tPos (tx := tx) p1.2
        simp only at g2 z2 z3 z4
        rw [← z4] at p2
        by_cases hk : tKnd tx N j1 = 1
        · rw [if_pos hk] at g2; cases g2; exact ⟨by omega, by omega, (tPos p2.2).2⟩
        · rw [if_neg hk] at g2; cases g2
      · rw [if_neg hy] at hA; cases hA
    have XG : XS gc tb N j (iniW ((a : Nat) : Int)) 0 0 rd bd := ⟨sc, tc, (NG.1 203 (by decide)).trans hB, Rc, ⟨_, vc.trans ((N1.1 222 (by decide) (by decide)).trans hV)⟩, (NG.1 223 (by decide)).trans hD, (NG.1 224 (by decide)).trans hQ⟩
    have hg := lopd_0 hN hT hb (N + 1) j (iniW ((a : Nat) : Int)) 0 gc 0 rd bd (fun b => .inr b) XG ho.2.2 (ini_inv (by omega) (by omega)) (by omega) (by omega) (by omega) (fun j2 w2 e2 h2 n2 rd2 bd2 e X2 ag I2 x2 m1 m2 m3 N2 b2 => by
      obtain ⟨h3, J3, F3⟩ := st_end (n := n2) hN hT hb X2 m2 (by omega) m3
      exact GoP.stop J3 F3)
    rw [bnd_id, ← ep] at hg
    obtain ⟨h9, n9, c9, F8⟩ := hg
    have F9 : Fin N (parA tx N) h h9 := Fin.tr NG.nx F8
    refine ⟨h9, Ct.of [aR 201, aU, aU] rfl ?_, F9⟩
    refine r_aldR cd_34_0 rfl rfl ?_
    refine r_con (v := 0) cd_34_1 rfl (by decide) ?_
    refine r_put (fs' := [aR 202, aR 204, aR 222, aR 223, aR 224, aI 0, aI ex, aI ek, aI eo]) cd_34_2 rfl hS rfl rfl ?_
    refine r_aldR cd_34_5 rfl rfl ?_
    refine r_con (v := 0) cd_34_6 rfl (by decide) ?_
    refine r_put (fs' := [aR 202, aR 204, aR 222, aR 223, aR 224, aI 0, aI 0, aI ek, aI eo]) cd_34_7 rfl (sw_at _ _ _) rfl rfl ?_
    rw [sw_sw]
    refine r_aldR cd_34_10 rfl rfl ?_
    refine r_con (v := 0) cd_34_11 rfl (by decide) ?_
    refine r_put (fs' := [aR 202, aR 204, aR 222, aR 223, aR 224, aI 0, aI 0, aI 0, aI eo]) cd_34_12 rfl (sw_at _ _ _) rfl rfl ?_
    rw [sw_sw]
    refine r_aldR cd_34_15 rfl rfl ?_
    refine r_con (v := (-1)) cd_34_16 rfl (by decide) ?_
    refine r_put (fs' := [aR 202, aR 204, aR 222, aR 223, aR 224, aI 0, aI 0, aI 0, aI (-1)]) cd_34_17 rfl (sw_at _ _ _) rfl rfl ?_
    rw [sw_sw]
    refine r_aldR cd_34_20 rfl rfl ?_
    refine r_get cd_34_21 rfl (sw_at _ _ _) rfl ?_
    refine r_con (v := 0) cd_34_24 rfl (by decide) ?_
    refine r_cV (v_63 (N := N) st nx kd vl ((sw_ne (by decide)).trans hO) 0) cd_34_25 rfl rfl rfl (rc0 ((sw_ne (by decide)).trans hO) rfl) rfl rfl rfl ?_
    refine r_aldR cd_34_28 rfl rfl ?_
    refine r_cI ce cd_34_29 rfl rfl rfl (rc0 ((sw_ne (by decide)).trans (sw_at _ _ _)) rfl) rfl rfl rfl ?_
    refine r_ist cd_34_32 rfl rfl (L' := [aR 201, aI 1, aU]) rfl ?_
    refine r_con (v := 0) cd_34_33 rfl (by decide) ?_
    refine r_ist cd_34_34 rfl rfl (L' := [aR 201, aI 1, aI 0]) rfl ?_
    exact c9 _ (x_34 hre F9)
