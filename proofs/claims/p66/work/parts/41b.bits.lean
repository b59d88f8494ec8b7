/-! THE MATHEMATICS: counting the bits of a set -/
theorem i32_nn {v : Int} (g1 : 0 ≤ v) (g2 : v < 2147483648) : (i32 v).toBitVec.toNat = v.toNat := by
  have e : (i32 v).toBitVec.toInt = v := i32_toInt (by omega) g2
  have h : (i32 v).toBitVec.toInt = if 2 * (i32 v).toBitVec.toNat < 2 ^ 32 then ((i32 v).toBitVec.toNat : Int) else ((i32 v).toBitVec.toNat : Int) - (2 ^ 32 : Nat) := BitVec.toInt_eq_toNat_cond _
  have h2 := (i32 v).toBitVec.isLt
  split at h <;> omega
theorem bv_nn {x : BitVec 32} {n : Nat} (h : x.toNat = n) (h2 : n < 2147483648) : x.toInt = (n : Int) := by
  rw [BitVec.toInt_eq_toNat_of_lt (by omega), h]
theorem and_nat {a b : Nat} (ha : a < 2147483648) (hb : b < 2147483648) : andI (a : Int) (b : Int) = ((a &&& b : Nat) : Int) := by
  have e : andI (a : Int) (b : Int) = ((i32 (a : Int)).toBitVec &&& (i32 (b : Int)).toBitVec).toInt := rfl
  rw [e]
  refine bv_nn ?_ (Nat.lt_of_le_of_lt Nat.and_le_left ha)
  rw [BitVec.toNat_and, i32_nn (by omega) (by omega), i32_nn (by omega) (by omega), Int.toNat_natCast, Int.toNat_natCast]
theorem or_nat {a b : Nat} (ha : a < 65536) (hb : b < 65536) : orI (a : Int) (b : Int) = ((a ||| b : Nat) : Int) := by
  have e : orI (a : Int) (b : Int) = ((i32 (a : Int)).toBitVec ||| (i32 (b : Int)).toBitVec).toInt := rfl
  rw [e]
  have h := Nat.or_lt_two_pow (n := 16) ha hb
  refine bv_nn ?_ (by omega)
  rw [BitVec.toNat_or, i32_nn (by omega) (by omega), i32_nn (by omega) (by omega), Int.toNat_natCast, Int.toNat_natCast]
theorem ushr_nat {a k : Nat} (ha : a < 2147483648) (hk : k = 1 ∨ k = 2 ∨ k = 4 ∨ k = 8 ∨ k = 16) : ushrI (a : Int) (k : Int) = ((a >>> k : Nat) : Int) := by
  have e : ∀ x : Int32, ((x.toUInt32 >>> ((i32 (k : Int)).toUInt32 &&& Int32.toUInt32 31)).toInt32).toBitVec.toNat = x.toBitVec.toNat >>> k := by
    rcases hk with rfl | rfl | rfl | rfl | rfl <;> intro x <;> rfl
  have e2 : ushrI (a : Int) (k : Int) = (((i32 (a : Int)).toUInt32 >>> ((i32 (k : Int)).toUInt32 &&& Int32.toUInt32 31)).toInt32).toBitVec.toInt := rfl
  rw [e2]
  refine bv_nn ?_ (Nat.lt_of_le_of_lt (Nat.shiftRight_le a k) ha)
  rw [e, i32_nn (by omega) (by omega), Int.toNat_natCast]
def bcN (n : Nat) : Nat :=
  let v1 := n - ((n >>> 1) &&& 1431655765)
  let v2 := (v1 &&& 858993459) + ((v1 >>> 2) &&& 858993459)
  let v3 := (v2 + (v2 >>> 4)) &&& 252645135
  let v4 := v3 + (v3 >>> 8)
  let v5 := v4 + (v4 >>> 16)
  v5 &&& 63
def pcN : Nat → Nat → Nat
  | 0, _ => 0
  | f + 1, m => m % 2 + pcN f (m / 2)
def bcC (o : Nat) : Nat → Bool
  | 0 => true
  | n + 1 => Nat.beq (bcN (o + n)) (pcN 16 (o + n)) && bcC o n
theorem bc_0 : bcC 0 1024 = true := by decide +kernel
theorem bc_1 : bcC 1024 1024 = true := by decide +kernel
theorem bc_2 : bcC 2048 1024 = true := by decide +kernel
theorem bc_3 : bcC 3072 1024 = true := by decide +kernel
theorem bc_4 : bcC 4096 1024 = true := by decide +kernel
theorem bc_5 : bcC 5120 1024 = true := by decide +kernel
theorem bc_6 : bcC 6144 1024 = true := by decide +kernel
theorem bc_7 : bcC 7168 1024 = true := by decide +kernel
theorem bc_8 : bcC 8192 1024 = true := by decide +kernel
theorem bc_9 : bcC 9216 1024 = true := by decide +kernel
theorem bc_10 : bcC 10240 1024 = true := by decide +kernel
theorem bc_11 : bcC 11264 1024 = true := by decide +kernel
theorem bc_12 : bcC 12288 1024 = true := by decide +kernel
theorem bc_13 : bcC 13312 1024 = true := by decide +kernel
theorem bc_14 : bcC 14336 1024 = true := by decide +kernel
theorem bc_15 : bcC 15360 1024 = true := by decide +kernel
theorem bc_16 : bcC 16384 1024 = true := by decide +kernel
theorem bc_17 : bcC 17408 1024 = true := by decide +kernel
theorem bc_18 : bcC 18432 1024 = true := by decide +kernel
theorem bc_19 : bcC 19456 1024 = true := by decide +kernel
theorem bc_20 : bcC 20480 1024 = true := by decide +kernel
theorem bc_21 : bcC 21504 1024 = true := by decide +kernel
theorem bc_22 : bcC 22528 1024 = true := by decide +kernel
theorem bc_23 : bcC 23552 1024 = true := by decide +kernel
theorem bc_24 : bcC 24576 1024 = true := by decide +kernel
theorem bc_25 : bcC 25600 1024 = true := by decide +kernel
theorem bc_26 : bcC 26624 1024 = true := by decide +kernel
theorem bc_27 : bcC 27648 1024 = true := by decide +kernel
theorem bc_28 : bcC 28672 1024 = true := by decide +kernel
theorem bc_29 : bcC 29696 1024 = true := by decide +kernel
theorem bc_30 : bcC 30720 1024 = true := by decide +kernel
theorem bc_31 : bcC 31744 1024 = true := by decide +kernel
theorem bc_32 : bcC 32768 1024 = true := by decide +kernel
theorem bc_33 : bcC 33792 1024 = true := by decide +kernel
theorem bc_34 : bcC 34816 1024 = true := by decide +kernel
theorem bc_35 : bcC 35840 1024 = true := by decide +kernel
theorem bc_36 : bcC 36864 1024 = true := by decide +kernel
theorem bc_37 : bcC 37888 1024 = true := by decide +kernel
theorem bc_38 : bcC 38912 1024 = true := by decide +kernel
theorem bc_39 : bcC 39936 1024 = true := by decide +kernel
theorem bc_40 : bcC 40960 1024 = true := by decide +kernel
theorem bc_41 : bcC 41984 1024 = true := by decide +kernel
theorem bc_42 : bcC 43008 1024 = true := by decide +kernel
theorem bc_43 : bcC 44032 1024 = true := by decide +kernel
theorem bc_44 : bcC 45056 1024 = true := by decide +kernel
theorem bc_45 : bcC 46080 1024 = true := by decide +kernel
theorem bc_46 : bcC 47104 1024 = true := by decide +kernel
theorem bc_47 : bcC 48128 1024 = true := by decide +kernel
theorem bc_48 : bcC 49152 1024 = true := by decide +kernel
theorem bc_49 : bcC 50176 1024 = true := by decide +kernel
theorem bc_50 : bcC 51200 1024 = true := by decide +kernel
theorem bc_51 : bcC 52224 1024 = true := by decide +kernel
theorem bc_52 : bcC 53248 1024 = true := by decide +kernel
theorem bc_53 : bcC 54272 1024 = true := by decide +kernel
theorem bc_54 : bcC 55296 1024 = true := by decide +kernel
theorem bc_55 : bcC 56320 1024 = true := by decide +kernel
theorem bc_56 : bcC 57344 1024 = true := by decide +kernel
theorem bc_57 : bcC 58368 1024 = true := by decide +kernel
theorem bc_58 : bcC 59392 1024 = true := by decide +kernel
theorem bc_59 : bcC 60416 1024 = true := by decide +kernel
theorem bc_60 : bcC 61440 1024 = true := by decide +kernel
theorem bc_61 : bcC 62464 1024 = true := by decide +kernel
theorem bc_62 : bcC 63488 1024 = true := by decide +kernel
theorem bc_63 : bcC 64512 1024 = true := by decide +kernel
theorem bc_ok : ∀ {m n o : Nat}, bcC o m = true → n < m → bcN (o + n) = pcN 16 (o + n)
  | 0, n, o, _, h => by omega
  | m + 1, n, o, hc, h => by
    unfold bcC at hc
    rw [Bool.and_eq_true] at hc
    by_cases e : n = m
    · subst e
      exact Nat.eq_of_beq_eq_true hc.1
    · exact bc_ok hc.2 (by omega)
theorem bc_at {n o : Nat} (hc : bcC o 1024 = true) (h1 : o ≤ n) (h2 : n < o + 1024) : bcN n = pcN 16 n := by
  have h := bc_ok (n := n - o) hc (by omega)
  rw [show o + (n - o) = n by omega] at h
  exact h
theorem bc_all {n : Nat} (h : n < 65536) : bcN n = pcN 16 n := by
  have hk : ∃ k, k < 64 ∧ 1024 * k ≤ n ∧ n < 1024 * k + 1024 := ⟨n / 1024, by omega, by omega, by omega⟩
  obtain ⟨k, h1, h2, h3⟩ := hk
  by_cases e0 : k = 0
  · exact bc_at bc_0 (by omega) (by omega)
  by_cases e1 : k = 1
  · exact bc_at bc_1 (by omega) (by omega)
  by_cases e2 : k = 2
  · exact bc_at bc_2 (by omega) (by omega)
  by_cases e3 : k = 3
  · exact bc_at bc_3 (by omega) (by omega)
  by_cases e4 : k = 4
  · exact bc_at bc_4 (by omega) (by omega)
  by_cases e5 : k = 5
  · exact bc_at bc_5 (by omega) (by omega)
  by_cases e6 : k = 6
  · exact bc_at bc_6 (by omega) (by omega)
  by_cases e7 : k = 7
  · exact bc_at bc_7 (by omega) (by omega)
  by_cases e8 : k = 8
  · exact bc_at bc_8 (by omega) (by omega)
  by_cases e9 : k = 9
  · exact bc_at bc_9 (by omega) (by omega)
  by_cases e10 : k = 10
  · exact bc_at bc_10 (by omega) (by omega)
  by_cases e11 : k = 11
  · exact bc_at bc_11 (by omega) (by omega)
  by_cases e12 : k = 12
  · exact bc_at bc_12 (by omega) (by omega)
  by_cases e13 : k = 13
  · exact bc_at bc_13 (by omega) (by omega)
  by_cases e14 : k = 14
  · exact bc_at bc_14 (by omega) (by omega)
  by_cases e15 : k = 15
  · exact bc_at bc_15 (by omega) (by omega)
  by_cases e16 : k = 16
  · exact bc_at bc_16 (by omega) (by omega)
  by_cases e17 : k = 17
  · exact bc_at bc_17 (by omega) (by omega)
  by_cases e18 : k = 18
  · exact bc_at bc_18 (by omega) (by omega)
  by_cases e19 : k = 19
  · exact bc_at bc_19 (by omega) (by omega)
  by_cases e20 : k = 20
  · exact bc_at bc_20 (by omega) (by omega)
  by_cases e21 : k = 21
  · exact bc_at bc_21 (by omega) (by omega)
  by_cases e22 : k = 22
  · exact bc_at bc_22 (by omega) (by omega)
  by_cases e23 : k = 23
  · exact bc_at bc_23 (by omega) (by omega)
  by_cases e24 : k = 24
  · exact bc_at bc_24 (by omega) (by omega)
  by_cases e25 : k = 25
  · exact bc_at bc_25 (by omega) (by omega)
  by_cases e26 : k = 26
  · exact bc_at bc_26 (by omega) (by omega)
  by_cases e27 : k = 27
  · exact bc_at bc_27 (by omega) (by omega)
  by_cases e28 : k = 28
  · exact bc_at bc_28 (by omega) (by omega)
  by_cases e29 : k = 29
  · exact bc_at bc_29 (by omega) (by omega)
  by_cases e30 : k = 30
  · exact bc_at bc_30 (by omega) (by omega)
  by_cases e31 : k = 31
  · exact bc_at bc_31 (by omega) (by omega)
  by_cases e32 : k = 32
  · exact bc_at bc_32 (by omega) (by omega)
  by_cases e33 : k = 33
  · exact bc_at bc_33 (by omega) (by omega)
  by_cases e34 : k = 34
  · exact bc_at bc_34 (by omega) (by omega)
  by_cases e35 : k = 35
  · exact bc_at bc_35 (by omega) (by omega)
  by_cases e36 : k = 36
  · exact bc_at bc_36 (by omega) (by omega)
  by_cases e37 : k = 37
  · exact bc_at bc_37 (by omega) (by omega)
  by_cases e38 : k = 38
  · exact bc_at bc_38 (by omega) (by omega)
  by_cases e39 : k = 39
  · exact bc_at bc_39 (by omega) (by omega)
  by_cases e40 : k = 40
  · exact bc_at bc_40 (by omega) (by omega)
  by_cases e41 : k = 41
  · exact bc_at bc_41 (by omega) (by omega)
  by_cases e42 : k = 42
  · exact bc_at bc_42 (by omega) (by omega)
  by_cases e43 : k = 43
  · exact bc_at bc_43 (by omega) (by omega)
  by_cases e44 : k = 44
  · exact bc_at bc_44 (by omega) (by omega)
  by_cases e45 : k = 45
  · exact bc_at bc_45 (by omega) (by omega)
  by_cases e46 : k = 46
  · exact bc_at bc_46 (by omega) (by omega)
  by_cases e47 : k = 47
  · exact bc_at bc_47 (by omega) (by omega)
  by_cases e48 : k = 48
  · exact bc_at bc_48 (by omega) (by omega)
  by_cases e49 : k = 49
  · exact bc_at bc_49 (by omega) (by omega)
  by_cases e50 : k = 50
  · exact bc_at bc_50 (by omega) (by omega)
  by_cases e51 : k = 51
  · exact bc_at bc_51 (by omega) (by omega)
  by_cases e52 : k = 52
  · exact bc_at bc_52 (by omega) (by omega)
  by_cases e53 : k = 53
  · exact bc_at bc_53 (by omega) (by omega)
  by_cases e54 : k = 54
  · exact bc_at bc_54 (by omega) (by omega)
  by_cases e55 : k = 55
  · exact bc_at bc_55 (by omega) (by omega)
  by_cases e56 : k = 56
  · exact bc_at bc_56 (by omega) (by omega)
  by_cases e57 : k = 57
  · exact bc_at bc_57 (by omega) (by omega)
  by_cases e58 : k = 58
  · exact bc_at bc_58 (by omega) (by omega)
  by_cases e59 : k = 59
  · exact bc_at bc_59 (by omega) (by omega)
  by_cases e60 : k = 60
  · exact bc_at bc_60 (by omega) (by omega)
  by_cases e61 : k = 61
  · exact bc_at bc_61 (by omega) (by omega)
  by_cases e62 : k = 62
  · exact bc_at bc_62 (by omega) (by omega)
  by_cases e63 : k = 63
  · exact bc_at bc_63 (by omega) (by omega)
  omega
theorem pc_tb : ∀ {f m : Nat}, (pcN f m : Int) = itF (fun k a => a + (if m.testBit k = true then 1 else 0)) 0 f 0
  | 0, _ => rfl
  | f + 1, m => by
    have h : ∀ (f k : Nat) (a : Int), itF (fun k a => a + (if m.testBit k = true then 1 else 0)) (k + 1) f a = itF (fun k a => a + (if (m / 2).testBit k = true then 1 else 0)) k f a := by
      intro f
      induction f with
      | zero => intro k a; rfl
      | succ f ih =>
        intro k a
        show itF _ (k + 1 + 1) f _ = itF _ (k + 1) f _
        rw [ih]
        simp only [Nat.testBit_succ]
    have h2 : ∀ (g : Nat → Nat → Bool) (f k : Nat) (a : Int), itF (fun k a => a + (if g m k = true then (1 : Int) else 0)) k f a = a + itF (fun k a => a + (if g m k = true then 1 else 0)) k f 0 := by
      intro g f
      induction f with
      | zero => intro k a; show a = a + 0; omega
      | succ f ih =>
        intro k a
        show itF _ (k + 1) f (a + _) = a + itF _ (k + 1) f (0 + _)
        rw [ih, ih (k + 1) (0 + _)]
        omega
    show ((m % 2 + pcN f (m / 2) : Nat) : Int) = itF _ 1 f (0 + _)
    rw [h2 (fun m k => m.testBit k), h f 0 0, show ((m % 2 + pcN f (m / 2) : Nat) : Int) = ((m % 2 : Nat) : Int) + ((pcN f (m / 2) : Nat) : Int) by omega, pc_tb]
    simp only [Nat.testBit_zero]
    have : m % 2 = 0 ∨ m % 2 = 1 := by omega
    rcases this with e | e <;> simp [e]
def valG (f : Nat → Bool) (p v : Nat) : Nat := v ||| (if f p = true then 2 ^ p else 0)
def valN (f : Nat → Bool) (n : Nat) : Nat := itF (valG f) 0 n 0
theorem val_lt {f : Nat → Bool} : ∀ {n : Nat}, valN f n < 2 ^ n
  | 0 => by show (0 : Nat) < 1; omega
  | n + 1 => by
    have h := val_lt (f := f) (n := n)
    show itF (valG f) 0 (n + 1) 0 < _
    rw [itF_last, Nat.zero_add]
    refine Nat.or_lt_two_pow ?_ ?_
    · exact Nat.lt_of_lt_of_le h (Nat.pow_le_pow_right (by decide) (by omega))
    · split
      · exact Nat.pow_lt_pow_right (by decide) (by omega)
      · exact Nat.pos_of_ne_zero (by simp)
theorem val_tb {f : Nat → Bool} {k : Nat} : ∀ {n : Nat}, (valN f n).testBit k = (decide (k < n) && f k)
  | 0 => by simp [valN, itF]
  | n + 1 => by
    have h := val_tb (f := f) (k := k) (n := n)
    show (itF (valG f) 0 (n + 1) 0).testBit k = _
    rw [itF_last, Nat.zero_add]
    show (valN f n ||| _).testBit k = _
    rw [Nat.testBit_or, h]
    by_cases e : k = n
    · subst e
      cases hf : f k <;> simp
    · have e1 : decide (k < n + 1) = decide (k < n) := by simp; omega
      rw [e1]
      cases hf : f n <;> simp [Nat.testBit_two_pow, Ne.symm e]
theorem set_val {f : Nat → Bool} : ∀ {n : Nat}, n ≤ 16 → setF f n = ((valN f n : Nat) : Int)
  | 0, _ => rfl
  | n + 1, hn => by
    have h := set_val (f := f) (n := n) (by omega)
    have h16 : 2 ^ n ≤ 65536 := Nat.pow_le_pow_right (n := 2) (by decide) (show n ≤ 16 by omega)
    have hl : valN f n < 65536 := Nat.lt_of_lt_of_le (val_lt (f := f) (n := n)) h16
    have hp : 2 ^ n < 65536 := Nat.pow_lt_pow_right (a := 2) (by decide) (show n < 16 by omega)
    have e1 : setF f (n + 1) = setG f n (setF f n) := by
      show itF (setG f) 0 (n + 1) 0 = _
      rw [itF_last, Nat.zero_add]
      rfl
    have e2 : valN f (n + 1) = valG f n (valN f n) := by
      show itF (valG f) 0 (n + 1) 0 = _
      rw [itF_last, Nat.zero_add]
      rfl
    rw [e1, e2, h]
    unfold setG valG
    have hs : shlI 1 ((n : Nat) : Int) = ((2 ^ n : Nat) : Int) := by
      have : n = 0 ∨ n = 1 ∨ n = 2 ∨ n = 3 ∨ n = 4 ∨ n = 5 ∨ n = 6 ∨ n = 7 ∨ n = 8 ∨ n = 9 ∨ n = 10 ∨ n = 11 ∨ n = 12 ∨ n = 13 ∨ n = 14 ∨ n = 15 := by omega
      rcases this with rfl | rfl | rfl | rfl | rfl | rfl | rfl | rfl | rfl | rfl | rfl | rfl | rfl | rfl | rfl | rfl <;> decide
    split
    · rw [hs, or_nat hl hp]
    · exact or_nat (b := 0) hl (by decide)
theorem itF_tail {g : Nat → Int → Int} {n : Nat} : ∀ {m : Nat} {a : Int}, (∀ k a, n ≤ k → g k a = a) → itF g n m a = a
  | 0, _, _ => rfl
  | m + 1, a, h => by
    show itF g (n + 1) m (g n a) = a
    rw [h n a (Nat.le_refl _)]
    exact itF_tail fun k a hk => h k a (by omega)
theorem itF_split {g : Nat → Int → Int} : ∀ {n m i : Nat} {a : Int}, itF g i (n + m) a = itF g (i + n) m (itF g i n a)
  | 0, m, i, a => by rw [Nat.zero_add]; rfl
  | n + 1, m, i, a => by
    rw [show n + 1 + m = (n + m) + 1 by omega]
    show itF g (i + 1) (n + m) (g i a) = itF g (i + (n + 1)) m (itF g (i + 1) n (g i a))
    rw [itF_split, show i + 1 + n = i + (n + 1) by omega]
/-- the bits of the set of tied parcels are its knots -/
theorem bc_knots {w : Nat → Int} {b : Nat} (hP : nP w ≤ 16) : ((bcN (valN (fun p => tied w p b) (nP w)) : Nat) : Int) = knots w b := by
  have h16 : 2 ^ nP w ≤ 65536 := Nat.pow_le_pow_right (n := 2) (by decide) hP
  have hl : valN (fun p => tied w p b) (nP w) < 65536 := Nat.lt_of_lt_of_le val_lt h16
  rw [bc_all hl, pc_tb]
  have e : (16 : Nat) = nP w + (16 - nP w) := by omega
  rw [e, itF_split, itF_tail]
  · unfold knots
    refine itF_congr fun p a _ hp => ?_
    unfold knotG
    rw [val_tb]
    have : decide (p < nP w) = true := by simp; omega
    rw [this, Bool.true_and]
  · intro k a hk
    rw [val_tb]
    have : decide (k < nP w) = false := by simp; omega
    simp [this]
