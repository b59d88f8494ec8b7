/-! THE ENTRIES OF THE CODE TABLES against the bytes -/
def dq (y pc : Nat) (i : Instr) (n : Nat) : Bool := decide (decode (mby y) pc = .ok (i, n))
theorem dq_ok {y pc : Nat} {i : Instr} {n : Nat} (h : dq y pc i n = true) : decode (mby y) pc = .ok (i, n) := of_decide_eq_true h
def f4 (a : Nat) : Fin 4 := Fin.ofNat 4 a
theorem f4_ok {a : Nat} (h : a < 4) : ((f4 a : Fin 4) : Nat) = a := Nat.mod_eq_of_lt h
def off (a pc : Nat) : Int := (a : Int) - (pc : Int)
theorem off_ok (a pc : Nat) : (pc : Int) + off a pc = (a : Int) := by unfold off; omega
/-- one form with an index, one without -/
def d12 (y pc len a : Nat) (f : Nat → Instr) (g : Fin 4 → Instr) : Bool := bif Nat.beq len 2 then dq y pc (f a) 2 else (Nat.beq len 1 && Nat.blt a 4 && dq y pc (g (f4 a)) 1)
theorem d12_ok {y pc len a : Nat} {f : Nat → Instr} {g : Fin 4 → Instr} (h : d12 y pc len a f g = true) : (len = 2 ∧ decode (mby y) pc = .ok (f a, 2)) ∨ (len = 1 ∧ a < 4 ∧ decode (mby y) pc = .ok (g (f4 a), 1)) := by
  unfold d12 at h
  cases hb : Nat.beq len 2
  · rw [hb] at h
    simp only [cond_false, Bool.and_eq_true] at h
    obtain ⟨⟨h1, h2⟩, h3⟩ := h
    exact Or.inr ⟨Nat.eq_of_beq_eq_true h1, Nat.le_of_ble_eq_true h2, dq_ok h3⟩
  · rw [hb] at h
    exact Or.inl ⟨Nat.eq_of_beq_eq_true hb, dq_ok h⟩
/-- of one length -/
def d1 (y pc len n : Nat) (i : Instr) : Bool := Nat.beq len n && dq y pc i n
theorem d1_ok {y pc len n : Nat} {i : Instr} (h : d1 y pc len n i = true) : len = n ∧ decode (mby y) pc = .ok (i, n) := by
  simp only [d1, Bool.and_eq_true] at h
  exact ⟨Nat.eq_of_beq_eq_true h.1, dq_ok h.2⟩
/-- ldc or ldc_w -/
def dl (y pc len i : Nat) : Bool := bif Nat.beq len 2 then dq y pc (.ldc i) 2 else (Nat.beq len 3 && dq y pc (.ldc_w i) 3)
theorem dl_ok {y pc len i : Nat} (h : dl y pc len i = true) : (len = 2 ∧ decode (mby y) pc = .ok (.ldc i, 2)) ∨ (len = 3 ∧ decode (mby y) pc = .ok (.ldc_w i, 3)) := by
  unfold dl at h
  cases hb : Nat.beq len 2
  · rw [hb] at h
    simp only [cond_false, Bool.and_eq_true] at h
    exact Or.inr ⟨Nat.eq_of_beq_eq_true h.1, dq_ok h.2⟩
  · rw [hb] at h
    exact Or.inl ⟨Nat.eq_of_beq_eq_true hb, dq_ok h⟩
def ci3 (y pc len : Nat) (v : Int) : Bool := bif Nat.beq len 1 then dq y pc (.iconst v) 1 else bif Nat.beq len 2 then (dq y pc (.bipush v) 2 && decide ((Int8.ofInt v).toInt32 = i32 v)) else (Nat.beq len 3 && dq y pc (.sipush v) 3 && decide ((Int16.ofInt v).toInt32 = i32 v))
def swP (pc : Nat) : List Nat → List (Int × Int)
  | k :: t :: l => ((k : Int), (t : Int) - (pc : Int)) :: swP pc l
  | _ => []
def rL1 (y pc len : Nat) (v : Int) : Option (Nat × Nat × Nat × Nat × Nat) → Bool
  | some (ow, idx, 0, n, _) => Nat.beq ow (ocl y) && decide (v = (n : Int)) && dl y pc len idx
  | _ => false
def rL2 (y pc len j : Nat) : Option (Nat × Nat × Nat × Nat × Nat) → Bool
  | some (ow, idx, 1, n, _) => Nat.beq ow (ocl y) && Nat.beq j n && dl y pc len idx
  | _ => false
def rS1 (y pc len j : Nat) : Option (Nat × Nat × Nat × Nat) → Bool
  | some (ow, idx, n, _) => Nat.beq ow (ocl y) && Nat.beq j n && d1 y pc len 3 (.getstatic idx)
  | _ => false
def rK1 (y pc len k : Nat) : Option (Nat × Nat × Nat × Nat) → Bool
  | some (ow, idx, n, _) => Nat.beq ow (ocl y) && Nat.beq k n && d1 y pc len 3 (.getfield idx)
  | _ => false
def rN1 (y pc len ci : Nat) : Option (Nat × Nat × Nat × Nat) → Bool
  | some (ow, idx, n, _) => Nat.beq ow (ocl y) && Nat.beq ci n && d1 y pc len 3 (.new idx)
  | _ => false
def rF1 (y pc len ci k : Nat) (f : Nat → Instr) : Option (Nat × Nat × Nat × Nat × Nat) → Bool
  | some (ow, idx, n, j, _) => Nat.beq ow (ocl y) && Nat.beq ci n && Nat.beq k j && d1 y pc len 3 (f idx)
  | _ => false
def rI1 (y pc len kd b na : Nat) (f : Nat → Instr) : Option (Nat × Nat × Nat × Nat × Nat × Nat) → Bool
  | some (ow, idx, n, z, q, _) => Nat.beq ow (ocl y) && Nat.beq kd n && Nat.beq b z && Nat.beq na q && d1 y pc len 3 (f idx)
  | _ => false
def rQ1 (y pc len v : Nat) : Option (Nat × Nat × Nat × Nat) → Bool
  | some (ow, idx, n, _) => Nat.beq ow (ocl y) && Nat.beq v n && d1 y pc len 3 (.ldc2_w idx)
  | _ => false
def pfin (y ci k : Nat) : Bool := bif (FTA ci k).2.2.2 then (decide ((mnm y).name = "<init>") && Nat.beq ci (ocl y)) else true
def mret (t : Option FieldType) : Option Instr := match t with
  | some .int => some .ireturn
  | some .boolean => some .ireturn
  | some .byte => some .ireturn
  | some .char => some .ireturn
  | some .long => some .lreturn
  | some (.object _) => some .areturn
  | _ => none

def exn (e : Nat) : String := match e with
  | 0 => "java/lang/IndexOutOfBoundsException"
  | 1 => "java/lang/IllegalArgumentException"
  | 2 => "java/lang/IllegalStateException"
  | _ => "java/util/NoSuchElementException"
def mtE (y pc : Nat) (e : aE) : Bool := match e with
  | (o, len, a, b, c) => match o with
    | 0 => d12 y pc len a .iload .iload_n
    | 33 => d12 y pc len a .aload .aload_n
    | 34 => d12 y pc len a .lload .lload_n
    | 1 => d12 y pc len a .istore .istore_n
    | 35 => d12 y pc len a .astore .astore_n
    | 2 => d12 y pc len a .lstore .lstore_n
    | 3 => bif Nat.beq c 0 then ci3 y pc len ((a : Int) - (b : Int)) else rL1 y pc len ((a : Int) - (b : Int)) (RL[c - 1]?)
    | 4 => bif Nat.beq c 0 then (!(Nat.beq b 0) && rS1 y pc len a (RS[b - 1]?)) else rL2 y pc len a (RL[c - 1]?)
    | 5 => d1 y pc len 1 .aconst_null
    | 7 => d1 y pc len 3 (.iinc a ((b : Int) - (c : Int)))
    | 8 => Nat.beq a 1 && Nat.beq (ocl y) 12 && d1 y pc len 3 (.getstatic 38)
    | 9 => Nat.beq (ocl y) 12 && d1 y pc len 3 (.getstatic 1053)
    | 10 => d1 y pc len 1 .iadd
    | 11 => d1 y pc len 1 .isub
    | 12 => d1 y pc len 1 .imul
    | 14 => d1 y pc len 1 .irem
    | 15 => d1 y pc len 1 .ineg
    | 16 => d1 y pc len 1 .iand
    | 17 => d1 y pc len 1 .ior
    | 18 => d1 y pc len 1 .ixor
    | 19 => d1 y pc len 1 .ishl
    | 20 => d1 y pc len 1 .ishr
    | 21 => d1 y pc len 1 .iushr
    | 22 => d1 y pc len 1 .i2b
    | 23 => d1 y pc len 1 .i2c
    | 24 => d1 y pc len 1 .i2l
    | 25 => d1 y pc len 1 .lcmp
    | 40 => d1 y pc len 1 .dup
    | 41 => d1 y pc len 1 .dup2
    | 42 => d1 y pc len 1 .pop
    | 43 => d1 y pc len 1 .ladd
    | 44 => d1 y pc len 1 .lmul
    | 84 => d1 y pc len 1 .arraylength
    | 89 => d1 y pc len 1 .aaload
    | 90 => d1 y pc len 1 .aastore
    | 45 => rQ1 y pc len a (RQ[c]?)
    | 50 => d1 y pc len 3 (.goto (off a pc))
    | 51 => d1 y pc len 3 (.ifCond .eq (off a pc))
    | 61 => d1 y pc len 3 (.if_icmp .eq (off a pc))
    | 52 => d1 y pc len 3 (.ifCond .ne (off a pc))
    | 62 => d1 y pc len 3 (.if_icmp .ne (off a pc))
    | 53 => d1 y pc len 3 (.ifCond .lt (off a pc))
    | 63 => d1 y pc len 3 (.if_icmp .lt (off a pc))
    | 54 => d1 y pc len 3 (.ifCond .ge (off a pc))
    | 64 => d1 y pc len 3 (.if_icmp .ge (off a pc))
    | 55 => d1 y pc len 3 (.ifCond .gt (off a pc))
    | 65 => d1 y pc len 3 (.if_icmp .gt (off a pc))
    | 56 => d1 y pc len 3 (.ifCond .le (off a pc))
    | 66 => d1 y pc len 3 (.if_icmp .le (off a pc))
    | 68 => d1 y pc len 3 (.ifnonnull (off a pc))
    | 70 => dq y pc (.tableswitch (off c pc) (b : Int) ((b : Int) + (swtA a).length - 1) ((swtA a).map (fun t => off t pc)).toArray) len
    | 71 => dq y pc (.lookupswitch (off c pc) (swP pc (swtA a)).toArray) len && ((swP pc (swtA a)).zip ((swP pc (swtA a)).drop 1)).all (fun (q, next) => q.1 < next.1)
    | 80 => rF1 y pc len a b .getfield (RF[c]?)
    | 81 => rF1 y pc len a b .putfield (RF[c]?) && pfin y a b
    | 82 => rK1 y pc len a (RC[b]?)
    | 85 => bif Nat.beq a 0 then d1 y pc len 1 .iaload else bif Nat.beq a 1 then d1 y pc len 1 .baload else false
    | 86 => bif Nat.beq a 0 then d1 y pc len 1 .iastore else bif Nat.beq a 1 then d1 y pc len 1 .bastore else false
    | 91 => rN1 y pc len a (RN[b]?)
    | 92 => bif Nat.beq a 0 then d1 y pc len 2 (.newarray .int) else bif Nat.beq a 1 then d1 y pc len 2 (.newarray .byte) else false
    | 93 => Nat.beq (ocl y) 1 && d1 y pc len 3 (.anewarray 9)
    | 95 => rI1 y pc len 3 0 1 .invokespecial (RI[c]?)
    | 96 => rI1 y pc len 4 0 5 .invokestatic (RI[c]?)
    | 100 => rI1 y pc len a b (c % 16) (bif (Nat.beq a 0 || Nat.beq a 5 || Nat.beq a 6) then .invokevirtual else bif (Nat.beq a 1 || Nat.beq a 7) then .invokestatic else .invokespecial) (RI[c / 16]?)
    | 101 => Nat.beq len 1 && (match mret (mrt y) with
      | some i => dq y pc i 1
      | none => false)
    | 102 => decide (mrt y = none) && d1 y pc len 1 .return_
    | _ => false
theorem mtE_0 (y pc len a b c : Nat) : mtE y pc (0, len, a, b, c) = (d12 y pc len a .iload .iload_n) := rfl
theorem mtE_33 (y pc len a b c : Nat) : mtE y pc (33, len, a, b, c) = (d12 y pc len a .aload .aload_n) := rfl
theorem mtE_34 (y pc len a b c : Nat) : mtE y pc (34, len, a, b, c) = (d12 y pc len a .lload .lload_n) := rfl
theorem mtE_1 (y pc len a b c : Nat) : mtE y pc (1, len, a, b, c) = (d12 y pc len a .istore .istore_n) := rfl
theorem mtE_35 (y pc len a b c : Nat) : mtE y pc (35, len, a, b, c) = (d12 y pc len a .astore .astore_n) := rfl
theorem mtE_2 (y pc len a b c : Nat) : mtE y pc (2, len, a, b, c) = (d12 y pc len a .lstore .lstore_n) := rfl
theorem mtE_3 (y pc len a b c : Nat) : mtE y pc (3, len, a, b, c) = (bif Nat.beq c 0 then ci3 y pc len ((a : Int) - (b : Int)) else rL1 y pc len ((a : Int) - (b : Int)) (RL[c - 1]?)) := rfl
theorem mtE_4 (y pc len a b c : Nat) : mtE y pc (4, len, a, b, c) = (bif Nat.beq c 0 then (!(Nat.beq b 0) && rS1 y pc len a (RS[b - 1]?)) else rL2 y pc len a (RL[c - 1]?)) := rfl
theorem mtE_5 (y pc len a b c : Nat) : mtE y pc (5, len, a, b, c) = (d1 y pc len 1 .aconst_null) := rfl
theorem mtE_7 (y pc len a b c : Nat) : mtE y pc (7, len, a, b, c) = (d1 y pc len 3 (.iinc a ((b : Int) - (c : Int)))) := rfl
theorem mtE_8 (y pc len a b c : Nat) : mtE y pc (8, len, a, b, c) = (Nat.beq a 1 && Nat.beq (ocl y) 12 && d1 y pc len 3 (.getstatic 38)) := rfl
theorem mtE_9 (y pc len a b c : Nat) : mtE y pc (9, len, a, b, c) = (Nat.beq (ocl y) 12 && d1 y pc len 3 (.getstatic 1053)) := rfl
theorem mtE_10 (y pc len a b c : Nat) : mtE y pc (10, len, a, b, c) = (d1 y pc len 1 .iadd) := rfl
theorem mtE_11 (y pc len a b c : Nat) : mtE y pc (11, len, a, b, c) = (d1 y pc len 1 .isub) := rfl
theorem mtE_12 (y pc len a b c : Nat) : mtE y pc (12, len, a, b, c) = (d1 y pc len 1 .imul) := rfl
theorem mtE_14 (y pc len a b c : Nat) : mtE y pc (14, len, a, b, c) = (d1 y pc len 1 .irem) := rfl
theorem mtE_15 (y pc len a b c : Nat) : mtE y pc (15, len, a, b, c) = (d1 y pc len 1 .ineg) := rfl
theorem mtE_16 (y pc len a b c : Nat) : mtE y pc (16, len, a, b, c) = (d1 y pc len 1 .iand) := rfl
theorem mtE_17 (y pc len a b c : Nat) : mtE y pc (17, len, a, b, c) = (d1 y pc len 1 .ior) := rfl
theorem mtE_18 (y pc len a b c : Nat) : mtE y pc (18, len, a, b, c) = (d1 y pc len 1 .ixor) := rfl
theorem mtE_19 (y pc len a b c : Nat) : mtE y pc (19, len, a, b, c) = (d1 y pc len 1 .ishl) := rfl
theorem mtE_20 (y pc len a b c : Nat) : mtE y pc (20, len, a, b, c) = (d1 y pc len 1 .ishr) := rfl
theorem mtE_21 (y pc len a b c : Nat) : mtE y pc (21, len, a, b, c) = (d1 y pc len 1 .iushr) := rfl
theorem mtE_22 (y pc len a b c : Nat) : mtE y pc (22, len, a, b, c) = (d1 y pc len 1 .i2b) := rfl
theorem mtE_23 (y pc len a b c : Nat) : mtE y pc (23, len, a, b, c) = (d1 y pc len 1 .i2c) := rfl
theorem mtE_24 (y pc len a b c : Nat) : mtE y pc (24, len, a, b, c) = (d1 y pc len 1 .i2l) := rfl
theorem mtE_25 (y pc len a b c : Nat) : mtE y pc (25, len, a, b, c) = (d1 y pc len 1 .lcmp) := rfl
theorem mtE_40 (y pc len a b c : Nat) : mtE y pc (40, len, a, b, c) = (d1 y pc len 1 .dup) := rfl
theorem mtE_41 (y pc len a b c : Nat) : mtE y pc (41, len, a, b, c) = (d1 y pc len 1 .dup2) := rfl
theorem mtE_42 (y pc len a b c : Nat) : mtE y pc (42, len, a, b, c) = (d1 y pc len 1 .pop) := rfl
theorem mtE_43 (y pc len a b c : Nat) : mtE y pc (43, len, a, b, c) = (d1 y pc len 1 .ladd) := rfl
theorem mtE_44 (y pc len a b c : Nat) : mtE y pc (44, len, a, b, c) = (d1 y pc len 1 .lmul) := rfl
theorem mtE_84 (y pc len a b c : Nat) : mtE y pc (84, len, a, b, c) = (d1 y pc len 1 .arraylength) := rfl
theorem mtE_89 (y pc len a b c : Nat) : mtE y pc (89, len, a, b, c) = (d1 y pc len 1 .aaload) := rfl
theorem mtE_90 (y pc len a b c : Nat) : mtE y pc (90, len, a, b, c) = (d1 y pc len 1 .aastore) := rfl
theorem mtE_45 (y pc len a b c : Nat) : mtE y pc (45, len, a, b, c) = (rQ1 y pc len a (RQ[c]?)) := rfl
theorem mtE_50 (y pc len a b c : Nat) : mtE y pc (50, len, a, b, c) = (d1 y pc len 3 (.goto (off a pc))) := rfl
theorem mtE_51 (y pc len a b c : Nat) : mtE y pc (51, len, a, b, c) = (d1 y pc len 3 (.ifCond .eq (off a pc))) := rfl
theorem mtE_61 (y pc len a b c : Nat) : mtE y pc (61, len, a, b, c) = (d1 y pc len 3 (.if_icmp .eq (off a pc))) := rfl
theorem mtE_52 (y pc len a b c : Nat) : mtE y pc (52, len, a, b, c) = (d1 y pc len 3 (.ifCond .ne (off a pc))) := rfl
theorem mtE_62 (y pc len a b c : Nat) : mtE y pc (62, len, a, b, c) = (d1 y pc len 3 (.if_icmp .ne (off a pc))) := rfl
theorem mtE_53 (y pc len a b c : Nat) : mtE y pc (53, len, a, b, c) = (d1 y pc len 3 (.ifCond .lt (off a pc))) := rfl
theorem mtE_63 (y pc len a b c : Nat) : mtE y pc (63, len, a, b, c) = (d1 y pc len 3 (.if_icmp .lt (off a pc))) := rfl
theorem mtE_54 (y pc len a b c : Nat) : mtE y pc (54, len, a, b, c) = (d1 y pc len 3 (.ifCond .ge (off a pc))) := rfl
theorem mtE_64 (y pc len a b c : Nat) : mtE y pc (64, len, a, b, c) = (d1 y pc len 3 (.if_icmp .ge (off a pc))) := rfl
theorem mtE_55 (y pc len a b c : Nat) : mtE y pc (55, len, a, b, c) = (d1 y pc len 3 (.ifCond .gt (off a pc))) := rfl
theorem mtE_65 (y pc len a b c : Nat) : mtE y pc (65, len, a, b, c) = (d1 y pc len 3 (.if_icmp .gt (off a pc))) := rfl
theorem mtE_56 (y pc len a b c : Nat) : mtE y pc (56, len, a, b, c) = (d1 y pc len 3 (.ifCond .le (off a pc))) := rfl
theorem mtE_66 (y pc len a b c : Nat) : mtE y pc (66, len, a, b, c) = (d1 y pc len 3 (.if_icmp .le (off a pc))) := rfl
theorem mtE_68 (y pc len a b c : Nat) : mtE y pc (68, len, a, b, c) = (d1 y pc len 3 (.ifnonnull (off a pc))) := rfl
theorem mtE_70 (y pc len a b c : Nat) : mtE y pc (70, len, a, b, c) = (dq y pc (.tableswitch (off c pc) (b : Int) ((b : Int) + (swtA a).length - 1) ((swtA a).map (fun t => off t pc)).toArray) len) := rfl
theorem mtE_71 (y pc len a b c : Nat) : mtE y pc (71, len, a, b, c) = (dq y pc (.lookupswitch (off c pc) (swP pc (swtA a)).toArray) len && ((swP pc (swtA a)).zip ((swP pc (swtA a)).drop 1)).all (fun (q, next) => q.1 < next.1)) := rfl
theorem mtE_80 (y pc len a b c : Nat) : mtE y pc (80, len, a, b, c) = (rF1 y pc len a b .getfield (RF[c]?)) := rfl
theorem mtE_81 (y pc len a b c : Nat) : mtE y pc (81, len, a, b, c) = (rF1 y pc len a b .putfield (RF[c]?) && pfin y a b) := rfl
theorem mtE_82 (y pc len a b c : Nat) : mtE y pc (82, len, a, b, c) = (rK1 y pc len a (RC[b]?)) := rfl
theorem mtE_85 (y pc len a b c : Nat) : mtE y pc (85, len, a, b, c) = (bif Nat.beq a 0 then d1 y pc len 1 .iaload else bif Nat.beq a 1 then d1 y pc len 1 .baload else false) := rfl
theorem mtE_86 (y pc len a b c : Nat) : mtE y pc (86, len, a, b, c) = (bif Nat.beq a 0 then d1 y pc len 1 .iastore else bif Nat.beq a 1 then d1 y pc len 1 .bastore else false) := rfl
theorem mtE_91 (y pc len a b c : Nat) : mtE y pc (91, len, a, b, c) = (rN1 y pc len a (RN[b]?)) := rfl
theorem mtE_92 (y pc len a b c : Nat) : mtE y pc (92, len, a, b, c) = (bif Nat.beq a 0 then d1 y pc len 2 (.newarray .int) else bif Nat.beq a 1 then d1 y pc len 2 (.newarray .byte) else false) := rfl
theorem mtE_93 (y pc len a b c : Nat) : mtE y pc (93, len, a, b, c) = (Nat.beq (ocl y) 1 && d1 y pc len 3 (.anewarray 9)) := rfl
theorem mtE_95 (y pc len a b c : Nat) : mtE y pc (95, len, a, b, c) = (rI1 y pc len 3 0 1 .invokespecial (RI[c]?)) := rfl
theorem mtE_96 (y pc len a b c : Nat) : mtE y pc (96, len, a, b, c) = (rI1 y pc len 4 0 5 .invokestatic (RI[c]?)) := rfl
theorem mtE_100 (y pc len a b c : Nat) : mtE y pc (100, len, a, b, c) = (rI1 y pc len a b (c % 16) (bif (Nat.beq a 0 || Nat.beq a 5 || Nat.beq a 6) then .invokevirtual else bif (Nat.beq a 1 || Nat.beq a 7) then .invokestatic else .invokespecial) (RI[c / 16]?)) := rfl
theorem mtE_101 (y pc len a b c : Nat) : mtE y pc (101, len, a, b, c) = (Nat.beq len 1 && (match mret (mrt y) with
      | some i => dq y pc i 1
      | none => false)) := rfl
theorem mtE_102 (y pc len a b c : Nat) : mtE y pc (102, len, a, b, c) = (decide (mrt y = none) && d1 y pc len 1 .return_) := rfl
def chk (z : Nat × Nat) : Bool := (List.range 256).all (fun i => match code_ z.1 (256 * z.2 + i) with
  | none => true
  | some e => mtE z.1 (256 * z.2 + i) e)
def mtG0 : List (Nat × Nat) := [(0, 0), (1, 0), (2, 0), (3, 0), (4, 0), (5, 0), (6, 0)]
theorem mt_0 : mtG0.all chk = true := by decide +kernel
def mtG1 : List (Nat × Nat) := [(7, 0), (8, 0), (9, 0), (10, 0), (11, 0)]
theorem mt_1 : mtG1.all chk = true := by decide +kernel
def mtG2 : List (Nat × Nat) := [(12, 0), (13, 0), (14, 0), (15, 0)]
theorem mt_2 : mtG2.all chk = true := by decide +kernel
def mtG3 : List (Nat × Nat) := [(16, 0), (17, 0), (18, 0), (19, 0), (20, 0)]
theorem mt_3 : mtG3.all chk = true := by decide +kernel
def mtG4 : List (Nat × Nat) := [(21, 0), (22, 0), (23, 0), (24, 0)]
theorem mt_4 : mtG4.all chk = true := by decide +kernel
def mtG5 : List (Nat × Nat) := [(25, 0), (26, 0), (27, 0), (28, 0)]
theorem mt_5 : mtG5.all chk = true := by decide +kernel
def mtG6 : List (Nat × Nat) := [(29, 0), (30, 0), (31, 0)]
theorem mt_6 : mtG6.all chk = true := by decide +kernel
def mtG7 : List (Nat × Nat) := [(32, 0), (33, 0)]
theorem mt_7 : mtG7.all chk = true := by decide +kernel
def mtG8 : List (Nat × Nat) := [(34, 0), (35, 0)]
theorem mt_8 : mtG8.all chk = true := by decide +kernel
def mtG9 : List (Nat × Nat) := [(36, 0), (37, 0), (38, 0), (39, 0)]
theorem mt_9 : mtG9.all chk = true := by decide +kernel
def mtG10 : List (Nat × Nat) := [(40, 0), (41, 0), (42, 0)]
theorem mt_10 : mtG10.all chk = true := by decide +kernel
def mtG11 : List (Nat × Nat) := [(43, 0), (44, 0)]
theorem mt_11 : mtG11.all chk = true := by decide +kernel
def mtG12 : List (Nat × Nat) := [(45, 0)]
theorem mt_12 : mtG12.all chk = true := by decide +kernel
def mtG13 : List (Nat × Nat) := [(46, 0), (47, 0), (48, 0)]
theorem mt_13 : mtG13.all chk = true := by decide +kernel
def mtG14 : List (Nat × Nat) := [(49, 0), (50, 0), (51, 0), (52, 0), (53, 0), (54, 0), (55, 0), (56, 0)]
theorem mt_14 : mtG14.all chk = true := by decide +kernel
def mtG15 : List (Nat × Nat) := [(57, 0), (58, 0), (59, 0), (60, 0), (61, 0)]
theorem mt_15 : mtG15.all chk = true := by decide +kernel
def mtG16 : List (Nat × Nat) := [(62, 0), (63, 0), (64, 0), (65, 0), (66, 0)]
theorem mt_16 : mtG16.all chk = true := by decide +kernel
def mtG17 : List (Nat × Nat) := [(67, 0), (68, 0), (69, 0), (70, 0)]
theorem mt_17 : mtG17.all chk = true := by decide +kernel
def mtG18 : List (Nat × Nat) := [(71, 0), (72, 0), (73, 0), (74, 0)]
theorem mt_18 : mtG18.all chk = true := by decide +kernel
def mtG19 : List (Nat × Nat) := [(75, 0)]
theorem mt_19 : mtG19.all chk = true := by decide +kernel
def mtG20 : List (Nat × Nat) := [(76, 0)]
theorem mt_20 : mtG20.all chk = true := by decide +kernel
def mtG21 : List (Nat × Nat) := [(77, 0), (78, 0), (79, 0), (80, 0)]
theorem mt_21 : mtG21.all chk = true := by decide +kernel
def mtG22 : List (Nat × Nat) := [(81, 0), (82, 0), (83, 0)]
theorem mt_22 : mtG22.all chk = true := by decide +kernel
