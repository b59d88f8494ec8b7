/-! THE ENTRIES OF THE CODE TABLES against the bytes -/
def dq (y pc : Nat) (i : Instr) (n : Nat) : Bool := decide (decode (mby y) pc = .ok (i, n))
theorem dq_ok {y pc : Nat} {i : Instr} {n : Nat} (h : dq y pc i n = true) : decode (mby y) pc = .ok (i, n) := of_decide_eq_true h
def f4 (a : Nat) : Fin 4 := Fin.ofNat 4 a
theorem f4_ok {a : Nat} (h : a < 4) : ((f4 a : Fin 4) : Nat) = a := Nat.mod_eq_of_lt h
def off (a pc : Nat) : Int := (a : Int) - (pc : Int)
theorem off_ok (a pc : Nat) : (pc : Int) + off a pc = (a : Int) := by unfold off; omega
/-- one form with an index, one without -/
def d12 (y pc len a : Nat) (f : Nat → Instr) (g : Fin 4 → Instr) : Bool := bif Nat.beq len 2 then dq y pc (f a) 2 else (Nat.beq len 1 && Nat.blt a 4 && dq y pc (g (f4 a)) 1)
theorem d12_ok {y pc len a : Nat} {f : Nat → Instr} {g : Fin 4 → Instr} (h : d12 y pc len a f g = true) : (len = 2 ∧ decode (mby y) pc = .ok (f a, 2)) ∨ (len = 1 ∧ a < 4 ∧ decode (mby y) pc = .ok (g (f4 a), 1)) := by
  unfold d12 at h
  cases hb : Nat.beq len 2
  · rw [hb] at h
    simp only [cond_false, Bool.and_eq_true] at h
    obtain ⟨⟨h1, h2⟩, h3⟩ := h
    exact Or.inr ⟨Nat.eq_of_beq_eq_true h1, Nat.le_of_ble_eq_true h2, dq_ok h3⟩
  · rw [hb] at h
    exact Or.inl ⟨Nat.eq_of_beq_eq_true hb, dq_ok h⟩
/-- of one length -/
def d1 (y pc len n : Nat) (i : Instr) : Bool := Nat.beq len n && dq y pc i n
theorem d1_ok {y pc len n : Nat} {i : Instr} (h : d1 y pc len n i = true) : len = n ∧ decode (mby y) pc = .ok (i, n) := by
  simp only [d1, Bool.and_eq_true] at h
  exact ⟨Nat.eq_of_beq_eq_true h.1, dq_ok h.2⟩
/-- ldc or ldc_w -/
def dl (y pc len i : Nat) : Bool := bif Nat.beq len 2 then dq y pc (.ldc i) 2 else (Nat.beq len 3 && dq y pc (.ldc_w i) 3)
theorem dl_ok {y pc len i : Nat} (h : dl y pc len i = true) : (len = 2 ∧ decode (mby y) pc = .ok (.ldc i, 2)) ∨ (len = 3 ∧ decode (mby y) pc = .ok (.ldc_w i, 3)) := by
  unfold dl at h
  cases hb : Nat.beq len 2
  · rw [hb] at h
    simp only [cond_false, Bool.and_eq_true] at h
    exact Or.inr ⟨Nat.eq_of_beq_eq_true h.1, dq_ok h.2⟩
  · rw [hb] at h
    exact Or.inl ⟨Nat.eq_of_beq_eq_true hb, dq_ok h⟩
def ci3 (y pc len : Nat) (v : Int) : Bool := bif Nat.beq len 1 then dq y pc (.iconst v) 1 else bif Nat.beq len 2 then (dq y pc (.bipush v) 2 && decide ((Int8.ofInt v).toInt32 = i32 v)) else (Nat.beq len 3 && dq y pc (.sipush v) 3 && decide ((Int16.ofInt v).toInt32 = i32 v))
def swP (pc : Nat) : List Nat → List (Int × Int)
  | k :: t :: l => ((k : Int), (t : Int) - (pc : Int)) :: swP pc l
  | _ => []
def rL1 (y pc len : Nat) (v : Int) : Option (Nat × Nat × Nat × Nat × Nat) → Bool
  | some (ow, idx, 0, n, _) => Nat.beq ow (ocl y) && decide (v = (n : Int)) && dl y pc len idx
  | _ => false
def rL2 (y pc len j : Nat) : Option (Nat × Nat × Nat × Nat × Nat) → Bool
  | some (ow, idx, 1, n, _) => Nat.beq ow (ocl y) && Nat.beq j n && dl y pc len idx
  | _ => false
def rS1 (y pc len j : Nat) : Option (Nat × Nat × Nat × Nat) → Bool
  | some (ow, idx, n, _) => Nat.beq ow (ocl y) && Nat.beq j n && d1 y pc len 3 (.getstatic idx)
  | _ => false
def rK1 (y pc len k : Nat) : Option (Nat × Nat × Nat × Nat) → Bool
  | some (ow, idx, n, _) => Nat.beq ow (ocl y) && Nat.beq k n && d1 y pc len 3 (.getfield idx)
  | _ => false
def rN1 (y pc len ci : Nat) : Option (Nat × Nat × Nat × Nat) → Bool
  | some (ow, idx, n, _) => Nat.beq ow (ocl y) && Nat.beq ci n && d1 y pc len 3 (.new idx)
  | _ => false
def rF1 (y pc len ci k : Nat) (f : Nat → Instr) : Option (Nat × Nat × Nat × Nat × Nat) → Bool
  | some (ow, idx, n, j, _) => Nat.beq ow (ocl y) && Nat.beq ci n && Nat.beq k j && d1 y pc len 3 (f idx)
  | _ => false
def rI1 (y pc len kd b na : Nat) (f : Nat → Instr) : Option (Nat × Nat × Nat × Nat × Nat × Nat) → Bool
  | some (ow, idx, n, z, q, _) => Nat.beq ow (ocl y) && Nat.beq kd n && Nat.beq b z && Nat.beq na q && d1 y pc len 3 (f idx)
  | _ => false
def pfin (y ci k : Nat) : Bool := bif (FTA ci k).2.2.2 then (decide ((mnm y).name = "<init>") && Nat.beq ci (ocl y)) else true
def mret (t : Option FieldType) : Option Instr := match t with
  | some .int => some .ireturn
  | some .boolean => some .ireturn
  | some .byte => some .ireturn
  | some .char => some .ireturn
  | some .double => some .dreturn
  | some .float => some .freturn
  | some (.object _) => some .areturn
  | _ => none
/-- what is thrown: method, place, exception, the class's entry, the text's, the constructor's, wide, the text's number, its word -/
def XTL : List (Nat × Nat × Nat × Nat × Nat × Nat × Nat × Nat × String) := [(129, 10, 1, 124, 343, 128, 1, 30, "out of range"), (131, 14, 0, 333, 335, 337, 1, 27, "no such place"), (132, 15, 2, 349, 351, 353, 1, 31, "refused"), (137, 15, 1, 124, 126, 128, 0, 24, "the destination is the origin"), (139, 14, 0, 333, 341, 337, 1, 29, "no such parcel"), (140, 14, 0, 333, 338, 337, 1, 28, "no such balloon"), (147, 21, 3, 164, 166, 168, 0, 25, "no parcel with this number lies there"), (149, 7, 3, 164, 182, 168, 0, 26, "no snapshot was saved")]
def exn (e : Nat) : String := match e with
  | 0 => "java/lang/IndexOutOfBoundsException"
  | 1 => "java/lang/IllegalArgumentException"
  | 2 => "java/lang/IllegalStateException"
  | _ => "java/util/NoSuchElementException"
def xpk (e : Nat) : Nat := match e with
  | 0 => 1054
  | 1 => 973
  | 2 => 1077
  | _ => 1225
def xpi (e : Nat) : Nat := match e with
  | 0 => 116
  | 1 => 115
  | 2 => 119
  | _ => 120
def okX (z : Nat × Nat × Nat × Nat × Nat × Nat × Nat × Nat × String) : Bool := match z with
  | (y, pc, e, ik, is, ic, w, j, tx) => Nat.blt e 4 && Nat.beq (ocl y) 7 && decide (lw_tbl[xpk e]? = some (.classLink "BalloonPost" ik (exn e))) && decide (lw_tbl[xpi e]? = some (.initialized (exn e))) && SRL.any (fun q => Nat.beq q.2.2.2 j && Nat.beq q.2.1 is && decide (q.2.2.1 = tx) && decide (q.1 = "BalloonPost")) && dq y pc (.new ik) 3 && dq y (pc + 3) .dup 1 && (bif Nat.beq w 0 then (dq y (pc + 4) (.ldc is) 2 && dq y (pc + 6) (.invokespecial ic) 3 && dq y (pc + 9) .athrow 1) else (dq y (pc + 4) (.ldc_w is) 3 && dq y (pc + 7) (.invokespecial ic) 3 && dq y (pc + 10) .athrow 1))
theorem XTL_ok : XTL.all okX = true := by decide +kernel
def mtE (y pc : Nat) (e : aE) : Bool := match e with
  | (o, len, a, b, c) => match o with
    | 0 => d12 y pc len a .iload .iload_n
    | 33 => d12 y pc len a .aload .aload_n
    | 34 => d12 y pc len a .dload .dload_n
    | 1 => d12 y pc len a .istore .istore_n
    | 35 => d12 y pc len a .astore .astore_n
    | 2 => d12 y pc len a .dstore .dstore_n
    | 3 => bif Nat.beq c 0 then ci3 y pc len ((a : Int) - (b : Int)) else rL1 y pc len ((a : Int) - (b : Int)) (RL[c - 1]?)
    | 4 => bif Nat.beq c 0 then (!(Nat.beq b 0) && rS1 y pc len a (RS[b - 1]?)) else rL2 y pc len a (RL[c - 1]?)
    | 5 => d1 y pc len 1 .aconst_null
    | 6 => bif Nat.beq a 0 then d1 y pc len 1 (.fconst 0) else d1 y pc len 1 (.dconst 0)
    | 7 => d1 y pc len 3 (.iinc a ((b : Int) - (c : Int)))
    | 8 => Nat.beq a 1 && Nat.beq (ocl y) 12 && d1 y pc len 3 (.getstatic 38)
    | 9 => Nat.beq (ocl y) 12 && d1 y pc len 3 (.getstatic 1053)
    | 10 => d1 y pc len 1 .iadd
    | 11 => d1 y pc len 1 .isub
    | 12 => d1 y pc len 1 .imul
    | 14 => d1 y pc len 1 .irem
    | 15 => d1 y pc len 1 .ineg
    | 16 => d1 y pc len 1 .iand
    | 17 => d1 y pc len 1 .ior
    | 18 => d1 y pc len 1 .ixor
    | 19 => d1 y pc len 1 .ishl
    | 20 => d1 y pc len 1 .ishr
    | 21 => d1 y pc len 1 .iushr
    | 22 => d1 y pc len 1 .i2b
    | 23 => d1 y pc len 1 .i2c
    | 24 => d1 y pc len 1 .i2l
    | 25 => d1 y pc len 1 .lcmp
    | 26 => d1 y pc len 1 .i2d
    | 27 => d1 y pc len 1 .i2f
    | 28 => d1 y pc len 1 .f2d
    | 29 => d1 y pc len 1 .ddiv
    | 30 => d1 y pc len 1 .fdiv
    | 40 => d1 y pc len 1 .dup
    | 41 => d1 y pc len 1 .dup2
    | 42 => d1 y pc len 1 .pop
    | 84 => d1 y pc len 1 .arraylength
    | 87 => d1 y pc len 1 .laload
    | 88 => d1 y pc len 1 .lastore
    | 89 => d1 y pc len 1 .aaload
    | 90 => d1 y pc len 1 .aastore
    | 31 => d1 y pc len 1 (.dcmp (if a = 0 then CmpOp.l else CmpOp.g))
    | 50 => d1 y pc len 3 (.goto (off a pc))
    | 51 => d1 y pc len 3 (.ifCond .eq (off a pc))
    | 61 => d1 y pc len 3 (.if_icmp .eq (off a pc))
    | 52 => d1 y pc len 3 (.ifCond .ne (off a pc))
    | 62 => d1 y pc len 3 (.if_icmp .ne (off a pc))
    | 53 => d1 y pc len 3 (.ifCond .lt (off a pc))
    | 63 => d1 y pc len 3 (.if_icmp .lt (off a pc))
    | 54 => d1 y pc len 3 (.ifCond .ge (off a pc))
    | 64 => d1 y pc len 3 (.if_icmp .ge (off a pc))
    | 55 => d1 y pc len 3 (.ifCond .gt (off a pc))
    | 65 => d1 y pc len 3 (.if_icmp .gt (off a pc))
    | 56 => d1 y pc len 3 (.ifCond .le (off a pc))
    | 66 => d1 y pc len 3 (.if_icmp .le (off a pc))
    | 68 => d1 y pc len 3 (.ifnonnull (off a pc))
    | 70 => dq y pc (.tableswitch (off c pc) (b : Int) ((b : Int) + (swtA a).length - 1) ((swtA a).map (fun t => off t pc)).toArray) len
    | 71 => dq y pc (.lookupswitch (off c pc) (swP pc (swtA a)).toArray) len && ((swP pc (swtA a)).zip ((swP pc (swtA a)).drop 1)).all (fun (q, next) => q.1 < next.1)
    | 80 => rF1 y pc len a b .getfield (RF[c]?)
    | 81 => rF1 y pc len a b .putfield (RF[c]?) && pfin y a b
    | 82 => rK1 y pc len a (RC[b]?)
    | 85 => bif Nat.beq a 0 then d1 y pc len 1 .iaload else bif Nat.beq a 1 then d1 y pc len 1 .baload else (Nat.beq a 2 && d1 y pc len 1 .caload)
    | 86 => bif Nat.beq a 0 then d1 y pc len 1 .iastore else bif Nat.beq a 1 then d1 y pc len 1 .bastore else (Nat.beq a 2 && d1 y pc len 1 .castore)
    | 91 => rN1 y pc len a (RN[b]?)
    | 92 => bif Nat.beq a 0 then d1 y pc len 2 (.newarray .int) else bif Nat.beq a 1 then d1 y pc len 2 (.newarray .byte) else bif Nat.beq a 2 then d1 y pc len 2 (.newarray .char) else (Nat.beq a 3 && d1 y pc len 2 (.newarray .long))
    | 93 => Nat.beq (ocl y) 1 && d1 y pc len 3 (.anewarray 9)
    | 95 => rI1 y pc len 3 0 1 .invokespecial (RI[c]?)
    | 96 => rI1 y pc len 4 0 5 .invokestatic (RI[c]?)
    | 100 => rI1 y pc len a b (c % 16) (bif (Nat.beq a 0 || Nat.beq a 5 || Nat.beq a 6) then .invokevirtual else bif (Nat.beq a 1 || Nat.beq a 7) then .invokestatic else .invokespecial) (RI[c / 16]?)
    | 101 => Nat.beq len 1 && (match mret (mrt y) with
      | some i => dq y pc i 1
      | none => false)
    | 102 => decide (mrt y = none) && d1 y pc len 1 .return_
    | 103 => XTL.any (fun z => Nat.beq z.1 y && Nat.beq z.2.1 pc && Nat.beq z.2.2.1 a)
    | _ => false
theorem mtE_0 (y pc len a b c : Nat) : mtE y pc (0, len, a, b, c) = (d12 y pc len a .iload .iload_n) := rfl
theorem mtE_33 (y pc len a b c : Nat) : mtE y pc (33, len, a, b, c) = (d12 y pc len a .aload .aload_n) := rfl
theorem mtE_34 (y pc len a b c : Nat) : mtE y pc (34, len, a, b, c) = (d12 y pc len a .dload .dload_n) := rfl
theorem mtE_1 (y pc len a b c : Nat) : mtE y pc (1, len, a, b, c) = (d12 y pc len a .istore .istore_n) := rfl
theorem mtE_35 (y pc len a b c : Nat) : mtE y pc (35, len, a, b, c) = (d12 y pc len a .astore .astore_n) := rfl
theorem mtE_2 (y pc len a b c : Nat) : mtE y pc (2, len, a, b, c) = (d12 y pc len a .dstore .dstore_n) := rfl
theorem mtE_3 (y pc len a b c : Nat) : mtE y pc (3, len, a, b, c) = (bif Nat.beq c 0 then ci3 y pc len ((a : Int) - (b : Int)) else rL1 y pc len ((a : Int) - (b : Int)) (RL[c - 1]?)) := rfl
theorem mtE_4 (y pc len a b c : Nat) : mtE y pc (4, len, a, b, c) = (bif Nat.beq c 0 then (!(Nat.beq b 0) && rS1 y pc len a (RS[b - 1]?)) else rL2 y pc len a (RL[c - 1]?)) := rfl
theorem mtE_5 (y pc len a b c : Nat) : mtE y pc (5, len, a, b, c) = (d1 y pc len 1 .aconst_null) := rfl
theorem mtE_6 (y pc len a b c : Nat) : mtE y pc (6, len, a, b, c) = (bif Nat.beq a 0 then d1 y pc len 1 (.fconst 0) else d1 y pc len 1 (.dconst 0)) := rfl
theorem mtE_7 (y pc len a b c : Nat) : mtE y pc (7, len, a, b, c) = (d1 y pc len 3 (.iinc a ((b : Int) - (c : Int)))) := rfl
theorem mtE_8 (y pc len a b c : Nat) : mtE y pc (8, len, a, b, c) = (Nat.beq a 1 && Nat.beq (ocl y) 12 && d1 y pc len 3 (.getstatic 38)) := rfl
theorem mtE_9 (y pc len a b c : Nat) : mtE y pc (9, len, a, b, c) = (Nat.beq (ocl y) 12 && d1 y pc len 3 (.getstatic 1053)) := rfl
theorem mtE_10 (y pc len a b c : Nat) : mtE y pc (10, len, a, b, c) = (d1 y pc len 1 .iadd) := rfl
theorem mtE_11 (y pc len a b c : Nat) : mtE y pc (11, len, a, b, c) = (d1 y pc len 1 .isub) := rfl
theorem mtE_12 (y pc len a b c : Nat) : mtE y pc (12, len, a, b, c) = (d1 y pc len 1 .imul) := rfl
theorem mtE_14 (y pc len a b c : Nat) : mtE y pc (14, len, a, b, c) = (d1 y pc len 1 .irem) := rfl
theorem mtE_15 (y pc len a b c : Nat) : mtE y pc (15, len, a, b, c) = (d1 y pc len 1 .ineg) := rfl
theorem mtE_16 (y pc len a b c : Nat) : mtE y pc (16, len, a, b, c) = (d1 y pc len 1 .iand) := rfl
theorem mtE_17 (y pc len a b c : Nat) : mtE y pc (17, len, a, b, c) = (d1 y pc len 1 .ior) := rfl
theorem mtE_18 (y pc len a b c : Nat) : mtE y pc (18, len, a, b, c) = (d1 y pc len 1 .ixor) := rfl
theorem mtE_19 (y pc len a b c : Nat) : mtE y pc (19, len, a, b, c) = (d1 y pc len 1 .ishl) := rfl
theorem mtE_20 (y pc len a b c : Nat) : mtE y pc (20, len, a, b, c) = (d1 y pc len 1 .ishr) := rfl
theorem mtE_21 (y pc len a b c : Nat) : mtE y pc (21, len, a, b, c) = (d1 y pc len 1 .iushr) := rfl
theorem mtE_22 (y pc len a b c : Nat) : mtE y pc (22, len, a, b, c) = (d1 y pc len 1 .i2b) := rfl
theorem mtE_23 (y pc len a b c : Nat) : mtE y pc (23, len, a, b, c) = (d1 y pc len 1 .i2c) := rfl
theorem mtE_24 (y pc len a b c : Nat) : mtE y pc (24, len, a, b, c) = (d1 y pc len 1 .i2l) := rfl
theorem mtE_25 (y pc len a b c : Nat) : mtE y pc (25, len, a, b, c) = (d1 y pc len 1 .lcmp) := rfl
theorem mtE_26 (y pc len a b c : Nat) : mtE y pc (26, len, a, b, c) = (d1 y pc len 1 .i2d) := rfl
theorem mtE_27 (y pc len a b c : Nat) : mtE y pc (27, len, a, b, c) = (d1 y pc len 1 .i2f) := rfl
theorem mtE_28 (y pc len a b c : Nat) : mtE y pc (28, len, a, b, c) = (d1 y pc len 1 .f2d) := rfl
theorem mtE_29 (y pc len a b c : Nat) : mtE y pc (29, len, a, b, c) = (d1 y pc len 1 .ddiv) := rfl
theorem mtE_30 (y pc len a b c : Nat) : mtE y pc (30, len, a, b, c) = (d1 y pc len 1 .fdiv) := rfl
theorem mtE_40 (y pc len a b c : Nat) : mtE y pc (40, len, a, b, c) = (d1 y pc len 1 .dup) := rfl
theorem mtE_41 (y pc len a b c : Nat) : mtE y pc (41, len, a, b, c) = (d1 y pc len 1 .dup2) := rfl
theorem mtE_42 (y pc len a b c : Nat) : mtE y pc (42, len, a, b, c) = (d1 y pc len 1 .pop) := rfl
theorem mtE_84 (y pc len a b c : Nat) : mtE y pc (84, len, a, b, c) = (d1 y pc len 1 .arraylength) := rfl
theorem mtE_87 (y pc len a b c : Nat) : mtE y pc (87, len, a, b, c) = (d1 y pc len 1 .laload) := rfl
theorem mtE_88 (y pc len a b c : Nat) : mtE y pc (88, len, a, b, c) = (d1 y pc len 1 .lastore) := rfl
theorem mtE_89 (y pc len a b c : Nat) : mtE y pc (89, len, a, b, c) = (d1 y pc len 1 .aaload) := rfl
theorem mtE_90 (y pc len a b c : Nat) : mtE y pc (90, len, a, b, c) = (d1 y pc len 1 .aastore) := rfl
theorem mtE_31 (y pc len a b c : Nat) : mtE y pc (31, len, a, b, c) = (d1 y pc len 1 (.dcmp (if a = 0 then CmpOp.l else CmpOp.g))) := rfl
theorem mtE_50 (y pc len a b c : Nat) : mtE y pc (50, len, a, b, c) = (d1 y pc len 3 (.goto (off a pc))) := rfl
theorem mtE_51 (y pc len a b c : Nat) : mtE y pc (51, len, a, b, c) = (d1 y pc len 3 (.ifCond .eq (off a pc))) := rfl
theorem mtE_61 (y pc len a b c : Nat) : mtE y pc (61, len, a, b, c) = (d1 y pc len 3 (.if_icmp .eq (off a pc))) := rfl
theorem mtE_52 (y pc len a b c : Nat) : mtE y pc (52, len, a, b, c) = (d1 y pc len 3 (.ifCond .ne (off a pc))) := rfl
theorem mtE_62 (y pc len a b c : Nat) : mtE y pc (62, len, a, b, c) = (d1 y pc len 3 (.if_icmp .ne (off a pc))) := rfl
theorem mtE_53 (y pc len a b c : Nat) : mtE y pc (53, len, a, b, c) = (d1 y pc len 3 (.ifCond .lt (off a pc))) := rfl
theorem mtE_63 (y pc len a b c : Nat) : mtE y pc (63, len, a, b, c) = (d1 y pc len 3 (.if_icmp .lt (off a pc))) := rfl
theorem mtE_54 (y pc len a b c : Nat) : mtE y pc (54, len, a, b, c) = (d1 y pc len 3 (.ifCond .ge (off a pc))) := rfl
theorem mtE_64 (y pc len a b c : Nat) : mtE y pc (64, len, a, b, c) = (d1 y pc len 3 (.if_icmp .ge (off a pc))) := rfl
theorem mtE_55 (y pc len a b c : Nat) : mtE y pc (55, len, a, b, c) = (d1 y pc len 3 (.ifCond .gt (off a pc))) := rfl
theorem mtE_65 (y pc len a b c : Nat) : mtE y pc (65, len, a, b, c) = (d1 y pc len 3 (.if_icmp .gt (off a pc))) := rfl
theorem mtE_56 (y pc len a b c : Nat) : mtE y pc (56, len, a, b, c) = (d1 y pc len 3 (.ifCond .le (off a pc))) := rfl
theorem mtE_66 (y pc len a b c : Nat) : mtE y pc (66, len, a, b, c) = (d1 y pc len 3 (.if_icmp .le (off a pc))) := rfl
theorem mtE_68 (y pc len a b c : Nat) : mtE y pc (68, len, a, b, c) = (d1 y pc len 3 (.ifnonnull (off a pc))) := rfl
theorem mtE_70 (y pc len a b c : Nat) : mtE y pc (70, len, a, b, c) = (dq y pc (.tableswitch (off c pc) (b : Int) ((b : Int) + (swtA a).length - 1) ((swtA a).map (fun t => off t pc)).toArray) len) := rfl
theorem mtE_71 (y pc len a b c : Nat) : mtE y pc (71, len, a, b, c) = (dq y pc (.lookupswitch (off c pc) (swP pc (swtA a)).toArray) len && ((swP pc (swtA a)).zip ((swP pc (swtA a)).drop 1)).all (fun (q, next) => q.1 < next.1)) := rfl
theorem mtE_80 (y pc len a b c : Nat) : mtE y pc (80, len, a, b, c) = (rF1 y pc len a b .getfield (RF[c]?)) := rfl
theorem mtE_81 (y pc len a b c : Nat) : mtE y pc (81, len, a, b, c) = (rF1 y pc len a b .putfield (RF[c]?) && pfin y a b) := rfl
theorem mtE_82 (y pc len a b c : Nat) : mtE y pc (82, len, a, b, c) = (rK1 y pc len a (RC[b]?)) := rfl
theorem mtE_85 (y pc len a b c : Nat) : mtE y pc (85, len, a, b, c) = (bif Nat.beq a 0 then d1 y pc len 1 .iaload else bif Nat.beq a 1 then d1 y pc len 1 .baload else (Nat.beq a 2 && d1 y pc len 1 .caload)) := rfl
theorem mtE_86 (y pc len a b c : Nat) : mtE y pc (86, len, a, b, c) = (bif Nat.beq a 0 then d1 y pc len 1 .iastore else bif Nat.beq a 1 then d1 y pc len 1 .bastore else (Nat.beq a 2 && d1 y pc len 1 .castore)) := rfl
theorem mtE_91 (y pc len a b c : Nat) : mtE y pc (91, len, a, b, c) = (rN1 y pc len a (RN[b]?)) := rfl
theorem mtE_92 (y pc len a b c : Nat) : mtE y pc (92, len, a, b, c) = (bif Nat.beq a 0 then d1 y pc len 2 (.newarray .int) else bif Nat.beq a 1 then d1 y pc len 2 (.newarray .byte) else bif Nat.beq a 2 then d1 y pc len 2 (.newarray .char) else (Nat.beq a 3 && d1 y pc len 2 (.newarray .long))) := rfl
theorem mtE_93 (y pc len a b c : Nat) : mtE y pc (93, len, a, b, c) = (Nat.beq (ocl y) 1 && d1 y pc len 3 (.anewarray 9)) := rfl
theorem mtE_95 (y pc len a b c : Nat) : mtE y pc (95, len, a, b, c) = (rI1 y pc len 3 0 1 .invokespecial (RI[c]?)) := rfl
theorem mtE_96 (y pc len a b c : Nat) : mtE y pc (96, len, a, b, c) = (rI1 y pc len 4 0 5 .invokestatic (RI[c]?)) := rfl
theorem mtE_100 (y pc len a b c : Nat) : mtE y pc (100, len, a, b, c) = (rI1 y pc len a b (c % 16) (bif (Nat.beq a 0 || Nat.beq a 5 || Nat.beq a 6) then .invokevirtual else bif (Nat.beq a 1 || Nat.beq a 7) then .invokestatic else .invokespecial) (RI[c / 16]?)) := rfl
theorem mtE_101 (y pc len a b c : Nat) : mtE y pc (101, len, a, b, c) = (Nat.beq len 1 && (match mret (mrt y) with
      | some i => dq y pc i 1
      | none => false)) := rfl
theorem mtE_102 (y pc len a b c : Nat) : mtE y pc (102, len, a, b, c) = (decide (mrt y = none) && d1 y pc len 1 .return_) := rfl
theorem mtE_103 (y pc len a b c : Nat) : mtE y pc (103, len, a, b, c) = (XTL.any (fun z => Nat.beq z.1 y && Nat.beq z.2.1 pc && Nat.beq z.2.2.1 a)) := rfl
def chk (z : Nat × Nat) : Bool := (List.range 256).all (fun i => match code_ z.1 (256 * z.2 + i) with
  | none => true
  | some e => mtE z.1 (256 * z.2 + i) e)
def mtG0 : List (Nat × Nat) := [(0, 0), (1, 0), (2, 0), (3, 0), (4, 0), (5, 0), (6, 0)]
theorem mt_0 : mtG0.all chk = true := by decide +kernel
def mtG1 : List (Nat × Nat) := [(7, 0), (8, 0), (9, 0), (10, 0)]
theorem mt_1 : mtG1.all chk = true := by decide +kernel
def mtG2 : List (Nat × Nat) := [(11, 0), (12, 0), (13, 0), (14, 0)]
theorem mt_2 : mtG2.all chk = true := by decide +kernel
def mtG3 : List (Nat × Nat) := [(15, 0), (16, 0), (17, 0), (18, 0), (19, 0)]
theorem mt_3 : mtG3.all chk = true := by decide +kernel
def mtG4 : List (Nat × Nat) := [(20, 0), (21, 0), (22, 0), (23, 0)]
theorem mt_4 : mtG4.all chk = true := by decide +kernel
def mtG5 : List (Nat × Nat) := [(24, 0), (25, 0), (26, 0), (27, 0), (28, 0)]
theorem mt_5 : mtG5.all chk = true := by decide +kernel
def mtG6 : List (Nat × Nat) := [(29, 0), (30, 0)]
theorem mt_6 : mtG6.all chk = true := by decide +kernel
def mtG7 : List (Nat × Nat) := [(31, 0), (32, 0)]
theorem mt_7 : mtG7.all chk = true := by decide +kernel
def mtG8 : List (Nat × Nat) := [(33, 0)]
theorem mt_8 : mtG8.all chk = true := by decide +kernel
def mtG9 : List (Nat × Nat) := [(34, 0), (35, 0)]
theorem mt_9 : mtG9.all chk = true := by decide +kernel
def mtG10 : List (Nat × Nat) := [(36, 0), (37, 0), (38, 0), (39, 0)]
theorem mt_10 : mtG10.all chk = true := by decide +kernel
def mtG11 : List (Nat × Nat) := [(40, 0), (41, 0), (42, 0)]
theorem mt_11 : mtG11.all chk = true := by decide +kernel
def mtG12 : List (Nat × Nat) := [(43, 0), (44, 0)]
theorem mt_12 : mtG12.all chk = true := by decide +kernel
def mtG13 : List (Nat × Nat) := [(45, 0)]
theorem mt_13 : mtG13.all chk = true := by decide +kernel
def mtG14 : List (Nat × Nat) := [(46, 0), (47, 0), (48, 0)]
theorem mt_14 : mtG14.all chk = true := by decide +kernel
def mtG15 : List (Nat × Nat) := [(49, 0), (50, 0), (51, 0), (52, 0), (53, 0), (54, 0), (55, 0), (56, 0)]
theorem mt_15 : mtG15.all chk = true := by decide +kernel
def mtG16 : List (Nat × Nat) := [(57, 0), (58, 0), (59, 0), (60, 0), (61, 0)]
theorem mt_16 : mtG16.all chk = true := by decide +kernel
def mtG17 : List (Nat × Nat) := [(62, 0), (63, 0), (64, 0), (65, 0), (66, 0)]
theorem mt_17 : mtG17.all chk = true := by decide +kernel
def mtG18 : List (Nat × Nat) := [(67, 0), (68, 0), (69, 0), (70, 0)]
theorem mt_18 : mtG18.all chk = true := by decide +kernel
def mtG19 : List (Nat × Nat) := [(71, 0), (72, 0), (73, 0), (74, 0)]
theorem mt_19 : mtG19.all chk = true := by decide +kernel
def mtG20 : List (Nat × Nat) := [(75, 0)]
theorem mt_20 : mtG20.all chk = true := by decide +kernel
def mtG21 : List (Nat × Nat) := [(76, 0)]
theorem mt_21 : mtG21.all chk = true := by decide +kernel
def mtG22 : List (Nat × Nat) := [(77, 0), (78, 0), (79, 0), (80, 0)]
theorem mt_22 : mtG22.all chk = true := by decide +kernel
def mtG23 : List (Nat × Nat) := [(81, 0), (82, 0), (83, 0)]
theorem mt_23 : mtG23.all chk = true := by decide +kernel
def mtG24 : List (Nat × Nat) := [(84, 0), (85, 0), (86, 0)]
theorem mt_24 : mtG24.all chk = true := by decide +kernel
def mtG25 : List (Nat × Nat) := [(87, 0), (88, 0), (89, 0), (90, 0), (91, 0), (92, 0)]
theorem mt_25 : mtG25.all chk = true := by decide +kernel
def mtG26 : List (Nat × Nat) := [(93, 0), (94, 0), (95, 0)]
theorem mt_26 : mtG26.all chk = true := by decide +kernel
def mtG27 : List (Nat × Nat) := [(96, 0), (97, 0)]
theorem mt_27 : mtG27.all chk = true := by decide +kernel
def mtG28 : List (Nat × Nat) := [(98, 0)]
theorem mt_28 : mtG28.all chk = true := by decide +kernel
def mtG29 : List (Nat × Nat) := [(99, 0), (100, 0)]
theorem mt_29 : mtG29.all chk = true := by decide +kernel
def mtG30 : List (Nat × Nat) := [(101, 0), (102, 0), (103, 0)]
theorem mt_30 : mtG30.all chk = true := by decide +kernel
def mtG31 : List (Nat × Nat) := [(104, 0), (105, 0)]
theorem mt_31 : mtG31.all chk = true := by decide +kernel
def mtG32 : List (Nat × Nat) := [(106, 0), (107, 0)]
theorem mt_32 : mtG32.all chk = true := by decide +kernel
def mtG33 : List (Nat × Nat) := [(108, 0), (109, 0), (110, 0), (111, 0), (112, 0), (113, 0), (114, 0), (115, 0), (116, 0), (117, 0), (118, 0), (119, 0), (120, 0), (121, 0), (122, 0)]
theorem mt_33 : mtG33.all chk = true := by decide +kernel
def mtG34 : List (Nat × Nat) := [(123, 0), (124, 0), (125, 0), (126, 0), (127, 0)]
theorem mt_34 : mtG34.all chk = true := by decide +kernel
def mtG35 : List (Nat × Nat) := [(128, 0), (129, 0), (130, 0), (131, 0), (132, 0), (133, 0), (134, 0)]
theorem mt_35 : mtG35.all chk = true := by decide +kernel
def mtG36 : List (Nat × Nat) := [(135, 0), (136, 0), (137, 0), (138, 0), (139, 0), (140, 0), (141, 0)]
theorem mt_36 : mtG36.all chk = true := by decide +kernel
def mtG37 : List (Nat × Nat) := [(142, 0), (143, 0), (144, 0), (145, 0), (146, 0), (147, 0), (148, 0)]
theorem mt_37 : mtG37.all chk = true := by decide +kernel
def mtG38 : List (Nat × Nat) := [(149, 0), (150, 0), (151, 0), (152, 0), (153, 0), (154, 0), (155, 0), (156, 0), (157, 0), (158, 0)]
theorem mt_38 : mtG38.all chk = true := by decide +kernel
def mtG39 : List (Nat × Nat) := [(159, 0), (160, 0), (161, 0), (162, 0), (163, 0), (164, 0), (165, 0), (166, 0), (167, 0), (168, 0)]
theorem mt_39 : mtG39.all chk = true := by decide +kernel
def mtG40 : List (Nat × Nat) := [(169, 0), (170, 0), (171, 0), (172, 0), (173, 0)]
theorem mt_40 : mtG40.all chk = true := by decide +kernel
def mtG41 : List (Nat × Nat) := [(174, 0), (175, 0)]
theorem mt_41 : mtG41.all chk = true := by decide +kernel
def mtG42 : List (Nat × Nat) := [(176, 0), (177, 0)]
theorem mt_42 : mtG42.all chk = true := by decide +kernel
def mtG43 : List (Nat × Nat) := [(178, 0)]
theorem mt_43 : mtG43.all chk = true := by decide +kernel
def mtG44 : List (Nat × Nat) := [(179, 0)]
theorem mt_44 : mtG44.all chk = true := by decide +kernel
