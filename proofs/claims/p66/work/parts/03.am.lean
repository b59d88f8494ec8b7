/-! THE ABSTRACT MACHINE: ints are integers, addresses are places of a list of cells; constants of the launch by numbers -/
def i32 (x : Int) : Int32 := Int32.ofInt x
abbrev aV : Type := Int ⊕ (Nat ⊕ Value)
abbrev aI (x : Int) : aV := Sum.inl x
abbrev aR (a : Nat) : aV := Sum.inr (Sum.inl a)
abbrev aW (v : Value) : aV := Sum.inr (Sum.inr v)
abbrev aC (j : Nat) : aV := aW (.ref j)
abbrev aN : aV := aW .null
abbrev aU : aV := aW (.retAddr 0)
abbrev aArr : Type := (Nat → Int) ⊕ ((Nat → Int64) ⊕ (Nat → Option Nat))
abbrev aCell : Type := (Nat × Nat × aArr) ⊕ (Nat × List aV)
/-- the script's length and numbers; how many cells; the cells -/
abbrev aH : Type := (Nat × (Nat → Int)) × Nat × (Nat → aCell)
abbrev aRes : Type := ((Option aV) ⊕ Nat) × aH
abbrev aSt : Type := Nat × List aV × List aV × Nat × Nat × aH
/-- the types of arrays: 0 int, 1 byte, 4 World (2, 3: none) -/
def aty (k : Nat) : FieldType := match k with
  | 0 => .int
  | 1 => .byte
  | 2 => .int
  | 3 => .int
  | _ => .object "BalloonPost$World"
def dead : aCell := Sum.inr (999, [])
def sw (h : aH) (a : Nat) (c : aCell) : aH := (h.1, h.2.1, va_up h.2.2 a c)
def pw (h : aH) (c : aCell) : aH := (h.1, h.2.1 + 1, va_up h.2.2 h.2.1 c)
/-- the text of a constant's bytes (by the constant's number), fields of constant objects, constant arrays: in the part of the constants -/
def byI (x : Int) : Int := ((i32 x).toInt8.toInt32).toInt
def chI (x : Int) : Int := (((i32 x).toUInt32 % 65536).toInt32).toInt
def op2 (f : Int32 → Int32 → Int32) (x y : Int) : Int := (f (i32 x) (i32 y)).toInt
def isC2 (v : aV) : Bool := match v with
  | .inr (.inr (.long _)) => true
  | .inr (.inr (.double _)) => true
  | _ => false
def okst (L : List aV) (i : Nat) : Bool := match i with
  | 0 => true
  | k + 1 => !(isC2 (L.getD k aU))
/-- a value fits a field's type -/
def fitB (ty : FieldType) (v : aV) : Bool := match ty, v with
  | .int, .inl _ => true
  | .boolean, .inl x => decide (x = 0) || decide (x = 1)
  | .object _, .inr (.inl _) => true
  | .array _, .inr (.inl _) => true
  | _, _ => false
def fty (ci k : Nat) : FieldType := (ftyA ci).getD k .int
def dfl (ty : FieldType) : aV := match ty with
  | .object _ => aN
  | .array _ => aN
  | _ => aI 0
def newF (ci : Nat) : aCell := Sum.inr (ci, (ftyA ci).map dfl)
def newA (k n : Nat) : aCell := Sum.inl (k, n, if k = 3 then Sum.inr (Sum.inl fun _ => 0) else if k = 4 then Sum.inr (Sum.inr fun _ => none) else Sum.inl fun _ => 0)
def cmp0 (o : Nat) (x : Int32) : Bool := match o with
  | 0 => decide (x = 0)
  | 1 => decide (¬ x = 0)
  | 2 => decide (x < 0)
  | 3 => decide (0 ≤ x)
  | 4 => decide (0 < x)
  | _ => decide (x ≤ 0)
/-- if_icmp: y on top of x -/
def cmp2 (o : Nat) (x y : Int32) : Bool := match o with
  | 0 => decide (x = y)
  | 1 => decide (¬ x = y)
  | 2 => decide (x < y)
  | 3 => decide (y ≤ x)
  | 4 => decide (y < x)
  | _ => decide (x ≤ y)
def swLook : List Nat → Int → Nat → Nat
  | k :: t :: l, x, d => if x = (k : Int) then t else swLook l x d
  | _, _, d => d
/-- constant arrays and fields are parameters here: ca j: type, length, contents; cf key j: the field -/
def lst (ca : Nat → Option (Nat × Nat × (Nat → aV))) (cf : Nat → Nat → Option aV) (y o len a b c pc : Nat) (L S : List aV) (kc ks : Nat) (h : aH) : Option aSt :=
  match o with
  | 0 => match L[a]? with
    | some (.inl x) => some (pc + len, L, aI x :: S, kc, ks, h)
    | _ => none
  | 33 => match L[a]? with
    | some (.inr (.inl q)) => some (pc + len, L, aR q :: S, kc, ks, h)
    | some (.inr (.inr (.ref j))) => some (pc + len, L, aC j :: S, kc, ks, h)
    | some (.inr (.inr .null)) => some (pc + len, L, aN :: S, kc, ks, h)
    | _ => none
  | 34 => match L[a]? with
    | some (.inr (.inr (.long z))) => some (pc + len, L, aW (.long z) :: S, kc, ks, h)
    | _ => none
  | 1 => match S with
    | .inl x :: S => if okst L a = true ∧ a < L.length then some (pc + len, L.set a (aI x), S, kc, ks, h) else none
    | _ => none
  | 35 => match S with
    | .inr (.inl q) :: S => if okst L a = true ∧ a < L.length then some (pc + len, L.set a (aR q), S, kc, ks, h) else none
    | .inr (.inr (.ref j)) :: S => if okst L a = true ∧ a < L.length then some (pc + len, L.set a (aC j), S, kc, ks, h) else none
    | .inr (.inr .null) :: S => if okst L a = true ∧ a < L.length then some (pc + len, L.set a aN, S, kc, ks, h) else none
    | _ => none
  | 2 => match S with
    | .inr (.inr (.long z)) :: S => if okst L a = true ∧ a + 1 < L.length then some (pc + len, (L.set a (aW (.long z))).set (a + 1) aU, S, kc, ks, h) else none
    | _ => none
  | 3 => some (pc + len, L, aI ((a : Int) - (b : Int)) :: S, kc, ks, h)
  | 4 => some (pc + len, L, aC a :: S, kc, ks, h)
  | 5 => some (pc + len, L, aN :: S, kc, ks, h)
  | 7 => match L[a]? with
    | some (.inl x) => if okst L a = true then some (pc + len, L.set a (aI (x + ((b : Int) - (c : Int)))), S, kc, ks, h) else none
    | _ => none
  | 8 => some (pc + len, L, aI (a : Int) :: S, kc, ks, h)
  | 9 => some (pc + len, L, aC 1 :: S, kc, ks, h)
  | 10 => match S with
    | .inl y :: .inl x :: S => some (pc + len, L, aI (x + y) :: S, kc, ks, h)
    | _ => none
  | 11 => match S with
    | .inl y :: .inl x :: S => some (pc + len, L, aI (x - y) :: S, kc, ks, h)
    | _ => none
  | 12 => match S with
    | .inl y :: .inl x :: S => some (pc + len, L, aI (x * y) :: S, kc, ks, h)
    | _ => none
  | 14 => match S with
    | .inl y :: .inl x :: S => if i32 y = 0 then none else some (pc + len, L, aI (op2 (fun x y => x - x / y * y) x y) :: S, kc, ks, h)
    | _ => none
  | 15 => match S with
    | .inl x :: S => some (pc + len, L, aI (-x) :: S, kc, ks, h)
    | _ => none
  | 16 => match S with
    | .inl y :: .inl x :: S => some (pc + len, L, aI (op2 (fun x y => x &&& y) x y) :: S, kc, ks, h)
    | _ => none
  | 17 => match S with
    | .inl y :: .inl x :: S => some (pc + len, L, aI (op2 (fun x y => x ||| y) x y) :: S, kc, ks, h)
    | _ => none
  | 18 => match S with
    | .inl y :: .inl x :: S => some (pc + len, L, aI (op2 (fun x y => x ^^^ y) x y) :: S, kc, ks, h)
    | _ => none
  | 19 => match S with
    | .inl y :: .inl x :: S => some (pc + len, L, aI (op2 (fun x y => x <<< (y &&& 31)) x y) :: S, kc, ks, h)
    | _ => none
  | 20 => match S with
    | .inl y :: .inl x :: S => some (pc + len, L, aI (op2 (fun x y => x >>> (y &&& 31)) x y) :: S, kc, ks, h)
    | _ => none
  | 21 => match S with
    | .inl y :: .inl x :: S => some (pc + len, L, aI (op2 (fun x y => (x.toUInt32 >>> (y.toUInt32 &&& Int32.toUInt32 31)).toInt32) x y) :: S, kc, ks, h)
    | _ => none
  | 22 => match S with
    | .inl x :: S => some (pc + len, L, aI (byI x) :: S, kc, ks, h)
    | _ => none
  | 23 => match S with
    | .inl x :: S => some (pc + len, L, aI (chI x) :: S, kc, ks, h)
    | _ => none
  | 24 => match S with
    | .inl x :: S => some (pc + len, L, aW (.long (i32 x).toInt64) :: S, kc, ks, h)
    | _ => none
  | 25 => match S with
    | .inr (.inr (.long y)) :: .inr (.inr (.long x)) :: S => some (pc + len, L, aI (lg_cmp x y).toInt :: S, kc, ks, h)
    | _ => none
  | 40 => match S with
    | v :: S => if isC2 v = false then some (pc + len, L, v :: v :: S, kc, ks, h) else none
    | _ => none
  | 41 => match S with
    | v :: u :: S => if isC2 v = false ∧ isC2 u = false then some (pc + len, L, v :: u :: v :: u :: S, kc, ks, h) else none
    | _ => none
  | 42 => match S with
    | v :: S => if isC2 v = false then some (pc + len, L, S, kc, ks, h) else none
    | _ => none
  | 50 => some (a, L, S, kc, ks, h)
  | 51 => match S with
    | .inl x :: S => some (if i32 x = 0 then a else pc + len, L, S, kc, ks, h)
    | _ => none
  | 52 => match S with
    | .inl x :: S => some (if i32 x = 0 then pc + len else a, L, S, kc, ks, h)
    | _ => none
  | 53 => match S with
    | .inl x :: S => some (if i32 x < 0 then a else pc + len, L, S, kc, ks, h)
    | _ => none
  | 54 => match S with
    | .inl x :: S => some (if i32 x < 0 then pc + len else a, L, S, kc, ks, h)
    | _ => none
  | 55 => match S with
    | .inl x :: S => some (if 0 < i32 x then a else pc + len, L, S, kc, ks, h)
    | _ => none
  | 56 => match S with
    | .inl x :: S => some (if 0 < i32 x then pc + len else a, L, S, kc, ks, h)
    | _ => none
  | 61 => match S with
    | .inl y :: .inl x :: S => some (if i32 x = i32 y then a else pc + len, L, S, kc, ks, h)
    | _ => none
  | 62 => match S with
    | .inl y :: .inl x :: S => some (if i32 x = i32 y then pc + len else a, L, S, kc, ks, h)
    | _ => none
  | 63 => match S with
    | .inl y :: .inl x :: S => some (if i32 x < i32 y then a else pc + len, L, S, kc, ks, h)
    | _ => none
  | 64 => match S with
    | .inl y :: .inl x :: S => some (if i32 x < i32 y then pc + len else a, L, S, kc, ks, h)
    | _ => none
  | 65 => match S with
    | .inl y :: .inl x :: S => some (if i32 y < i32 x then a else pc + len, L, S, kc, ks, h)
    | _ => none
  | 66 => match S with
    | .inl y :: .inl x :: S => some (if i32 y < i32 x then pc + len else a, L, S, kc, ks, h)
    | _ => none
  | 68 => match S with
    | .inr (.inl _) :: S => some (a, L, S, kc, ks, h)
    | .inr (.inr (.ref j)) :: S => if j < 141 ∧ ¬ j = 1 then some (a, L, S, kc, ks, h) else none
    | .inr (.inr .null) :: S => some (pc + len, L, S, kc, ks, h)
    | _ => none
  | 70 => match S with
    | .inl x :: S => if -2147483648 ≤ x ∧ x < 2147483648 then some (if (b : Int) ≤ x ∧ x < (b : Int) + (swtA a).length then (swtA a).getD (x - b).toNat c else c, L, S, kc, ks, h) else none
    | _ => none
  | 71 => match S with
    | .inl x :: S => if -2147483648 ≤ x ∧ x < 2147483648 then some (swLook (swtA a) x c, L, S, kc, ks, h) else none
    | _ => none
  | 80 => match S with
    | .inr (.inl q) :: S => match h.2.2 q with
      | .inr (ci, fs) => if ci = a then match fs[b]? with
          | some v => some (pc + len, L, v :: S, kc, ks, h)
          | none => none
        else none
      | _ => none
    | _ => none
  | 81 => match S with
    | v :: .inr (.inl q) :: S => match h.2.2 q with
      | .inr (ci, fs) => if ci = a ∧ fitB (fty a b) v = true ∧ b < fs.length then some (pc + len, L, S, kc, ks, sw h q (Sum.inr (ci, fs.set b v))) else none
      | _ => none
    | _ => none
  | 82 => match S with
    | .inr (.inr (.ref j)) :: S => match cf a j with
      | some v => some (pc + len, L, v :: S, kc, ks, h)
      | none => none
    | _ => none
  | 84 => match S with
    | .inr (.inl q) :: S => match h.2.2 q with
      | .inl (t, n, _) => if t < 5 then some (pc + len, L, aI n :: S, kc, ks, h) else none
      | _ => none
    | .inr (.inr (.ref j)) :: S => if j = 0 then some (pc + len, L, aI h.1.1 :: S, kc, ks, h) else match ca j with
      | some (_, n, _) => some (pc + len, L, aI n :: S, kc, ks, h)
      | none => none
    | _ => none
  | 85 => match S with
    | .inl x :: .inr (.inl q) :: S => match h.2.2 q with
      | .inl (t, n, .inl f) => if t = a ∧ 0 ≤ x ∧ x < n ∧ x < 2147483648 then some (pc + len, L, aI (f x.toNat) :: S, kc, ks, h) else none
      | _ => none
    | .inl x :: .inr (.inr (.ref j)) :: S => if j = 0 then (if a = 0 ∧ 0 ≤ x ∧ x < h.1.1 ∧ x < 2147483648 then some (pc + len, L, aI (h.1.2 x.toNat) :: S, kc, ks, h) else none) else match ca j with
      | some (t, n, f) => if t = a ∧ t < 3 ∧ 0 ≤ x ∧ x < n ∧ x < 2147483648 then some (pc + len, L, f x.toNat :: S, kc, ks, h) else none
      | none => none
    | _ => none
  | 86 => match S with
    | .inl v :: .inl x :: .inr (.inl q) :: S => match h.2.2 q with
      | .inl (t, n, .inl f) => if t = a ∧ 0 ≤ x ∧ x < n ∧ x < 2147483648 then some (pc + len, L, S, kc, ks, sw h q (Sum.inl (t, n, Sum.inl (va_up f x.toNat (if a = 0 then v else if a = 1 then byI v else chI v))))) else none
      | _ => none
    | _ => none
  | 89 => match S with
    | .inl x :: .inr (.inl q) :: S => match h.2.2 q with
      | .inl (t, n, .inr (.inr f)) => if t = 4 ∧ 0 ≤ x ∧ x < n ∧ x < 2147483648 then (match f x.toNat with
          | some r => some (pc + len, L, aR r :: S, kc, ks, h)
          | none => none) else none
      | _ => none
    | .inl x :: .inr (.inr (.ref j)) :: S => match ca j with
      | some (t, n, f) => if t = 5 ∧ 0 ≤ x ∧ x < n ∧ x < 2147483648 then some (pc + len, L, f x.toNat :: S, kc, ks, h) else none
      | none => none
    | _ => none
  | 90 => match S with
    | .inr (.inl r) :: .inl x :: .inr (.inl q) :: S => match h.2.2 q, h.2.2 r with
      | .inl (t, n, .inr (.inr f)), .inr (ci, g) => if t = 4 ∧ ci = 6 ∧ 0 < g.length ∧ 0 ≤ x ∧ x < n ∧ x < 2147483648 then some (pc + len, L, S, kc, ks, sw h q (Sum.inl (t, n, Sum.inr (Sum.inr (va_up f x.toNat (some r)))))) else none
      | _, _ => none
    | _ => none
  | 91 => if kc + 1 ≤ (mbud y).1 ∧ ks + (ftyA a).length ≤ (mbud y).2 then some (pc + len, L, aR h.2.1 :: S, kc + 1, ks + (ftyA a).length, pw h (newF a)) else none
  | 92 => match S with
    | .inl x :: S => if kc + 1 ≤ (mbud y).1 ∧ ks + x.toNat ≤ (mbud y).2 ∧ 0 ≤ x ∧ x < 65536 then some (pc + len, L, aR h.2.1 :: S, kc + 1, ks + x.toNat, pw h (newA a x.toNat)) else none
    | _ => none
  | 93 => match S with
    | .inl x :: S => if kc + 1 ≤ (mbud y).1 ∧ ks + x.toNat ≤ (mbud y).2 ∧ 0 ≤ x ∧ x < 65536 then some (pc + len, L, aR h.2.1 :: S, kc + 1, ks + x.toNat, pw h (newA 4 x.toNat)) else none
    | _ => none
  | 95 => match S with
    | .inr (.inl _) :: S => if S.length ≤ 4 then some (pc + len, L, S, kc, ks, h) else none
    | _ => none
  | 96 => match S with
    | .inl n :: .inl dp :: .inr (.inl q) :: .inl sp :: .inr (.inl r) :: S => match h.2.2 r, h.2.2 q with
      | .inl (t, m, .inl f), .inl (u, w, .inl g) => if t = 0 ∧ u = 0 ∧ 0 ≤ n ∧ 0 ≤ sp ∧ 0 ≤ dp ∧ sp + n ≤ m ∧ dp + n ≤ w ∧ n < 1073741824 ∧ sp < 1073741824 ∧ dp < 1073741824 ∧ S.length ≤ 4 then some (pc + len, L, S, kc, ks, sw h q (Sum.inl (u, w, Sum.inl (va_cpy f g sp.toNat dp.toNat n.toNat)))) else none
      | _, _ => none
    | _ => none
  | 43 => match S with
    | .inr (.inr (.long y)) :: .inr (.inr (.long x)) :: S => some (pc + len, L, aW (.long (x + y)) :: S, kc, ks, h)
    | _ => none
  | 44 => match S with
    | .inr (.inr (.long y)) :: .inr (.inr (.long x)) :: S => some (pc + len, L, aW (.long (x * y)) :: S, kc, ks, h)
    | _ => none
  | 45 => some (pc + len, L, aW (.long (Int64.ofNat a)) :: S, kc, ks, h)
  | _ => none
def popN : Nat → List aV → Option (List aV × List aV)
  | 0, S => some ([], S)
  | n + 1, v :: S => (popN n S).map (fun q => (q.1 ++ [v], q.2))
  | _ + 1, [] => none
/-- the class (by number) of an object's cell -/
def isOb (c : aCell) (ci : Nat) : Prop := match c with
  | .inr (k, _) => k = ci
  | _ => False
/-- the receiver of a call: kinds 0 (an object of ours), 5 (a String constant), 6 (an enum constant), 2 and 8 (a new object), else static -/
def rcv (oc : Nat → Nat) (kd y : Nat) (args : List aV) (h : aH) : Prop := match kd with
  | 0 => match args with
    | .inr (.inl a) :: _ => isOb (h.2.2 a) (oc y)
    | _ => False
  | 5 => match args with
    | .inr (.inr (.ref j)) :: _ => 19 ≤ j ∧ j < 80
    | _ => False
  | 6 => match args with
    | .inr (.inr (.ref j)) :: _ => 4 ≤ j ∧ j < 19
    | _ => False
  | 2 => match args with
    | .inr (.inl _) :: _ => True
    | _ => False
  | 8 => match args with
    | .inr (.inl _) :: _ => True
    | _ => False
  | 1 => True
  | 7 => True
  | _ => False
def hfind : List (Nat × Nat × Nat × Nat × Nat) → Nat → Nat → Option (Nat × Nat)
  | [], _, _ => none
  | (lo, hi, hp, e0, sl) :: l, pc, e => if lo ≤ pc ∧ pc < hi ∧ e = e0 then some (hp, sl) else hfind l pc e
def rfit (rt : Option FieldType) (v : aV) : Prop := match rt, v with
  | some .int, .inl _ => True
  | some .boolean, .inl x => x = 0 ∨ x = 1
  | some .byte, .inl x => -128 ≤ x ∧ x < 128
  | some .char, .inl x => 0 ≤ x ∧ x < 65536
  | some .long, .inr (.inr (.long _)) => True
  | some (.object _), .inr (.inl _) => True
  | some (.object _), .inr (.inr (.ref j)) => j ≠ 1
  | some (.object _), .inr (.inr .null) => True
  | _, _ => False
def aft (y pc len : Nat) (res : aRes) (L S : List aV) (kc ks : Nat) (q : aRes) (k : aSt → Prop) : Prop := match q with
  | (.inl none, h) => k (pc + len, L, S, kc, ks, h)
  | (.inl (some v), h) => k (pc + len, L, v :: S, kc, ks, h)
  | (.inr e, h) => match hfind (mhnd y) pc e with
    | none => res = (.inr e, h)
    | some (hp, sl) => okst L sl = true ∧ k (hp, L.set sl aU, [], kc, ks, h)
section AM
variable (ca : Nat → Option (Nat × Nat × (Nat → aV))) (cf : Nat → Nat → Option aV) (oc : Nat → Nat)
def stE (C : Nat → List aV → aH → aRes → Prop) (y : Nat) (res : aRes) (e : Option aE) (s : aSt) (k : aSt → Prop) : Prop := match e with
  | none => False
  | some (o, len, a, b, c) => match o with
    | 100 => ∃ (args S : List aV) (q : aRes), popN (c % 16) s.2.2.1 = some (args, S) ∧ (args.all fun v => !(isC2 v)) = true ∧ rcv oc a b args s.2.2.2.2.2 ∧ S.length ≤ 4 ∧
        ((mbud b).1 = 0 ∨ s.2.2.2.1 + (mbud b).1 ≤ (mbud y).1) ∧ ((mbud b).2 = 0 ∨ s.2.2.2.2.1 + (mbud b).2 ≤ (mbud y).2) ∧
        C b args s.2.2.2.2.2 q ∧ aft y s.1 len res s.2.1 S (s.2.2.2.1 + (mbud b).1) (s.2.2.2.2.1 + (mbud b).2) q k
    | 101 => match s.2.2.1 with
      | [v] => rfit (mrt y) v ∧ res = (.inl (some v), s.2.2.2.2.2)
      | _ => False
    | 102 => s.2.2.1 = [] ∧ mrt y = none ∧ res = (.inl none, s.2.2.2.2.2)
    | o => ∃ s', lst ca cf y o len a b c s.1 s.2.1 s.2.2.1 s.2.2.2.1 s.2.2.2.2.1 s.2.2.2.2.2 = some s' ∧ k s'
theorem stE_mono {C : Nat → List aV → aH → aRes → Prop} {y : Nat} {res : aRes} {e : Option aE} {s : aSt} {k k' : aSt → Prop} (hk : ∀ s, k s → k' s) (h : stE ca cf oc C y res e s k) : stE ca cf oc C y res e s k' := by
  unfold stE at h ⊢
  split at h
  · exact h
  · split at h
    · obtain ⟨args, S, q, h1, h0, h2, h3, h4, h5, h6, h7⟩ := h
      refine ⟨args, S, q, h1, h0, h2, h3, h4, h5, h6, ?_⟩
      unfold aft at h7 ⊢
      split at h7
      · exact hk _ h7
      · exact hk _ h7
      · split at h7
        · exact h7
        · exact ⟨h7.1, hk _ h7.2⟩
    · exact h
    · exact h
    · obtain ⟨s', h1, h2⟩ := h
      exact ⟨s', h1, hk _ h2⟩
/-- from s, the method y comes to its end with res (the least such relation) -/
def Runs (C : Nat → List aV → aH → aRes → Prop) (y : Nat) (res : aRes) (s : aSt) : Prop := ∀ P : aSt → Prop, (∀ s, stE ca cf oc C y res (code_ y s.1) s P → P s) → P s
theorem Runs.fold {C : Nat → List aV → aH → aRes → Prop} {y : Nat} {res : aRes} {s : aSt} (h : stE ca cf oc C y res (code_ y s.1) s (Runs ca cf oc C y res)) : Runs ca cf oc C y res s := by
  intro P hP
  exact hP s (stE_mono ca cf oc (fun s' h' => h' P hP) h)
theorem Runs.unfold {C : Nat → List aV → aH → aRes → Prop} {y : Nat} {res : aRes} {s : aSt} (h : Runs ca cf oc C y res s) : stE ca cf oc C y res (code_ y s.1) s (Runs ca cf oc C y res) := by
  refine h (fun s => stE ca cf oc C y res (code_ y s.1) s (Runs ca cf oc C y res)) ?_
  intro s' h'
  exact stE_mono ca cf oc (fun s'' h'' => Runs.fold ca cf oc h'') h'
theorem Runs.iff {C : Nat → List aV → aH → aRes → Prop} {y : Nat} {res : aRes} {s : aSt} : Runs ca cf oc C y res s ↔ stE ca cf oc C y res (code_ y s.1) s (Runs ca cf oc C y res) := ⟨Runs.unfold ca cf oc, Runs.fold ca cf oc⟩
def entL (y : Nat) (args : List aV) : List aV := args ++ List.replicate (mnL y - args.length) aU
def Calls : Nat → Nat → List aV → aH → aRes → Prop
  | 0 => fun _ _ _ _ => False
  | d + 1 => fun y args h res => Runs ca cf oc (Calls d) y res (0, entL y args, [], 0, 0, h)
end AM
