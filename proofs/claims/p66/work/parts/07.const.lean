/-! constants by number: 0 the script, 1 a static nobody looks at, 2 COMMANDS, 3 the switch map, 4 to 18 the commands, 19 to 79 the texts, 80 to 140 their bytes -/
def txtA (y : Nat) : List Int := bif Nat.ble y 60 then (bif Nat.ble y 29 then (bif Nat.ble y 14 then (bif Nat.ble y 6 then (bif Nat.ble y 2 then (bif Nat.ble y 0 then ([114, 101, 112, 101, 97, 116]) else (bif Nat.ble y 1 then ([115, 116, 114, 101, 101, 116]) else ([119, 101, 115, 116]))) else (bif Nat.ble y 4 then (bif Nat.ble y 3 then ([101, 97, 115, 116]) else ([115, 116, 114, 101, 101, 116, 32, 49, 50, 59, 32, 114, 111, 111, 102, 32, 53, 32, 51, 59, 32, 116, 114, 101, 101, 32, 56, 32, 50, 59, 32, 114, 111, 111, 102, 32, 49, 49, 32, 57, 59, 32, 103, 117, 115, 116, 32, 101, 97, 115, 116, 32, 50, 59, 32, 103, 117, 115, 116, 32, 101, 97, 115, 116, 32, 49, 59, 32, 103, 117, 115, 116, 32, 119, 101, 115, 116, 32, 49, 59, 32, 98, 97, 108, 108, 111, 111, 110, 32, 48, 32, 49, 48, 32, 53, 59, 32, 98, 97, 108, 108, 111, 111, 110, 32, 51, 32, 54, 32, 52, 59, 32, 98, 97, 108, 108, 111, 111, 110, 32, 55, 32, 52, 32, 50, 59, 32, 112, 97, 114, 99, 101, 108, 32, 52, 32, 48, 32, 56, 32, 49, 48, 59, 32, 112, 97, 114, 99, 101, 108, 32, 51, 32, 48, 32, 53, 32, 49, 49, 59, 32, 112, 97, 114, 99, 101, 108, 32, 53, 32, 51, 32, 57, 32, 49, 50, 59, 32, 112, 97, 114, 99, 101, 108, 32, 50, 32, 55, 32, 49, 32, 49, 51, 59, 32, 116, 105, 101, 32, 48, 32, 48, 59, 32, 116, 105, 101, 32, 49, 32, 48, 59, 32, 116, 105, 101, 32, 50, 32, 49, 59, 32, 108, 97, 117, 110, 99, 104, 32, 48, 59, 32, 104, 111, 117, 114, 115, 32, 49, 59])) else (bif Nat.ble y 5 then ([116, 104, 101, 32, 100, 101, 115, 116, 105, 110, 97, 116, 105, 111, 110, 32, 105, 115, 32, 116, 104, 101, 32, 111, 114, 105, 103, 105, 110]) else ([110, 111, 32, 112, 97, 114, 99, 101, 108, 32, 119, 105, 116, 104, 32, 116, 104, 105, 115, 32, 110, 117, 109, 98, 101, 114, 32, 108, 105, 101, 115, 32, 116, 104, 101, 114, 101])))) else (bif Nat.ble y 10 then (bif Nat.ble y 8 then (bif Nat.ble y 7 then ([110, 111, 32, 115, 110, 97, 112, 115, 104, 111, 116, 32, 119, 97, 115, 32, 115, 97, 118, 101, 100]) else ([110, 111, 32, 115, 117, 99, 104, 32, 112, 108, 97, 99, 101])) else (bif Nat.ble y 9 then ([110, 111, 32, 115, 117, 99, 104, 32, 98, 97, 108, 108, 111, 111, 110]) else ([110, 111, 32, 115, 117, 99, 104, 32, 112, 97, 114, 99, 101, 108]))) else (bif Nat.ble y 12 then (bif Nat.ble y 11 then ([111, 117, 116, 32, 111, 102, 32, 114, 97, 110, 103, 101]) else ([114, 101, 102, 117, 115, 101, 100])) else (bif Nat.ble y 13 then ([114, 101, 112, 101, 97, 116]) else ([114, 101, 112, 101, 97, 116]))))) else (bif Nat.ble y 21 then (bif Nat.ble y 17 then (bif Nat.ble y 15 then ([101, 97, 115, 116]) else (bif Nat.ble y 16 then ([119, 101, 115, 116]) else ([114, 111, 111, 102]))) else (bif Nat.ble y 19 then (bif Nat.ble y 18 then ([116, 114, 101, 101]) else ([103, 117, 115, 116])) else (bif Nat.ble y 20 then ([108, 101, 97, 107]) else ([98, 97, 108, 108, 111, 111, 110])))) else (bif Nat.ble y 25 then (bif Nat.ble y 23 then (bif Nat.ble y 22 then ([112, 97, 114, 99, 101, 108]) else ([116, 105, 101])) else (bif Nat.ble y 24 then ([117, 110, 116, 105, 101]) else ([108, 97, 117, 110, 99, 104]))) else (bif Nat.ble y 27 then (bif Nat.ble y 26 then ([109, 111, 111, 114]) else ([102, 114, 101, 101])) else (bif Nat.ble y 28 then ([102, 105, 108, 108]) else ([103, 97, 115])))))) else (bif Nat.ble y 44 then (bif Nat.ble y 36 then (bif Nat.ble y 32 then (bif Nat.ble y 30 then ([99, 108, 97, 105, 109]) else (bif Nat.ble y 31 then ([104, 111, 117, 114, 115]) else ([114, 101, 112, 101, 97, 116]))) else (bif Nat.ble y 34 then (bif Nat.ble y 33 then ([115, 116, 114, 101, 101, 116]) else ([114, 111, 111, 102])) else (bif Nat.ble y 35 then ([112, 104]) else ([116, 114, 101, 101])))) else (bif Nat.ble y 40 then (bif Nat.ble y 38 then (bif Nat.ble y 37 then ([103, 117, 115, 116]) else ([100, 103])) else (bif Nat.ble y 39 then ([108, 101, 97, 107]) else ([108]))) else (bif Nat.ble y 42 then (bif Nat.ble y 41 then ([98, 97, 108, 108, 111, 111, 110]) else ([112, 117, 115])) else (bif Nat.ble y 43 then ([112, 97, 114, 99, 101, 108]) else ([119, 112, 111, 110]))))) else (bif Nat.ble y 52 then (bif Nat.ble y 48 then (bif Nat.ble y 46 then (bif Nat.ble y 45 then ([116, 105, 101]) else ([99, 98])) else (bif Nat.ble y 47 then ([117, 110, 116, 105, 101]) else ([99]))) else (bif Nat.ble y 50 then (bif Nat.ble y 49 then ([108, 97, 117, 110, 99, 104]) else ([98])) else (bif Nat.ble y 51 then ([109, 111, 111, 114]) else ([102, 114, 101, 101])))) else (bif Nat.ble y 56 then (bif Nat.ble y 54 then (bif Nat.ble y 53 then ([102, 105, 108, 108]) else ([98, 102])) else (bif Nat.ble y 55 then ([103, 97, 115]) else ([97]))) else (bif Nat.ble y 58 then (bif Nat.ble y 57 then ([99, 108, 97, 105, 109]) else ([112, 107])) else (bif Nat.ble y 59 then ([104, 111, 117, 114, 115]) else ([116]))))))) else []
def swmA (y : Nat) : Int := bif Nat.ble y 14 then (bif Nat.ble y 6 then (bif Nat.ble y 2 then (bif Nat.ble y 0 then (12) else (bif Nat.ble y 1 then (13) else (1))) else (bif Nat.ble y 4 then (bif Nat.ble y 3 then (14) else (2)) else (bif Nat.ble y 5 then (3) else (4)))) else (bif Nat.ble y 10 then (bif Nat.ble y 8 then (bif Nat.ble y 7 then (5) else (6)) else (bif Nat.ble y 9 then (7) else (8))) else (bif Nat.ble y 12 then (bif Nat.ble y 11 then (9) else (10)) else (bif Nat.ble y 13 then (15) else (11))))) else 0
def cwdA (y : Nat) : Nat := bif Nat.ble y 14 then (bif Nat.ble y 6 then (bif Nat.ble y 2 then (bif Nat.ble y 0 then (36) else (bif Nat.ble y 1 then (37) else (38))) else (bif Nat.ble y 4 then (bif Nat.ble y 3 then (39) else (40)) else (bif Nat.ble y 5 then (41) else (42)))) else (bif Nat.ble y 10 then (bif Nat.ble y 8 then (bif Nat.ble y 7 then (43) else (44)) else (bif Nat.ble y 9 then (45) else (46))) else (bif Nat.ble y 12 then (bif Nat.ble y 11 then (47) else (48)) else (bif Nat.ble y 13 then (49) else (50))))) else 0
def cprA (y : Nat) : Nat := bif Nat.ble y 14 then (bif Nat.ble y 6 then (bif Nat.ble y 2 then (bif Nat.ble y 0 then (54) else (bif Nat.ble y 1 then (54) else (57))) else (bif Nat.ble y 4 then (bif Nat.ble y 3 then (59) else (61)) else (bif Nat.ble y 5 then (63) else (65)))) else (bif Nat.ble y 10 then (bif Nat.ble y 8 then (bif Nat.ble y 7 then (67) else (69)) else (bif Nat.ble y 9 then (69) else (69))) else (bif Nat.ble y 12 then (bif Nat.ble y 11 then (73) else (75)) else (bif Nat.ble y 13 then (77) else (79))))) else 0
def ca_ (j : Nat) : Option (Nat × Nat × (Nat → aV)) := if j = 2 then some (5, 15, fun k => aC (4 + k)) else if j = 3 then some (0, 15, fun k => aI (swmA k)) else if 80 ≤ j ∧ j < 141 then some (1, (txtA (j - 80)).length, fun k => aI ((txtA (j - 80)).getD k 0)) else none
def cf_ (key j : Nat) : Option aV := match key with
  | 0 => if 19 ≤ j ∧ j < 80 then some (aC (j + 61)) else none
  | 1 => if 19 ≤ j ∧ j < 80 then some (aI 0) else none
  | 2 => if 4 ≤ j ∧ j < 19 then some (aC (cwdA (j - 4))) else none
  | 3 => if 4 ≤ j ∧ j < 19 then some (aC (cprA (j - 4))) else none
  | 4 => if 4 ≤ j ∧ j < 19 then some (aI ((j - 4 : Nat) : Int)) else none
  | _ => none
def keyO (key : Nat) : String := match key with | 0 => "java/lang/String" | 1 => "java/lang/String" | 2 => "BalloonPost$Command" | 3 => "BalloonPost$Command" | _ => "java/lang/Enum"
def keyN (key : Nat) : String := match key with | 0 => "value" | 1 => "coder" | 2 => "word" | 3 => "parameters" | _ => "ordinal"
def keyD (key : Nat) : String := match key with | 0 => "[B" | 1 => "B" | 2 => "Ljava/lang/String;" | 3 => "Ljava/lang/String;" | _ => "I"
def cty (t : Nat) : FieldType := if t = 5 then .object "BalloonPost$Command" else aty t
/-- statics that hold a constant -/
def ZL : List (Nat × String × String × String) := [(1, "jdk/internal/util/Preconditions", "SIOOBE_FORMATTER", "Ljava/util/function/BiFunction;"), (2, "BalloonPost", "COMMANDS", "[LBalloonPost$Command;"), (3, "BalloonPost$1", "$SwitchMap$BalloonPost$Command", "[I"), (4, "BalloonPost$Command", "ROOF", "LBalloonPost$Command;"), (5, "BalloonPost$Command", "TREE", "LBalloonPost$Command;"), (6, "BalloonPost$Command", "GUST", "LBalloonPost$Command;"), (7, "BalloonPost$Command", "LEAK", "LBalloonPost$Command;"), (8, "BalloonPost$Command", "BALLOON", "LBalloonPost$Command;"), (9, "BalloonPost$Command", "PARCEL", "LBalloonPost$Command;"), (10, "BalloonPost$Command", "TIE", "LBalloonPost$Command;"), (11, "BalloonPost$Command", "UNTIE", "LBalloonPost$Command;"), (12, "BalloonPost$Command", "LAUNCH", "LBalloonPost$Command;"), (13, "BalloonPost$Command", "MOOR", "LBalloonPost$Command;"), (14, "BalloonPost$Command", "FREE", "LBalloonPost$Command;"), (15, "BalloonPost$Command", "FILL", "LBalloonPost$Command;"), (16, "BalloonPost$Command", "GAS", "LBalloonPost$Command;"), (17, "BalloonPost$Command", "CLAIM", "LBalloonPost$Command;"), (18, "BalloonPost$Command", "HOURS", "LBalloonPost$Command;")]
/-- texts as the classes name them: class, entry, text, number -/
def SRL : List (String × Nat × String × Nat) := [("BalloonPost$Script", 66, "repeat", 19), ("BalloonPost$Script", 86, "street", 20), ("BalloonPost$Script", 146, "west", 21), ("BalloonPost$Script", 148, "east", 22), ("BalloonPost", 52, "street 12; roof 5 3; tree 8 2; roof 11 9; gust east 2; gust east 1; gust west 1; balloon 0 10 5; balloon 3 6 4; balloon 7 4 2; parcel 4 0 8 10; parcel 3 0 5 11; parcel 5 3 9 12; parcel 2 7 1 13; tie 0 0; tie 1 0; tie 2 1; launch 0; hours 1;", 23), ("BalloonPost", 126, "the destination is the origin", 24), ("BalloonPost", 166, "no parcel with this number lies there", 25), ("BalloonPost", 182, "no snapshot was saved", 26), ("BalloonPost", 335, "no such place", 27), ("BalloonPost", 338, "no such balloon", 28), ("BalloonPost", 341, "no such parcel", 29), ("BalloonPost", 343, "out of range", 30), ("BalloonPost", 351, "refused", 31), ("BalloonPost$Script", 66, "repeat", 32), ("BalloonPost$Script", 66, "repeat", 33), ("BalloonPost$Script", 148, "east", 34), ("BalloonPost$Script", 146, "west", 35), ("BalloonPost$Command", 76, "roof", 36), ("BalloonPost$Command", 84, "tree", 37), ("BalloonPost$Command", 87, "gust", 38), ("BalloonPost$Command", 92, "leak", 39), ("BalloonPost$Command", 97, "balloon", 40), ("BalloonPost$Command", 102, "parcel", 41), ("BalloonPost$Command", 107, "tie", 42), ("BalloonPost$Command", 112, "untie", 43), ("BalloonPost$Command", 117, "launch", 44), ("BalloonPost$Command", 122, "moor", 45), ("BalloonPost$Command", 125, "free", 46), ("BalloonPost$Command", 128, "fill", 47), ("BalloonPost$Command", 133, "gas", 48), ("BalloonPost$Command", 138, "claim", 49), ("BalloonPost$Command", 143, "hours", 50), ("BalloonPost$Script", 66, "repeat", 51), ("BalloonPost$Script", 86, "street", 52), ("BalloonPost$Command", 76, "roof", 53), ("BalloonPost$Command", 78, "ph", 54), ("BalloonPost$Command", 84, "tree", 55), ("BalloonPost$Command", 87, "gust", 56), ("BalloonPost$Command", 89, "dg", 57), ("BalloonPost$Command", 92, "leak", 58), ("BalloonPost$Command", 94, "l", 59), ("BalloonPost$Command", 97, "balloon", 60), ("BalloonPost$Command", 99, "pus", 61), ("BalloonPost$Command", 102, "parcel", 62), ("BalloonPost$Command", 104, "wpon", 63), ("BalloonPost$Command", 107, "tie", 64), ("BalloonPost$Command", 109, "cb", 65), ("BalloonPost$Command", 112, "untie", 66), ("BalloonPost$Command", 114, "c", 67), ("BalloonPost$Command", 117, "launch", 68), ("BalloonPost$Command", 119, "b", 69), ("BalloonPost$Command", 122, "moor", 70), ("BalloonPost$Command", 125, "free", 71), ("BalloonPost$Command", 128, "fill", 72), ("BalloonPost$Command", 130, "bf", 73), ("BalloonPost$Command", 133, "gas", 74), ("BalloonPost$Command", 135, "a", 75), ("BalloonPost$Command", 138, "claim", 76), ("BalloonPost$Command", 140, "pk", 77), ("BalloonPost$Command", 143, "hours", 78), ("BalloonPost$Command", 145, "t", 79)]
/-- what a method's start knows of the constants: none of them lies in A -/
def CF (A : Nat → Prop) (kv : Nat → Value) (X : Nat × (Nat → Int)) (U : State) : Prop :=
  (∃ b, kv 0 = .ref b ∧ va_X b X.1 (fun j => i32 (X.2 j)) U U.heap ∧ b < U.heap.size ∧ ¬ A b) ∧
  (∀ j t n f, ca_ j = some (t, n, f) → ∃ q, kv j = .ref q ∧ va_T (cty t) q n (fun k => adV kv (fun _ => 0) (f k)) A U U.heap) ∧
  (∀ key j v, cf_ key j = some v → ∃ q, kv j = .ref q ∧ va_OF (keyO key) (keyN key) (keyD key) (adV kv (fun _ => 0) v) q A U U.heap) ∧
  (∀ j, 4 ≤ j → j < 80 → ∃ q, kv j = .ref q ∧ va_O (if j < 19 then "BalloonPost$Command" else "java/lang/String") q A U U.heap) ∧
  (∀ z ∈ ZL, va_Z z.2.1 z.2.2.1 z.2.2.2 (kv z.1) A U U.heap) ∧
  va_Z "java/lang/String" "COMPACT_STRINGS" "Z" (.int 1) A U U.heap ∧
  (∀ z ∈ SRL, ∃ q, kv z.2.2.2 = .ref q ∧ vk_R z.1 z.2.1 z.2.2.1 q U) ∧
  vx_Zq Bundle.tN "UNASSIGNED_STACK" Bundle.steD A U U.heap ∧ vx_Zq Bundle.tN "SUPPRESSED_SENTINEL" Bundle.listD A U U.heap
theorem CF.warm {A : Nat → Prop} {kv : Nat → Value} {X : Nat × (Nat → Int)} {s U : State} (h : CF A kv X s) (hW : s.WarmedH U.vm) (hz : s.heap.size ≤ U.heap.size) (hk : ∀ q : Nat, q < s.heap.size → ¬ A q → U.heap[q]? = s.heap[q]?) : CF A kv X U := by
  obtain ⟨⟨b, a1, a2, a3, a4⟩, c1, c2, c3, c4, c5, c6, c7, c8⟩ := h
  have hal := hW.alike
  refine ⟨⟨b, a1, (a2.kept (hk b a3 a4)).moved hal, Nat.lt_of_lt_of_le a3 hz, a4⟩, ?_, ?_, ?_, ?_, ?_, ?_, ?_, ?_⟩
  · intro j t n f e
    obtain ⟨q, e1, e2⟩ := c1 j t n f e
    exact ⟨q, e1, va_T.moved hal (e2.kept hk)⟩
  · intro key j v e
    obtain ⟨q, e1, e2⟩ := c2 key j v e
    exact ⟨q, e1, va_OF.moved hal (e2.kept hk)⟩
  · intro j j1 j2
    obtain ⟨q, e1, e2⟩ := c3 j j1 j2
    exact ⟨q, e1, va_O.moved hal (e2.kept hk)⟩
  · intro z hz9
    exact va_Z.moved hal ((c4 z hz9).kept hk)
  · exact va_Z.moved hal (c5.kept hk)
  · intro z hz9
    obtain ⟨q, e1, e2⟩ := c6 z hz9
    exact ⟨q, e1, vk_R.warm hW e2⟩
  · exact vx_Zq.moved hal (c7.kept hk)
  · exact vx_Zq.moved hal (c8.kept hk)
theorem CF.blind {A : Nat → Prop} {kv : Nat → Value} {X : Nat × (Nat → Int)} {U : State} (g : JFrame) (mk : MethodId) (a : Array Value) (h : CF A kv X U) : CF A kv X (U.calling g mk a) := by
  obtain ⟨⟨b, a1, a2, a3, a4⟩, c1, c2, c3, c4, c5, c6, c7, c8⟩ := h
  have hal : U.vm.Alike (U.calling g mk a).vm := Vm.Alike.refl U.vm
  refine ⟨⟨b, a1, va_X.moved (u := U) (U := U.calling g mk a) hal a2, a3, a4⟩, ?_, ?_, ?_, ?_, ?_, ?_, ?_, ?_⟩
  · intro j t n f e
    obtain ⟨q, e1, e2⟩ := c1 j t n f e
    exact ⟨q, e1, va_T.moved (u := U) (U := U.calling g mk a) hal e2⟩
  · intro key j v e
    obtain ⟨q, e1, e2⟩ := c2 key j v e
    exact ⟨q, e1, va_OF.moved (u := U) (U := U.calling g mk a) hal e2⟩
  · intro j j1 j2
    obtain ⟨q, e1, e2⟩ := c3 j j1 j2
    exact ⟨q, e1, va_O.moved (u := U) (U := U.calling g mk a) hal e2⟩
  · intro z hz9
    exact va_Z.moved (u := U) (U := U.calling g mk a) hal (c4 z hz9)
  · exact va_Z.moved (u := U) (U := U.calling g mk a) hal c5
  · intro z hz9
    obtain ⟨q, e1, e2⟩ := c6 z hz9
    exact ⟨q, e1, vk_R.same (u := U) (U := U.calling g mk a) rfl e2⟩
  · exact vx_Zq.moved (u := U) (U := U.calling g mk a) hal c7
  · exact vx_Zq.moved (u := U) (U := U.calling g mk a) hal c8
theorem adV_0 {kv : Nat → Value} {ad : Nat → Nat} {v : aV} (h : rok 0 v) : adV kv ad v = adV kv (fun _ => 0) v := adV_agr (n := 0) (fun _ h => absurd h (Nat.not_lt_zero _)) h
theorem rok_0 {n : Nat} {v : aV} (h : rok 0 v) : rok n v := rok_mono (Nat.zero_le _) h
section SC
variable {p : Program} {l : Launch} {e : Env} {R : Room} {s : State} {m : MethodId} {args : Array Value} {below : List Frame} {meth : Method} {c : Code} {Q : State → Prop}
variable {cc : ByteArray} {D : va_G} {cl : List vw_C} {A : Nat → Prop} {cA : Nat → ClassId} {kv : Nat → Value} {X : Nat × (Nat → Int)} {n0 : Nat} {ad0 : Nat → Nat} {nL B1 B2 : Nat}
variable {pc : Nat} {L S : List aV} {kc ks : Nat} {h : aH}
theorem sg_ldcS (hx : p.tables.exec = Jvm.exec) (hb : c.code = cc) {own tx : String} {index j : Nat} (hown : s.vm.findClass own = some m.cls) (hS9 : ∃ q, kv j = .ref q ∧ vk_R own index tx q s) (hdg : decode cc pc = .ok (.ldc index, 2)) (k : Wg p l e R s m args below meth c Q D cl A cA kv X n0 ad0 nL B1 B2 (pc + 2, L, aC j :: S, kc, ks, h)) : Wg p l e R s m args below meth c Q D cl A cA kv X n0 ad0 nL B1 B2 (pc, L, S, kc, ks, h) := by
  intro b1 b2 hn ad H locs ls h1 h3 h4 h5 h6 h7
  obtain ⟨q, e9, hr⟩ := hS9
  have kk := k b1 b2 hn ad H locs ls h1 h3 h4 h5 h6 (rkW h7)
  change W p l e R s m args below meth c H locs kc ks Q (F0 m (pc + 2) ls (kv j :: S.map (adV kv ad))) at kk
  rw [e9] at kk
  exact va_ldcS hx hb hown hr hdg kk
theorem sg_ldcwS (hx : p.tables.exec = Jvm.exec) (hb : c.code = cc) {own tx : String} {index j : Nat} (hown : s.vm.findClass own = some m.cls) (hS9 : ∃ q, kv j = .ref q ∧ vk_R own index tx q s) (hdg : decode cc pc = .ok (.ldc_w index, 3)) (k : Wg p l e R s m args below meth c Q D cl A cA kv X n0 ad0 nL B1 B2 (pc + 3, L, aC j :: S, kc, ks, h)) : Wg p l e R s m args below meth c Q D cl A cA kv X n0 ad0 nL B1 B2 (pc, L, S, kc, ks, h) := by
  intro b1 b2 hn ad H locs ls h1 h3 h4 h5 h6 h7
  obtain ⟨q, e9, hr⟩ := hS9
  have kk := k b1 b2 hn ad H locs ls h1 h3 h4 h5 h6 (rkW h7)
  change W p l e R s m args below meth c H locs kc ks Q (F0 m (pc + 3) ls (kv j :: S.map (adV kv ad))) at kk
  rw [e9] at kk
  intro T hT X9
  obtain ⟨t, a1, c9⟩ := kk T hT X9
  refine ⟨t, ?_, c9⟩
  exact X9.ldcStringW hx (own := own) (text := tx) (index := index) (a := q) hown hr.1 hr.2 (g := F0 m pc ls (S.map (adV kv ad))) rfl (by rw [hb]; exact hdg) t a1
theorem sg_gets (hx : p.tables.exec = Jvm.exec) (hb : c.code = cc) {C n d own ref : String} {index j : Nat} (hZ : va_Z C n d (kv j) A s s.heap) (hown : s.vm.findClass own = some m.cls) (hlink : (Cond.fieldLink own index ref n d).before args s = true) (hsame : ∀ x, s.fieldFound? C n d = some x → s.fieldFound? ref n d = some x) (hdg : decode cc pc = .ok (.getstatic index, 3)) (k : Wg p l e R s m args below meth c Q D cl A cA kv X n0 ad0 nL B1 B2 (pc + 3, L, aC j :: S, kc, ks, h)) : Wg p l e R s m args below meth c Q D cl A cA kv X n0 ad0 nL B1 B2 (pc, L, S, kc, ks, h) := by
  intro b1 b2 hn ad H locs ls h1 h3 h4 h5 h6 h7
  exact va_gets hx hb hZ h4 hown hlink hsame hdg (k b1 b2 hn ad H locs ls h1 h3 h4 h5 h6 (rkW h7))
theorem sg_getsN (hx : p.tables.exec = Jvm.exec) (hb : c.code = cc) {C n d own ref host : String} {index j : Nat} (hZ : va_Z C n d (kv j) A s s.heap) (hown : s.vm.findClass own = some m.cls) (hlink : (Cond.fieldLinkNest own index ref n d host).before args s = true) (hsame : ∀ x, s.fieldFound? C n d = some x → s.fieldFound? ref n d = some x) (hdg : decode cc pc = .ok (.getstatic index, 3)) (k : Wg p l e R s m args below meth c Q D cl A cA kv X n0 ad0 nL B1 B2 (pc + 3, L, aC j :: S, kc, ks, h)) : Wg p l e R s m args below meth c Q D cl A cA kv X n0 ad0 nL B1 B2 (pc, L, S, kc, ks, h) := by
  intro b1 b2 hn ad H locs ls h1 h3 h4 h5 h6 h7
  exact va_getsN hx hb hZ h4 hown hlink hsame hdg (k b1 b2 hn ad H locs ls h1 h3 h4 h5 h6 (rkW h7))
theorem sg_getsI (hx : p.tables.exec = Jvm.exec) (hb : c.code = cc) {C n d own ref : String} {index : Nat} {x : Int} (hZ : va_Z C n d (.int (i32 x)) A s s.heap) (hown : s.vm.findClass own = some m.cls) (hlink : (Cond.fieldLink own index ref n d).before args s = true) (hsame : ∀ x, s.fieldFound? C n d = some x → s.fieldFound? ref n d = some x) (hdg : decode cc pc = .ok (.getstatic index, 3)) (k : Wg p l e R s m args below meth c Q D cl A cA kv X n0 ad0 nL B1 B2 (pc + 3, L, aI x :: S, kc, ks, h)) : Wg p l e R s m args below meth c Q D cl A cA kv X n0 ad0 nL B1 B2 (pc, L, S, kc, ks, h) := by
  intro b1 b2 hn ad H locs ls h1 h3 h4 h5 h6 h7
  exact va_gets hx hb hZ h4 hown hlink hsame hdg (k b1 b2 hn ad H locs ls h1 h3 h4 h5 h6 (rkI h7))
theorem sg_cget (hx : p.tables.exec = Jvm.exec) (hb : c.code = cc) {o n d own ref : String} {index j : Nat} {v : aV} (hE : ∃ q, kv j = .ref q ∧ va_OF o n d (adV kv (fun _ => 0) v) q A s s.heap) (hv : rok 0 v) (hown : s.vm.findClass own = some m.cls) (hlink : (Cond.fieldLink own index ref n d).before args s = true) (hsame : ∀ x, s.fieldFound? o n d = some x → s.fieldFound? ref n d = some x) (hdg : decode cc pc = .ok (.getfield index, 3)) (k : Wg p l e R s m args below meth c Q D cl A cA kv X n0 ad0 nL B1 B2 (pc + 3, L, v :: S, kc, ks, h)) : Wg p l e R s m args below meth c Q D cl A cA kv X n0 ad0 nL B1 B2 (pc, L, aC j :: S, kc, ks, h) := by
  intro b1 b2 hn ad H locs ls h1 h3 h4 h5 h6 h7
  obtain ⟨q, e9, hE⟩ := hE
  change W p l e R s m args below meth c H locs kc ks Q (F0 m (pc) ls (kv j :: S.map (adV kv ad)))
  rw [e9]
  refine vk_getf hx hb hE h4 hown hlink hsame hdg ?_
  rw [← adV_0 (ad := ad) hv]
  exact k b1 b2 hn ad H locs ls h1 h3 h4 h5 h6 (rkV (rok_0 hv) (rk1 h7))
theorem sg_clen (hx : p.tables.exec = Jvm.exec) (hb : c.code = cc) {t j n : Nat} {f : Nat → aV} (hT : ∃ q, kv j = .ref q ∧ va_T (cty t) q n (fun k => adV kv (fun _ => 0) (f k)) A s s.heap) (hdg : decode cc pc = .ok (.arraylength, 1)) (k : Wg p l e R s m args below meth c Q D cl A cA kv X n0 ad0 nL B1 B2 (pc + 1, L, aI n :: S, kc, ks, h)) : Wg p l e R s m args below meth c Q D cl A cA kv X n0 ad0 nL B1 B2 (pc, L, aC j :: S, kc, ks, h) := by
  intro b1 b2 hn ad H locs ls h1 h3 h4 h5 h6 h7
  obtain ⟨q, e9, hT⟩ := hT
  change W p l e R s m args below meth c H locs kc ks Q (F0 m (pc) ls (kv j :: S.map (adV kv ad)))
  rw [e9]
  refine va_tlen hx hb hT h4 rfl hdg ?_
  rw [← i32_nat]
  exact k b1 b2 hn ad H locs ls h1 h3 h4 h5 h6 (rkI (rk1 h7))
theorem sg_cld_i (hx : p.tables.exec = Jvm.exec) (hb : c.code = cc) {j n : Nat} {f : Nat → aV} {x : Int} (hT : ∃ q, kv j = .ref q ∧ va_T (cty 0) q n (fun k => adV kv (fun _ => 0) (f k)) A s s.heap) (hv : rok 0 (f x.toNat)) (x0 : 0 ≤ x) (x1 : x < n) (x2 : x < 2147483648) (hdg : decode cc pc = .ok (.iaload, 1)) (k : Wg p l e R s m args below meth c Q D cl A cA kv X n0 ad0 nL B1 B2 (pc + 1, L, f x.toNat :: S, kc, ks, h)) : Wg p l e R s m args below meth c Q D cl A cA kv X n0 ad0 nL B1 B2 (pc, L, aI x :: aC j :: S, kc, ks, h) := by
  intro b1 b2 hn ad H locs ls h1 h3 h4 h5 h6 h7
  obtain ⟨q, e9, hT⟩ := hT
  change W p l e R s m args below meth c H locs kc ks Q (F0 m (pc) ls (.int (i32 x) :: kv j :: S.map (adV kv ad)))
  rw [e9]
  refine va_ti (v := adV kv (fun _ => 0) (f x.toNat)) hx hb hT h4 (i32_in x0 x1 x2) (by rw [i32_cl x0 x2]) hdg ?_
  rw [← adV_0 (ad := ad) hv]
  exact k b1 b2 hn ad H locs ls h1 h3 h4 h5 h6 (rkV (rok_0 hv) (rk1 (rk1 h7)))
theorem sg_cld_b (hx : p.tables.exec = Jvm.exec) (hb : c.code = cc) {j n : Nat} {f : Nat → aV} {x : Int} (hT : ∃ q, kv j = .ref q ∧ va_T (cty 1) q n (fun k => adV kv (fun _ => 0) (f k)) A s s.heap) (hv : rok 0 (f x.toNat)) (x0 : 0 ≤ x) (x1 : x < n) (x2 : x < 2147483648) (hdg : decode cc pc = .ok (.baload, 1)) (k : Wg p l e R s m args below meth c Q D cl A cA kv X n0 ad0 nL B1 B2 (pc + 1, L, f x.toNat :: S, kc, ks, h)) : Wg p l e R s m args below meth c Q D cl A cA kv X n0 ad0 nL B1 B2 (pc, L, aI x :: aC j :: S, kc, ks, h) := by
  intro b1 b2 hn ad H locs ls h1 h3 h4 h5 h6 h7
  obtain ⟨q, e9, hT⟩ := hT
  change W p l e R s m args below meth c H locs kc ks Q (F0 m (pc) ls (.int (i32 x) :: kv j :: S.map (adV kv ad)))
  rw [e9]
  refine va_tb (v := adV kv (fun _ => 0) (f x.toNat)) hx hb hT h4 (i32_in x0 x1 x2) (by rw [i32_cl x0 x2]) hdg ?_
  rw [← adV_0 (ad := ad) hv]
  exact k b1 b2 hn ad H locs ls h1 h3 h4 h5 h6 (rkV (rok_0 hv) (rk1 (rk1 h7)))
theorem sg_cld_q (hx : p.tables.exec = Jvm.exec) (hb : c.code = cc) {j n : Nat} {f : Nat → aV} {x : Int} (hT : ∃ q, kv j = .ref q ∧ va_T (cty 5) q n (fun k => adV kv (fun _ => 0) (f k)) A s s.heap) (hv : rok 0 (f x.toNat)) (x0 : 0 ≤ x) (x1 : x < n) (x2 : x < 2147483648) (hdg : decode cc pc = .ok (.aaload, 1)) (k : Wg p l e R s m args below meth c Q D cl A cA kv X n0 ad0 nL B1 B2 (pc + 1, L, f x.toNat :: S, kc, ks, h)) : Wg p l e R s m args below meth c Q D cl A cA kv X n0 ad0 nL B1 B2 (pc, L, aI x :: aC j :: S, kc, ks, h) := by
  intro b1 b2 hn ad H locs ls h1 h3 h4 h5 h6 h7
  obtain ⟨q, e9, hT⟩ := hT
  change W p l e R s m args below meth c H locs kc ks Q (F0 m (pc) ls (.int (i32 x) :: kv j :: S.map (adV kv ad)))
  rw [e9]
  refine vb_tq (v := adV kv (fun _ => 0) (f x.toNat)) hx hb hT h4 (i32_in x0 x1 x2) (by rw [i32_cl x0 x2]) hdg ?_
  rw [← adV_0 (ad := ad) hv]
  exact k b1 b2 hn ad H locs ls h1 h3 h4 h5 h6 (rkV (rok_0 hv) (rk1 (rk1 h7)))
theorem sg_slen (hx : p.tables.exec = Jvm.exec) (hb : c.code = cc) (hS9 : ∃ b, kv 0 = .ref b ∧ va_X b X.1 (fun j => i32 (X.2 j)) s s.heap ∧ b < s.heap.size ∧ ¬ A b) (hdg : decode cc pc = .ok (.arraylength, 1)) (k : Wg p l e R s m args below meth c Q D cl A cA kv X n0 ad0 nL B1 B2 (pc + 1, L, aI X.1 :: S, kc, ks, h)) : Wg p l e R s m args below meth c Q D cl A cA kv X n0 ad0 nL B1 B2 (pc, L, aC 0 :: S, kc, ks, h) := by
  intro b1 b2 hn ad H locs ls h1 h3 h4 h5 h6 h7
  obtain ⟨b, e9, hX, hbl, hbA⟩ := hS9
  change W p l e R s m args below meth c H locs kc ks Q (F0 m (pc) ls (kv 0 :: S.map (adV kv ad)))
  rw [e9]
  refine va_slen hx hb hX hbl hbA h4 hdg ?_
  rw [← i32_nat]
  exact k b1 b2 hn ad H locs ls h1 h3 h4 h5 h6 (rkI (rk1 h7))
theorem sg_sld (hx : p.tables.exec = Jvm.exec) (hb : c.code = cc) (hS9 : ∃ b, kv 0 = .ref b ∧ va_X b X.1 (fun j => i32 (X.2 j)) s s.heap ∧ b < s.heap.size ∧ ¬ A b) {x : Int} (x0 : 0 ≤ x) (x1 : x < X.1) (x2 : x < 2147483648) (hdg : decode cc pc = .ok (.iaload, 1)) (k : Wg p l e R s m args below meth c Q D cl A cA kv X n0 ad0 nL B1 B2 (pc + 1, L, aI (X.2 x.toNat) :: S, kc, ks, h)) : Wg p l e R s m args below meth c Q D cl A cA kv X n0 ad0 nL B1 B2 (pc, L, aI x :: aC 0 :: S, kc, ks, h) := by
  intro b1 b2 hn ad H locs ls h1 h3 h4 h5 h6 h7
  obtain ⟨b, e9, hX, hbl, hbA⟩ := hS9
  change W p l e R s m args below meth c H locs kc ks Q (F0 m (pc) ls (.int (i32 x) :: kv 0 :: S.map (adV kv ad)))
  rw [e9]
  refine va_sld hx hb hX hbl hbA h4 (i32_in x0 x1 x2) hdg ?_
  rw [i32_cl x0 x2]
  exact k b1 b2 hn ad H locs ls h1 h3 h4 h5 h6 (rkI (rk1 (rk1 h7)))
end SC
