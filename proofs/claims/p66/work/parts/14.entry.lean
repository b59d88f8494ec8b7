/-! WHAT THE LAW'S ENTRY GIVES -/
def FN : List Cond := flatC narrow_1
def tmS (i : Nat) : Term := match SRL[i]? with
  | some z => .string z.1 z.2.1
  | none => .arg 0
def tmZ (i : Nat) : Term := match ZL[i]? with
  | some z => .static z.2.1 z.2.2.1 z.2.2.2
  | none => .arg 0
/-- the terms of the constants -/
def tmK (j : Nat) : Term := if j = 0 then .arg 0 else if j < 19 then tmZ (j - 1) else if j < 80 then tmS (j - 19) else .field (tmS (j - 80)) "java/lang/String" "value" "[B"
def i3 (n : Nat) : Int32 := Int32.ofNat n
def STX : List (Nat × Nat × Nat × Nat × Nat) := [(466, 467, 468, 469, 470), (456, 457, 458, 459, 460), (476, 477, 478, 479, 480), (484, 485, 486, 487, 488), (212, 213, 214, 215, 216), (614, 615, 616, 617, 618), (573, 574, 575, 576, 577), (647, 648, 649, 650, 651), (556, 557, 558, 559, 560), (510, 511, 512, 513, 514), (492, 493, 494, 495, 496), (540, 541, 542, 543, 544), (529, 530, 531, 532, 533), (466, 467, 468, 469, 470), (466, 467, 468, 469, 470), (484, 485, 486, 487, 488), (476, 477, 478, 479, 480), (823, 824, 825, 826, 827), (809, 810, 811, 812, 813), (844, 845, 846, 847, 848), (831, 832, 833, 834, 835), (791, 792, 793, 794, 795), (773, 774, 775, 776, 777), (672, 673, 674, 675, 676), (685, 686, 687, 688, 689), (699, 700, 701, 702, 703), (714, 715, 716, 717, 718), (722, 723, 724, 725, 726), (730, 731, 732, 733, 734), (858, 859, 860, 861, 862), (758, 759, 760, 761, 762), (744, 745, 746, 747, 748), (466, 467, 468, 469, 470), (456, 457, 458, 459, 460), (823, 824, 825, 826, 827), (817, 818, 819, 820, 821), (809, 810, 811, 812, 813), (844, 845, 846, 847, 848), (852, 853, 854, 855, 856), (831, 832, 833, 834, 835), (839, 840, 841, 842, 843), (791, 792, 793, 794, 795), (802, 803, 804, 805, 806), (773, 774, 775, 776, 777), (783, 784, 785, 786, 787), (672, 673, 674, 675, 676), (679, 680, 681, 682, 683), (685, 686, 687, 688, 689), (694, 695, 696, 697, 698), (699, 700, 701, 702, 703), (709, 710, 711, 712, 713), (714, 715, 716, 717, 718), (722, 723, 724, 725, 726), (730, 731, 732, 733, 734), (738, 739, 740, 741, 742), (858, 859, 860, 861, 862), (865, 866, 867, 868, 869), (758, 759, 760, 761, 762), (767, 768, 769, 770, 771), (744, 745, 746, 747, 748), (753, 754, 755, 756, 757)]
def okST (i : Nat) : Bool := match STX[i]? with
  | some (a, b, c, d, e) => decide (FN[a]? = some (.exactly (tmK (19 + i)) "java/lang/String")) && decide (FN[b]? = some (.eq (.field (tmK (19 + i)) "java/lang/String" "coder" "B") (.int 0))) && decide (FN[c]? = some (.arrayOf (tmK (80 + i)) .byte)) && decide (FN[d]? = some (.eq (.length (tmK (80 + i))) (.int (i3 (txtA i).length)))) && decide ((FN.drop e).take (txtA i).length = (List.range (txtA i).length).map (fun k => .eq (.elem (tmK (80 + i)) (.int (i3 k))) (.int (i32 ((txtA i).getD k 0))))) && Nat.blt (txtA i).length 65536
  | none => false
theorem okST_0 : (List.range' 0 16).all okST = true := by decide +kernel
theorem okST_1 : (List.range' 16 16).all okST = true := by decide +kernel
theorem okST_2 : (List.range' 32 16).all okST = true := by decide +kernel
theorem okST_3 : (List.range' 48 13).all okST = true := by decide +kernel
theorem okST_all {i : Nat} (h : i < 61) : okST i = true := by
  by_cases h1 : i < 16
  · exact List.all_eq_true.mp okST_0 i (List.mem_range'_1.mpr ⟨by omega, by omega⟩)
  · by_cases h2 : i < 32
    · exact List.all_eq_true.mp okST_1 i (List.mem_range'_1.mpr ⟨by omega, by omega⟩)
    · by_cases h3 : i < 48
      · exact List.all_eq_true.mp okST_2 i (List.mem_range'_1.mpr ⟨by omega, by omega⟩)
      · exact List.all_eq_true.mp okST_3 i (List.mem_range'_1.mpr ⟨by omega, by omega⟩)
def CX : List (Nat × Nat × Nat × Nat) := [(146, 147, 148, 149), (132, 133, 134, 135), (177, 178, 179, 180), (161, 162, 163, 164), (119, 120, 121, 122), (107, 108, 109, 110), (47, 48, 49, 50), (51, 52, 53, 54), (56, 57, 58, 59), (62, 63, 64, 65), (69, 70, 71, 72), (77, 78, 79, 80), (194, 195, 196, 197), (96, 97, 98, 99), (86, 87, 88, 89)]
def okCX (i : Nat) : Bool := match CX[i]? with
  | some (a, b, c, d) => decide (FN[a]? = some (.exactly (tmK (4 + i)) "BalloonPost$Command")) && decide (FN[b]? = some (.eq (.field (tmK (4 + i)) "java/lang/Enum" "ordinal" "I") (.int (i32 ((i : Nat) : Int))))) && decide (FN[c]? = some (.eq (.field (tmK (4 + i)) "BalloonPost$Command" "word" "Ljava/lang/String;") (tmK (cwdA i)))) && decide (FN[d]? = some (.eq (.field (tmK (4 + i)) "BalloonPost$Command" "parameters" "Ljava/lang/String;") (tmK (cprA i)))) && Nat.blt (cwdA i) 80 && Nat.blt (cprA i) 80 && Nat.ble 19 (cwdA i) && Nat.ble 19 (cprA i)
  | none => false
theorem okCX_all : (List.range 15).all okCX = true := by decide +kernel
theorem f_comA : FN[9]? = some (.arrayOf (tmK 2) (.object "BalloonPost$Command")) := by decide +kernel
theorem f_comL : FN[10]? = some (.eq (.length (tmK 2)) (.int (i3 15))) := by decide +kernel
theorem f_comE : (FN.drop 12).take 15 = (List.range 15).map (fun k => .eq (.elem (tmK 2) (.int (i3 k))) (tmK (4 + k))) := by decide +kernel
theorem f_swA : FN[28]? = some (.arrayOf (tmK 3) .int) := by decide +kernel
theorem f_swL : FN[29]? = some (.eq (.length (tmK 3)) (.int (i3 15))) := by decide +kernel
theorem f_swE : (FN.drop 30).take 15 = (List.range 15).map (fun k => .eq (.elem (tmK 3) (.int (i3 k))) (.int (i32 (swmA k)))) := by decide +kernel
theorem f_cs : FN[2]? = some (.eq (.static "java/lang/String" "COMPACT_STRINGS" "Z") (.int 1)) := by decide +kernel
theorem f_pf : FN[3]? = some (.isRef (tmK 1)) := by decide +kernel
theorem f_us : FN[45]? = some (.isRef (.static Bundle.tN "UNASSIGNED_STACK" Bundle.steD)) := by decide +kernel
theorem f_ss : FN[46]? = some (.isRef (.static Bundle.tN "SUPPRESSED_SENTINEL" Bundle.listD)) := by decide +kernel
def ZLP : List (Nat × Nat) := [(312, 16), (438, 6), (460, 19), (1034, 28), (1028, 28), (1049, 28), (1040, 28), (1022, 28), (1016, 28), (854, 28), (900, 28), (911, 28), (917, 28), (923, 28), (956, 28), (1185, 28), (1009, 28), (966, 28)]
theorem f_zl : (List.range 18).all (fun i => match ZL[i]?, ZLP[i]? with
  | some z, some q => decide (lw_tbl[q.1]? = some (.laysStatic z.2.1 z.2.2.1 z.2.2.2)) && decide (lw_tbl[q.2]? = some (.initialized z.2.1)) && Nat.beq z.1 (i + 1)
  | _, _ => false) = true := by decide +kernel
theorem f_csl : lw_tbl[296]? = some (.laysStatic "java/lang/String" "COMPACT_STRINGS" "Z") ∧ lw_tbl[14]? = some (.initialized "java/lang/String") := by decide +kernel
theorem f_usl : lw_tbl[798]? = some (.laysStatic Bundle.tN "UNASSIGNED_STACK" Bundle.steD) ∧ lw_tbl[23]? = some (.initialized Bundle.tN) ∧ lw_tbl[800]? = some (.laysStatic Bundle.tN "SUPPRESSED_SENTINEL" Bundle.listD) := by decide +kernel
def SRP : List Nat := [428, 379, 453, 454, 282, 1014, 1001, 1159, 990, 852, 813, 948, 869, 428, 428, 454, 453, 1206, 1204, 1209, 1207, 1202, 1200, 1186, 1188, 1190, 1192, 1193, 1194, 1211, 1198, 1196, 428, 379, 1206, 1205, 1204, 1209, 1210, 1207, 1208, 1202, 1203, 1200, 1201, 1186, 1187, 1188, 1189, 1190, 1191, 1192, 1193, 1194, 1195, 1211, 1212, 1198, 1199, 1196, 1197]
theorem f_sr : (List.range 61).all (fun i => match SRL[i]?, SRP[i]? with
  | some z, some q => decide (lw_tbl[q]? = some (.stringRef z.1 z.2.1 z.2.2.1)) && Nat.beq z.2.2.2 (19 + i)
  | _, _ => false) = true := by decide +kernel
theorem f_ao : lw_tbl[201]? = some (.arrayOver (.object "BalloonPost$World")) := by decide +kernel
theorem fn_at {L : List Cond} {i k n : Nat} {f : Nat → Cond} (h : (FN.drop i).take n = (List.range n).map f) (hk : k < n) : f k ∈ FN := by
  have h1 : ((FN.drop i).take n)[k]? = some (f k) := by rw [h]; simp [hk]
  rw [List.getElem?_take, if_pos hk, List.getElem?_drop] at h1
  exact List.mem_of_getElem? h1
section EN
variable {args : Array Value} {s : State}
def kvE (args : Array Value) (s : State) (j : Nat) : Value := if j < 141 then ((tmK j).eval args s none [] s).getD .null else .null
theorem kvE_of {j : Nat} (hj : j < 141) {v : Value} (h : (tmK j).eval args s none [] s = some v) : kvE args s j = v := by
  rw [kvE, if_pos hj, h]
  rfl
theorem zl_at {z : Nat × String × String × String} (hz : z ∈ ZL) : ∃ i, i < 18 ∧ ZL[i]? = some z ∧ z.1 = i + 1 := by
  obtain ⟨i, hi⟩ := List.getElem?_of_mem hz
  have hl : i < 18 := by
    have := (List.getElem?_eq_some_iff.mp hi).1
    exact this
  have h1 := List.all_eq_true.mp f_zl i (List.mem_range.mpr hl)
  rw [hi] at h1
  split at h1
  · rename_i z9 q9 e1 e2
    cases e1
    simp only [Bool.and_eq_true] at h1
    exact ⟨i, hl, hi, bq h1.2⟩
  · cases h1
theorem sr_at {z : String × Nat × String × Nat} (hz : z ∈ SRL) : ∃ (i q : Nat), i < 61 ∧ SRL[i]? = some z ∧ z.2.2.2 = 19 + i ∧ lw_tbl[q]? = some (.stringRef z.1 z.2.1 z.2.2.1) := by
  obtain ⟨i, hi⟩ := List.getElem?_of_mem hz
  have hl : i < 61 := (List.getElem?_eq_some_iff.mp hi).1
  have h1 := List.all_eq_true.mp f_sr i (List.mem_range.mpr hl)
  rw [hi] at h1
  split at h1
  · rename_i z9 q9 e1 e2
    cases e1
    simp only [Bool.and_eq_true, decide_eq_true_eq] at h1
    exact ⟨i, q9, hl, hi, bq h1.2, h1.1⟩
  · cases h1
/-- the places of the facts about the text number i -/
theorem st_at {i : Nat} (h : i < 61) : (.exactly (tmK (19 + i)) "java/lang/String") ∈ FN ∧ (.eq (.field (tmK (19 + i)) "java/lang/String" "coder" "B") (.int 0)) ∈ FN ∧ (.arrayOf (tmK (80 + i)) .byte) ∈ FN ∧ (.eq (.length (tmK (80 + i))) (.int (i3 (txtA i).length))) ∈ FN ∧ (∀ k, k < (txtA i).length → (.eq (.elem (tmK (80 + i)) (.int (i3 k))) (.int (i32 ((txtA i).getD k 0)))) ∈ FN) ∧ (txtA i).length < 65536 := by
  have h0 := okST_all h
  unfold okST at h0
  split at h0
  · simp only [Bool.and_eq_true, decide_eq_true_eq] at h0
    obtain ⟨⟨⟨⟨⟨a1, a2⟩, a3⟩, a4⟩, a5⟩, a6⟩ := h0
    exact ⟨List.mem_of_getElem? a1, List.mem_of_getElem? a2, List.mem_of_getElem? a3, List.mem_of_getElem? a4, fun k hk => fn_at (L := []) (f := fun k => .eq (.elem (tmK (80 + i)) (.int (i3 k))) (.int (i32 ((txtA i).getD k 0)))) a5 hk, Nat.le_of_ble_eq_true a6⟩
  · cases h0
theorem cx_at {i : Nat} (h : i < 15) : (.exactly (tmK (4 + i)) "BalloonPost$Command") ∈ FN ∧ (.eq (.field (tmK (4 + i)) "java/lang/Enum" "ordinal" "I") (.int (i32 ((i : Nat) : Int)))) ∈ FN ∧ (.eq (.field (tmK (4 + i)) "BalloonPost$Command" "word" "Ljava/lang/String;") (tmK (cwdA i))) ∈ FN ∧ (.eq (.field (tmK (4 + i)) "BalloonPost$Command" "parameters" "Ljava/lang/String;") (tmK (cprA i))) ∈ FN ∧ (19 ≤ cwdA i ∧ cwdA i < 80) ∧ (19 ≤ cprA i ∧ cprA i < 80) := by
  have h0 := List.all_eq_true.mp okCX_all i (List.mem_range.mpr h)
  unfold okCX at h0
  split at h0
  · simp only [Bool.and_eq_true, decide_eq_true_eq] at h0
    obtain ⟨⟨⟨⟨⟨⟨⟨a1, a2⟩, a3⟩, a4⟩, a5⟩, a6⟩, a7⟩, a8⟩ := h0
    exact ⟨List.mem_of_getElem? a1, List.mem_of_getElem? a2, List.mem_of_getElem? a3, List.mem_of_getElem? a4, ⟨Nat.le_of_ble_eq_true a7, Nat.le_of_ble_eq_true a5⟩, ⟨Nat.le_of_ble_eq_true a8, Nat.le_of_ble_eq_true a6⟩⟩
  · cases h0
theorem tm_str {i : Nat} (h : i < 61) : tmK (19 + i) = tmS i ∧ tmK (80 + i) = .field (tmK (19 + i)) "java/lang/String" "value" "[B" := by
  have e1 : tmK (19 + i) = tmS i := by
    unfold tmK
    rw [if_neg (by omega), if_neg (by omega), if_pos (by omega), show 19 + i - 19 = i by omega]
  refine ⟨e1, ?_⟩
  rw [e1]
  show (if 80 + i = 0 then _ else if 80 + i < 19 then _ else if 80 + i < 80 then _ else _) = _
  rw [if_neg (by omega), if_neg (by omega), if_neg (by omega), show 80 + i - 80 = i by omega]
theorem exa_ref {t : Term} {C : String} (h : (Cond.exactly t C).before args s = true) : ∃ q, t.eval args s none [] s = some (.ref q) := by
  obtain ⟨a2, c, cA, kA, q1, -⟩ := Cond.exactly_spec (args := args) (first := s) (o := none) (s := s) (idx := []) (t := t) (cls := C) h
  exact ⟨a2, q1⟩
/-- every constant is a reference -/
theorem kv_ref (hF : ∀ w ∈ FN, w.before args s = true) {b : Nat} (h0 : args[0]? = some (.ref b)) {j : Nat} (hj : j < 141) (h1 : j ≠ 1) : ∃ q, (tmK j).eval args s none [] s = some (.ref q) ∧ kvE args s j = .ref q := by
  have key : ∃ q, (tmK j).eval args s none [] s = some (.ref q) := by
    by_cases e0 : j = 0
    · subst e0
      exact ⟨b, h0⟩
    · by_cases e2 : j = 2
      · subst e2
        obtain ⟨t, ht, -⟩ := va_Tof (N := 15) (A := fun q => s.heap.size ≤ q) (f := fun k => ((Term.elem (tmK 2) (.int (Int32.ofNat k))).eval args s none [] s).getD .null) (by decide) (hF _ (List.mem_of_getElem? f_comA)) (va_eqt (hF _ (List.mem_of_getElem? f_comL))) (fun k hk => by
          have hw : (Cond.eq (.elem (tmK 2) (.int (i3 k))) (tmK (4 + k))) ∈ FN := fn_at (L := []) (f := fun k => .eq (.elem (tmK 2) (.int (i3 k))) (tmK (4 + k))) f_comE hk
          obtain ⟨q, hq⟩ := exa_ref (hF _ (cx_at hk).1)
          have := va_eqv (hF _ hw) hq
          have h9 : (Term.elem (tmK 2) (.int (Int32.ofNat k))).eval args s none [] s = some (.ref q) := this
          rw [h9]
          rfl) (fun a ha => Nat.not_le.mpr ha)
        exact ⟨t, ht⟩
      · by_cases e3 : j = 3
        · subst e3
          obtain ⟨t, ht, -⟩ := va_Tof (N := 15) (A := fun q => s.heap.size ≤ q) (f := fun k => .int (i32 (swmA k))) (by decide) (hF _ (List.mem_of_getElem? f_swA)) (va_eqt (hF _ (List.mem_of_getElem? f_swL))) (fun k hk => va_eqt (hF _ (fn_at (L := []) (f := fun k => .eq (.elem (tmK 3) (.int (i3 k))) (.int (i32 (swmA k)))) f_swE hk))) (fun a ha => Nat.not_le.mpr ha)
          exact ⟨t, ht⟩
        · by_cases e4 : j < 19
          · have := exa_ref (hF _ (cx_at (i := j - 4) (by omega)).1)
            rw [show 4 + (j - 4) = j by omega] at this
            exact this
          · by_cases e5 : j < 80
            · have := exa_ref (hF _ (st_at (i := j - 19) (by omega)).1)
              rw [show 19 + (j - 19) = j by omega] at this
              exact this
            · obtain ⟨-, -, a3, a4, a5, a6⟩ := st_at (i := j - 80) (by omega)
              rw [show 80 + (j - 80) = j by omega] at a3 a4 a5
              obtain ⟨t, ht, -⟩ := va_Tof (N := (txtA (j - 80)).length) (A := fun q => s.heap.size ≤ q) (f := fun k => .int (i32 ((txtA (j - 80)).getD k 0))) (by omega) (hF _ a3) (va_eqt (hF _ a4)) (fun k hk => va_eqt (hF _ (a5 k hk))) (fun a ha => Nat.not_le.mpr ha)
              exact ⟨t, ht⟩
  obtain ⟨q, hq⟩ := key
  exact ⟨q, hq, kvE_of hj hq⟩
theorem kv_one (hF : ∀ w ∈ FN, w.before args s = true) : ∃ v, (tmK 1).eval args s none [] s = some v ∧ v.isRef = true ∧ kvE args s 1 = v := by
  obtain ⟨v, h1, h2⟩ := Cond.isRef_spec (hF _ (List.mem_of_getElem? f_pf))
  exact ⟨v, h1, h2, kvE_of (by decide) h1⟩
theorem isRef_or {v : Value} (h : v.isRef = true) : v = .null ∨ ∃ t, v = .ref t := by
  cases v <;> first | exact Or.inl rfl | exact Or.inr ⟨_, rfl⟩ | (simp [Value.isRef] at h)
theorem kv_all (hF : ∀ w ∈ FN, w.before args s = true) {b : Nat} (h0 : args[0]? = some (.ref b)) (j : Nat) : kvE args s j = .null ∨ ∃ t, kvE args s j = .ref t := by
  by_cases hj : j < 141
  · by_cases h1 : j = 1
    · subst h1
      obtain ⟨v, -, h2, h3⟩ := kv_one hF
      rw [h3]
      exact isRef_or h2
    · obtain ⟨q, -, h3⟩ := kv_ref hF h0 hj h1
      exact Or.inr ⟨q, h3⟩
  · left
    rw [kvE, if_neg hj]
theorem ent_CF (hF : ∀ w ∈ FN, w.before args s = true) (ht : ∀ w ∈ lw_tbl, w.before args s = true) {b n : Nat} {xs : Nat → Int32} (h0 : args[0]? = some (.ref b)) (hX : va_X b n xs s s.heap) (hb : b < s.heap.size) : CF (fun q => s.heap.size ≤ q) (kvE args s) (n, fun j => (xs j).toInt) s := by
  have hA : ∀ a : Nat, a < s.heap.size → ¬ (fun q => s.heap.size ≤ q) a := fun a ha => Nat.not_le.mpr ha
  have hkr : ∀ {j : Nat}, j < 141 → j ≠ 1 → ∃ q, (tmK j).eval args s none [] s = some (.ref q) ∧ kvE args s j = .ref q := fun hj h1 => kv_ref hF h0 hj h1
  refine ⟨⟨b, kvE_of (by decide) h0, ?_, hb, hA b hb⟩, ?_, ?_, ?_, ?_, ?_, ?_, ?_, ?_⟩
  · have e : (fun j => i32 (((n, fun j => (xs j).toInt) : Nat × (Nat → Int)).2 j)) = xs := by
      funext j
      exact i32_to _
    rw [e]
    exact hX
  · intro j t m f hc
    unfold ca_ at hc
    split at hc
    · rename_i e
      subst e
      cases hc
      obtain ⟨q, q1, q2⟩ := hkr (j := 2) (by decide) (by decide)
      obtain ⟨q9, p1, p2⟩ := va_Tof (N := 15) (A := fun q => s.heap.size ≤ q) (f := fun k => kvE args s (4 + k)) (by decide) (hF _ (List.mem_of_getElem? f_comA)) (va_eqt (hF _ (List.mem_of_getElem? f_comL))) (fun k hk => by
          have hw : (Cond.eq (.elem (tmK 2) (.int (i3 k))) (tmK (4 + k))) ∈ FN := fn_at (L := []) (f := fun k => .eq (.elem (tmK 2) (.int (i3 k))) (tmK (4 + k))) f_comE hk
          obtain ⟨r, r1, r2⟩ := hkr (j := 4 + k) (by omega) (by omega)
          rw [r2]
          exact va_eqv (hF _ hw) r1) hA
      cases p1.symm.trans q1
      exact ⟨_, q2, p2⟩
    · split at hc
      · rename_i e
        subst e
        cases hc
        obtain ⟨q, q1, q2⟩ := hkr (j := 3) (by decide) (by decide)
        obtain ⟨q9, p1, p2⟩ := va_Tof (N := 15) (A := fun q => s.heap.size ≤ q) (f := fun k => .int (i32 (swmA k))) (by decide) (hF _ (List.mem_of_getElem? f_swA)) (va_eqt (hF _ (List.mem_of_getElem? f_swL))) (fun k hk => va_eqt (hF _ (fn_at (L := []) (f := fun k => .eq (.elem (tmK 3) (.int (i3 k))) (.int (i32 (swmA k)))) f_swE hk))) hA
        cases p1.symm.trans q1
        exact ⟨_, q2, p2⟩
      · split at hc
        · rename_i e
          cases hc
          obtain ⟨q, q1, q2⟩ := hkr (j := j) e.2 (by omega)
          obtain ⟨-, -, a3, a4, a5, a6⟩ := st_at (i := j - 80) (by omega)
          rw [show 80 + (j - 80) = j by omega] at a3 a4 a5
          obtain ⟨q9, p1, p2⟩ := va_Tof (N := (txtA (j - 80)).length) (A := fun q => s.heap.size ≤ q) (f := fun k => .int (i32 ((txtA (j - 80)).getD k 0))) (by omega) (hF _ a3) (va_eqt (hF _ a4)) (fun k hk => va_eqt (hF _ (a5 k hk))) hA
          cases p1.symm.trans q1
          exact ⟨_, q2, p2⟩
        · cases hc
  · intro key j v hv
    unfold cf_ at hv
    split at hv
    · split at hv
      · rename_i e
        cases hv
        obtain ⟨q, q1, q2⟩ := hkr (j := j) (by omega) (by omega)
        obtain ⟨r, r1, r2⟩ := hkr (j := j + 61) (by omega) (by omega)
        have e9 := (tm_str (i := j - 19) (by omega)).2
        rw [show 80 + (j - 19) = j + 61 by omega, show 19 + (j - 19) = j by omega] at e9
        rw [e9] at r1
        refine ⟨q, q2, ?_⟩
        show va_OF "java/lang/String" "value" "[B" (kvE args s (j + 61)) q _ s s.heap
        rw [r2]
        exact vk_OFof q1 r1 hA
      · cases hv
    · split at hv
      · rename_i e
        cases hv
        obtain ⟨q, q1, q2⟩ := hkr (j := j) (by omega) (by omega)
        have a2 := (st_at (i := j - 19) (by omega)).2.1
        rw [show 19 + (j - 19) = j by omega] at a2
        exact ⟨q, q2, vk_OFof q1 (va_eqt (hF _ a2)) hA⟩
      · cases hv
    · split at hv
      · rename_i e
        cases hv
        obtain ⟨q, q1, q2⟩ := hkr (j := j) (by omega) (by omega)
        obtain ⟨-, -, a3, -, a5, -⟩ := cx_at (i := j - 4) (by omega)
        rw [show 4 + (j - 4) = j by omega] at a3
        obtain ⟨r, r1, r2⟩ := hkr (j := cwdA (j - 4)) (by omega) (by omega)
        refine ⟨q, q2, ?_⟩
        show va_OF "BalloonPost$Command" "word" "Ljava/lang/String;" (kvE args s (cwdA (j - 4))) q _ s s.heap
        rw [r2]
        exact vk_OFof q1 (va_eqv (hF _ a3) r1) hA
      · cases hv
    · split at hv
      · rename_i e
        cases hv
        obtain ⟨q, q1, q2⟩ := hkr (j := j) (by omega) (by omega)
        obtain ⟨-, -, -, a4, -, a6⟩ := cx_at (i := j - 4) (by omega)
        rw [show 4 + (j - 4) = j by omega] at a4
        obtain ⟨r, r1, r2⟩ := hkr (j := cprA (j - 4)) (by omega) (by omega)
        refine ⟨q, q2, ?_⟩
        show va_OF "BalloonPost$Command" "parameters" "Ljava/lang/String;" (kvE args s (cprA (j - 4))) q _ s s.heap
        rw [r2]
        exact vk_OFof q1 (va_eqv (hF _ a4) r1) hA
      · cases hv
    · split at hv
      · rename_i e
        cases hv
        obtain ⟨q, q1, q2⟩ := hkr (j := j) (by omega) (by omega)
        have a2 := (cx_at (i := j - 4) (by omega)).2.1
        rw [show 4 + (j - 4) = j by omega] at a2
        exact ⟨q, q2, vk_OFof q1 (va_eqt (hF _ a2)) hA⟩
      · cases hv
    · cases hv
  · intro j h4 h8
    obtain ⟨q, q1, q2⟩ := hkr (j := j) (by omega) (by omega)
    refine ⟨q, q2, ?_⟩
    by_cases e : j < 19
    · rw [if_pos e]
      have a1 := (cx_at (i := j - 4) (by omega)).1
      rw [show 4 + (j - 4) = j by omega] at a1
      exact va_Oof (hF _ a1) q1 hA
    · rw [if_neg e]
      have a1 := (st_at (i := j - 19) (by omega)).1
      rw [show 19 + (j - 19) = j by omega] at a1
      exact va_Oof (hF _ a1) q1 hA
  · intro z hz
    obtain ⟨i, hi, h1, h2⟩ := zl_at hz
    have h3 := List.all_eq_true.mp f_zl i (List.mem_range.mpr hi)
    rw [h1] at h3
    split at h3
    · rename_i z9 q9 e1 e2
      cases e1
      simp only [Bool.and_eq_true, decide_eq_true_eq] at h3
      have e9 : tmK z.1 = .static z.2.1 z.2.2.1 z.2.2.2 := by
        unfold tmK
        rw [if_neg (by omega), if_pos (by omega), h2, show i + 1 - 1 = i by omega]
        unfold tmZ
        rw [h1]
      have hv : (tmK z.1).eval args s none [] s = some (kvE args s z.1) := by
        by_cases e : z.1 = 1
        · obtain ⟨v, v1, -, v3⟩ := kv_one hF
          rw [e, v3]
          exact v1
        · obtain ⟨q, q1, q2⟩ := hkr (j := z.1) (by omega) e
          rw [q2]
          exact q1
      rw [e9] at hv
      exact va_Zof (ht _ (List.mem_of_getElem? h3.1.1)) (ht _ (List.mem_of_getElem? h3.1.2)) hv hA
    · cases h3
  · exact va_Zof (ht _ (List.mem_of_getElem? f_csl.1)) (ht _ (List.mem_of_getElem? f_csl.2)) (va_eqi (hF _ (List.mem_of_getElem? f_cs))) hA
  · intro z hz
    obtain ⟨i, q9, hi, h1, h2, h3⟩ := sr_at hz
    obtain ⟨q, q1, q2⟩ := hkr (j := z.2.2.2) (by omega) (by omega)
    refine ⟨q, q2, vk_R.of (ht _ (List.mem_of_getElem? h3)) ?_⟩
    have e9 := (tm_str hi).1
    rw [h2, e9] at q1
    unfold tmS at q1
    rw [h1] at q1
    exact q1
  · exact vx_Zqof (ht _ (List.mem_of_getElem? f_usl.1)) (ht _ (List.mem_of_getElem? f_usl.2.1)) (hF _ (List.mem_of_getElem? f_us)) hA
  · exact vx_Zqof (ht _ (List.mem_of_getElem? f_usl.2.2)) (ht _ (List.mem_of_getElem? f_usl.2.1)) (hF _ (List.mem_of_getElem? f_ss)) hA
theorem ent_NF (hF : ∀ w ∈ FN, w.before args s = true) (ht : ∀ w ∈ lw_tbl, w.before args s = true) : NF s := by
  refine ⟨fun w hw => ?_, va_AO.of (ht _ (List.mem_of_getElem? f_ao))⟩
  · obtain ⟨h1, h2⟩ := List.mem_filter.mp hw
    refine va_Nw.of ?_ (ht w h1)
    cases w with
    | fieldLinkNest a i b n d h => rfl
    | methodLinkNest a i x h => rfl
    | declares x => rfl
    | castable a b => rfl
    | _ => simp [nk] at h2

theorem ent_arr {ty : FieldType} (h : (Cond.arrayClass ty).before args s = true) (hp : ∀ C, ty ≠ .object C) : ∃ c : ClassId, ArrOfT s c ty ∧ va_RA s c ty := by
  obtain ⟨c, k, comp, h1, h2, h3⟩ := Cond.arrayClass_spec h
  refine ⟨c, fun N z => ⟨(fun k h => by cases h), k, h2, comp, h3⟩, ?_⟩
  cases ty with
  | object C => exact absurd rfl (hp C)
  | _ => exact h1
theorem ent_arrO {C : String} (h : (Cond.arrayOver (.object C)).before args s = true) : ∃ c : ClassId, ArrOfT s c (.object C) ∧ va_RA s c (.object C) := by
  obtain ⟨comp, c, k, h1, -, h2, h3, h4⟩ := Cond.arrayOver_spec h
  exact ⟨c, fun N z => ⟨(fun k h => by cases h), k, h2, comp, h3⟩, k, comp, h2, h3, h1, h4⟩
theorem ent_K (ht : ∀ w ∈ lw_tbl, w.before args s = true) : ∃ (D : va_G) (cA : Nat → ClassId), va_K D clA (tysA cA) s := by
  have hts : ∀ w ∈ WL, w.before args s = true := fun w hw => ht w (WL_tbl hw).1
  have hk : ∀ ci, ci < 9 → ∃ (cC : ClassId) (iS : Nat → Nat), u_Kn s (cn ci) (FTA ci) (ftyA ci).length cC iS := by
    intro ci h9
    obtain ⟨hws, hin1, -⟩ := w_lays ci h9
    exact u_known hts (fun w hw => by obtain ⟨k, hk, rfl⟩ := List.mem_map.mp hw; exact (hws k (List.mem_range.mp hk)).1) (WLw hts _ hin1 rfl)
  have hk2 : ∀ ci, ∃ (q : ClassId × (Nat → Nat)), ci < 9 → u_Kn s (cn ci) (FTA ci) (ftyA ci).length q.1 q.2 := by
    intro ci
    by_cases h9 : ci < 9
    · obtain ⟨a, b, h⟩ := hk ci h9
      exact ⟨(a, b), fun _ => h⟩
    · exact ⟨(0, fun _ => 0), fun h => absurd h h9⟩
  obtain ⟨g, hg⟩ := Classical.skolem.mp hk2
  obtain ⟨c0, a0⟩ := ent_arr (WLw hts _ w_ac0 rfl) (fun C h => by cases h)
  obtain ⟨c1, a1⟩ := ent_arr (WLw hts _ w_ac1 rfl) (fun C h => by cases h)
  obtain ⟨c4, a4⟩ := ent_arrO (ht _ (List.mem_of_getElem? f_ao))
  refine ⟨(fun c => (g c).1, fun c => (g c).2), fun k => if k = 0 then c0 else if k = 1 then c1 else if k = 2 then c0 else if k = 3 then c0 else c4, fun c q hq => ?_, fun k q hq => ?_⟩
  · have h9 : c < 9 := (List.getElem?_eq_some_iff.mp hq).1
    rw [clA_at c h9] at hq
    cases hq
    exact hg c h9
  · match k, hq with
    | 0, hq => cases hq; exact a0
    | 1, hq => cases hq; exact a1
    | 2, hq => cases hq; exact a0
    | 3, hq => cases hq; exact a0
    | 4, hq => cases hq; exact a4
    | k + 5, hq => simp at hq
end EN
/-- WHAT IS LEFT: the abstract machine's run of the law on every script -/
def Pure : Prop := ∀ (n : Nat) (f : Nat → Int), n ≤ 260 → (∀ j, -2147483648 ≤ f j ∧ f j < 2147483648) → ∃ d h', d ≤ 10 ∧ Calls ca_ cf_ ocl (d + 1) 387 [aC 0] ((n, f), 0, fun _ => dead) (.inl (some (aI 1)), h')
theorem start_of_pure (hpure : Pure) {p : Program} {e : Env} {s : State} {m : MethodId} {below : List Frame} {meth : Method} {c : Code} (l : Launch) (hflags : l.flags = flags0) {b L : Nat} {xs : Nat → Int32} (hL : L ≤ 260) (C0 : lw_At p s m meth c b L xs) : W p l e room_1 s m #[Value.ref b] below meth c s.heap [] 0 0 (lw_Z below #[Value.ref b] s) (entryFrame m ([Value.ref b] : List Value).toArray 8) := by
  obtain ⟨d, h', hd, hC⟩ := hpure L (fun j => (xs j).toInt) hL (fun j => by
    have h1 := Int32.le_toInt (xs j)
    have h2 := Int32.toInt_lt (xs j)
    constructor
    · simpa using h1
    · simpa using h2)
  obtain ⟨hx, hb, hr, hml, hown, htbl, hX, hbl, hlocks, hgv⟩ := id C0
  have hF : ∀ w ∈ FN, w.before #[Value.ref b] s = true := fun w hw => flat_of_before _ hgv w (List.mem_append_right _ hw)
  have h0 : (#[Value.ref b] : Array Value)[0]? = some (.ref b) := rfl
  obtain ⟨D, cA, hK⟩ := ent_K htbl
  exact law_walk C0 (kv_all hF h0) (kvE_of (by decide) h0) hK (ent_CF hF htbl h0 hX hbl) (ent_NF hF htbl) hd hC
