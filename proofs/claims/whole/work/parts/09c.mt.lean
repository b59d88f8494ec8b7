def mtG80 : List (Nat × Nat) := [(311, 0), (312, 0), (313, 0), (314, 0)]
theorem mt_80 : mtG80.all chk = true := by decide +kernel
def mtG81 : List (Nat × Nat) := [(315, 0), (316, 0), (317, 0)]
theorem mt_81 : mtG81.all chk = true := by decide +kernel
def mtG82 : List (Nat × Nat) := [(318, 0), (319, 0), (320, 0), (321, 0), (322, 0)]
theorem mt_82 : mtG82.all chk = true := by decide +kernel
def mtG83 : List (Nat × Nat) := [(323, 0), (324, 0)]
theorem mt_83 : mtG83.all chk = true := by decide +kernel
def mtG84 : List (Nat × Nat) := [(325, 0), (326, 0)]
theorem mt_84 : mtG84.all chk = true := by decide +kernel
def mtG85 : List (Nat × Nat) := [(327, 0), (328, 0), (329, 0), (330, 0), (331, 0)]
theorem mt_85 : mtG85.all chk = true := by decide +kernel
def mtG86 : List (Nat × Nat) := [(332, 0), (333, 0), (334, 0), (335, 0), (336, 0), (337, 0)]
theorem mt_86 : mtG86.all chk = true := by decide +kernel
def mtG87 : List (Nat × Nat) := [(338, 0), (339, 0), (340, 0), (341, 0), (342, 0), (343, 0)]
theorem mt_87 : mtG87.all chk = true := by decide +kernel
def mtG88 : List (Nat × Nat) := [(344, 0), (345, 0), (346, 0), (347, 0), (348, 0), (349, 0), (350, 0)]
theorem mt_88 : mtG88.all chk = true := by decide +kernel
def mtG89 : List (Nat × Nat) := [(351, 0), (352, 0), (353, 0), (354, 0), (355, 0), (356, 0), (357, 0), (358, 0)]
theorem mt_89 : mtG89.all chk = true := by decide +kernel
def mtG90 : List (Nat × Nat) := [(359, 0), (360, 0), (361, 0), (362, 0), (363, 0), (364, 0), (365, 0), (366, 0)]
theorem mt_90 : mtG90.all chk = true := by decide +kernel
def mtG91 : List (Nat × Nat) := [(367, 0), (368, 0), (369, 0), (370, 0), (371, 0), (372, 0), (373, 0), (374, 0)]
theorem mt_91 : mtG91.all chk = true := by decide +kernel
def mtG92 : List (Nat × Nat) := [(375, 0), (376, 0), (377, 0), (378, 0), (379, 0), (380, 0), (381, 0), (382, 0)]
theorem mt_92 : mtG92.all chk = true := by decide +kernel
def mtG93 : List (Nat × Nat) := [(383, 0), (384, 0), (385, 0), (386, 0), (387, 0)]
theorem mt_93 : mtG93.all chk = true := by decide +kernel
def mtG94 : List (Nat × Nat) := [(387, 1)]
theorem mt_94 : mtG94.all chk = true := by decide +kernel
def mtG95 : List (Nat × Nat) := [(387, 2)]
theorem mt_95 : mtG95.all chk = true := by decide +kernel
def mtG96 : List (Nat × Nat) := [(387, 3)]
theorem mt_96 : mtG96.all chk = true := by decide +kernel
def mtG97 : List (Nat × Nat) := [(387, 4)]
theorem mt_97 : mtG97.all chk = true := by decide +kernel
def mtG98 : List (Nat × Nat) := [(387, 5)]
theorem mt_98 : mtG98.all chk = true := by decide +kernel
def mtG99 : List (Nat × Nat) := [(387, 6)]
theorem mt_99 : mtG99.all chk = true := by decide +kernel
def mtG100 : List (Nat × Nat) := [(387, 7)]
theorem mt_100 : mtG100.all chk = true := by decide +kernel
def mtG101 : List (Nat × Nat) := [(387, 8)]
theorem mt_101 : mtG101.all chk = true := by decide +kernel
def mtG102 : List (Nat × Nat) := [(387, 9)]
theorem mt_102 : mtG102.all chk = true := by decide +kernel
def mtG103 : List (Nat × Nat) := [(387, 10)]
theorem mt_103 : mtG103.all chk = true := by decide +kernel
def mtG104 : List (Nat × Nat) := [(387, 11)]
theorem mt_104 : mtG104.all chk = true := by decide +kernel
def mtG105 : List (Nat × Nat) := [(387, 12)]
theorem mt_105 : mtG105.all chk = true := by decide +kernel
def mtG : List (Nat × Nat) := mtG0 ++ (mtG1 ++ (mtG2 ++ (mtG3 ++ (mtG4 ++ (mtG5 ++ (mtG6 ++ (mtG7 ++ (mtG8 ++ (mtG9 ++ (mtG10 ++ (mtG11 ++ (mtG12 ++ (mtG13 ++ (mtG14 ++ (mtG15 ++ (mtG16 ++ (mtG17 ++ (mtG18 ++ (mtG19 ++ (mtG20 ++ (mtG21 ++ (mtG22 ++ (mtG23 ++ (mtG24 ++ (mtG25 ++ (mtG26 ++ (mtG27 ++ (mtG28 ++ (mtG29 ++ (mtG30 ++ (mtG31 ++ (mtG32 ++ (mtG33 ++ (mtG34 ++ (mtG35 ++ (mtG36 ++ (mtG37 ++ (mtG38 ++ (mtG39 ++ (mtG40 ++ (mtG41 ++ (mtG42 ++ (mtG43 ++ (mtG44 ++ (mtG45 ++ (mtG46 ++ (mtG47 ++ (mtG48 ++ (mtG49 ++ (mtG50 ++ (mtG51 ++ (mtG52 ++ (mtG53 ++ (mtG54 ++ (mtG55 ++ (mtG56 ++ (mtG57 ++ (mtG58 ++ (mtG59 ++ (mtG60 ++ (mtG61 ++ (mtG62 ++ (mtG63 ++ (mtG64 ++ (mtG65 ++ (mtG66 ++ (mtG67 ++ (mtG68 ++ (mtG69 ++ (mtG70 ++ (mtG71 ++ (mtG72 ++ (mtG73 ++ (mtG74 ++ (mtG75 ++ (mtG76 ++ (mtG77 ++ (mtG78 ++ (mtG79 ++ (mtG80 ++ (mtG81 ++ (mtG82 ++ (mtG83 ++ (mtG84 ++ (mtG85 ++ (mtG86 ++ (mtG87 ++ (mtG88 ++ (mtG89 ++ (mtG90 ++ (mtG91 ++ (mtG92 ++ (mtG93 ++ (mtG94 ++ (mtG95 ++ (mtG96 ++ (mtG97 ++ (mtG98 ++ (mtG99 ++ (mtG100 ++ (mtG101 ++ (mtG102 ++ (mtG103 ++ (mtG104 ++ (mtG105)))))))))))))))))))))))))))))))))))))))))))))))))))))))))))))))))))))))))))))))))))))))))))))))))))))))))
theorem mt_all : mtG.all chk = true := aA mt_0 (aA mt_1 (aA mt_2 (aA mt_3 (aA mt_4 (aA mt_5 (aA mt_6 (aA mt_7 (aA mt_8 (aA mt_9 (aA mt_10 (aA mt_11 (aA mt_12 (aA mt_13 (aA mt_14 (aA mt_15 (aA mt_16 (aA mt_17 (aA mt_18 (aA mt_19 (aA mt_20 (aA mt_21 (aA mt_22 (aA mt_23 (aA mt_24 (aA mt_25 (aA mt_26 (aA mt_27 (aA mt_28 (aA mt_29 (aA mt_30 (aA mt_31 (aA mt_32 (aA mt_33 (aA mt_34 (aA mt_35 (aA mt_36 (aA mt_37 (aA mt_38 (aA mt_39 (aA mt_40 (aA mt_41 (aA mt_42 (aA mt_43 (aA mt_44 (aA mt_45 (aA mt_46 (aA mt_47 (aA mt_48 (aA mt_49 (aA mt_50 (aA mt_51 (aA mt_52 (aA mt_53 (aA mt_54 (aA mt_55 (aA mt_56 (aA mt_57 (aA mt_58 (aA mt_59 (aA mt_60 (aA mt_61 (aA mt_62 (aA mt_63 (aA mt_64 (aA mt_65 (aA mt_66 (aA mt_67 (aA mt_68 (aA mt_69 (aA mt_70 (aA mt_71 (aA mt_72 (aA mt_73 (aA mt_74 (aA mt_75 (aA mt_76 (aA mt_77 (aA mt_78 (aA mt_79 (aA mt_80 (aA mt_81 (aA mt_82 (aA mt_83 (aA mt_84 (aA mt_85 (aA mt_86 (aA mt_87 (aA mt_88 (aA mt_89 (aA mt_90 (aA mt_91 (aA mt_92 (aA mt_93 (aA mt_94 (aA mt_95 (aA mt_96 (aA mt_97 (aA mt_98 (aA mt_99 (aA mt_100 (aA mt_101 (aA mt_102 (aA mt_103 (aA mt_104 (mt_105)))))))))))))))))))))))))))))))))))))))))))))))))))))))))))))))))))))))))))))))))))))))))))))))))))))))))
theorem mtG_has : (List.range 388).all (fun y => (List.range (mlst y / 256 + 1)).all (fun k => mtG.any (fun z => Nat.beq z.1 y && Nat.beq z.2 k))) = true := by decide +kernel
theorem mt_ok {y pc : Nat} {e : aE} (hy : y < 388) (h : code_ y pc = some e) : mtE y pc e = true := by
  have hl : pc ≤ mlst y := by
    unfold code_ at h
    cases hb : Nat.ble pc (mlst y)
    · rw [hb] at h
      cases h
    · exact Nat.le_of_ble_eq_true hb
  have h1 := List.all_eq_true.mp (List.all_eq_true.mp mtG_has y (List.mem_range.mpr hy)) (pc / 256) (List.mem_range.mpr (Nat.lt_succ_of_le (Nat.div_le_div_right hl)))
  obtain ⟨z, hz, h2⟩ := List.any_eq_true.mp h1
  simp only [Bool.and_eq_true] at h2
  have e1 := Nat.eq_of_beq_eq_true h2.1
  have e2 := Nat.eq_of_beq_eq_true h2.2
  have h3 := List.all_eq_true.mp (List.all_eq_true.mp mt_all z hz) (pc % 256) (List.mem_range.mpr (Nat.mod_lt _ (by decide)))
  rw [e1, e2, show 256 * (pc / 256) + pc % 256 = pc by omega, h] at h3
  exact h3
