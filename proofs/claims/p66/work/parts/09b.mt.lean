def mtG23 : List (Nat × Nat) := [(84, 0), (85, 0), (86, 0)]
theorem mt_23 : mtG23.all chk = true := by decide +kernel
def mtG24 : List (Nat × Nat) := [(87, 0), (88, 0), (89, 0), (90, 0), (91, 0), (92, 0)]
theorem mt_24 : mtG24.all chk = true := by decide +kernel
def mtG25 : List (Nat × Nat) := [(93, 0), (94, 0), (95, 0)]
theorem mt_25 : mtG25.all chk = true := by decide +kernel
def mtG26 : List (Nat × Nat) := [(96, 0), (97, 0)]
theorem mt_26 : mtG26.all chk = true := by decide +kernel
def mtG27 : List (Nat × Nat) := [(98, 0)]
theorem mt_27 : mtG27.all chk = true := by decide +kernel
def mtG28 : List (Nat × Nat) := [(99, 0), (100, 0)]
theorem mt_28 : mtG28.all chk = true := by decide +kernel
def mtG29 : List (Nat × Nat) := [(101, 0), (102, 0), (103, 0), (104, 0), (105, 0)]
theorem mt_29 : mtG29.all chk = true := by decide +kernel
def mtG30 : List (Nat × Nat) := [(106, 0), (107, 0), (108, 0), (109, 0), (110, 0), (111, 0), (112, 0), (113, 0), (114, 0), (115, 0), (116, 0), (117, 0)]
theorem mt_30 : mtG30.all chk = true := by decide +kernel
def mtG31 : List (Nat × Nat) := [(118, 0), (119, 0), (120, 0), (121, 0), (122, 0), (123, 0), (124, 0), (125, 0), (126, 0), (127, 0), (128, 0), (129, 0), (130, 0), (131, 0), (132, 0), (133, 0)]
theorem mt_31 : mtG31.all chk = true := by decide +kernel
def mtG32 : List (Nat × Nat) := [(134, 0), (135, 0), (136, 0), (137, 0), (138, 0), (139, 0), (140, 0)]
theorem mt_32 : mtG32.all chk = true := by decide +kernel
def mtG33 : List (Nat × Nat) := [(141, 0), (142, 0), (143, 0), (144, 0), (145, 0), (146, 0), (147, 0), (148, 0), (149, 0)]
theorem mt_33 : mtG33.all chk = true := by decide +kernel
def mtG34 : List (Nat × Nat) := [(150, 0), (151, 0), (152, 0), (153, 0), (154, 0), (155, 0), (156, 0), (157, 0), (158, 0), (159, 0), (160, 0), (161, 0), (162, 0)]
theorem mt_34 : mtG34.all chk = true := by decide +kernel
def mtG35 : List (Nat × Nat) := [(163, 0), (164, 0), (165, 0), (166, 0), (167, 0), (168, 0), (169, 0), (170, 0), (171, 0), (172, 0), (173, 0), (174, 0), (175, 0), (176, 0), (177, 0), (178, 0), (179, 0), (180, 0), (181, 0), (182, 0), (183, 0), (184, 0), (185, 0), (186, 0), (187, 0), (188, 0), (189, 0), (190, 0), (191, 0), (192, 0), (193, 0), (194, 0), (195, 0), (196, 0), (197, 0), (198, 0), (199, 0), (200, 0), (201, 0), (202, 0), (203, 0), (204, 0), (205, 0), (206, 0), (207, 0), (208, 0), (209, 0), (210, 0), (211, 0), (212, 0), (213, 0), (214, 0), (215, 0), (216, 0), (217, 0), (218, 0), (219, 0), (220, 0), (221, 0), (222, 0), (223, 0), (224, 0), (225, 0), (226, 0), (227, 0), (228, 0), (229, 0), (230, 0), (231, 0), (232, 0), (233, 0), (234, 0), (235, 0), (236, 0), (237, 0), (238, 0), (239, 0), (240, 0), (241, 0), (242, 0), (243, 0), (244, 0), (245, 0), (246, 0), (247, 0), (248, 0), (249, 0), (250, 0), (251, 0), (252, 0), (253, 0), (254, 0), (255, 0), (256, 0), (257, 0), (258, 0), (259, 0), (260, 0), (261, 0), (262, 0), (263, 0), (264, 0), (265, 0), (266, 0), (267, 0), (268, 0), (269, 0), (270, 0), (271, 0), (272, 0), (273, 0), (274, 0), (275, 0), (276, 0), (277, 0), (278, 0), (279, 0), (280, 0), (281, 0), (282, 0), (283, 0), (284, 0), (285, 0), (286, 0), (287, 0), (288, 0), (289, 0), (290, 0), (291, 0), (292, 0), (293, 0), (294, 0), (295, 0), (296, 0), (297, 0), (298, 0), (299, 0), (300, 0), (301, 0), (302, 0), (303, 0), (304, 0), (305, 0), (306, 0), (307, 0), (308, 0), (309, 0), (310, 0), (311, 0), (312, 0), (313, 0), (314, 0), (315, 0), (316, 0), (317, 0), (318, 0), (319, 0), (320, 0), (321, 0), (322, 0), (323, 0), (324, 0), (325, 0), (326, 0), (327, 0), (328, 0), (329, 0), (330, 0), (331, 0), (332, 0)]
theorem mt_35 : mtG35.all chk = true := by decide +kernel
def mtG36 : List (Nat × Nat) := [(333, 0)]
theorem mt_36 : mtG36.all chk = true := by decide +kernel
def mtG37 : List (Nat × Nat) := [(333, 1)]
theorem mt_37 : mtG37.all chk = true := by decide +kernel
def mtG38 : List (Nat × Nat) := [(334, 0)]
theorem mt_38 : mtG38.all chk = true := by decide +kernel
def mtG39 : List (Nat × Nat) := [(334, 1)]
theorem mt_39 : mtG39.all chk = true := by decide +kernel
def mtG40 : List (Nat × Nat) := [(334, 2)]
theorem mt_40 : mtG40.all chk = true := by decide +kernel
def mtG41 : List (Nat × Nat) := [(335, 0)]
theorem mt_41 : mtG41.all chk = true := by decide +kernel
def mtG42 : List (Nat × Nat) := [(336, 0), (337, 0), (338, 0), (339, 0), (340, 0), (341, 0), (342, 0), (343, 0), (344, 0), (345, 0), (346, 0), (347, 0), (348, 0), (349, 0), (350, 0), (351, 0), (352, 0), (353, 0), (354, 0), (355, 0), (356, 0), (357, 0), (358, 0), (359, 0), (360, 0), (361, 0), (362, 0), (363, 0), (364, 0), (365, 0), (366, 0), (367, 0), (368, 0), (369, 0), (370, 0), (371, 0), (372, 0), (373, 0), (374, 0), (375, 0), (376, 0)]
theorem mt_42 : mtG42.all chk = true := by decide +kernel
def mtG43 : List (Nat × Nat) := [(377, 0), (378, 0), (379, 0), (380, 0), (381, 0), (382, 0), (383, 0), (384, 0), (385, 0)]
theorem mt_43 : mtG43.all chk = true := by decide +kernel
def mtG44 : List (Nat × Nat) := [(386, 0)]
theorem mt_44 : mtG44.all chk = true := by decide +kernel
def mtG45 : List (Nat × Nat) := [(387, 0)]
theorem mt_45 : mtG45.all chk = true := by decide +kernel
def mtG : List (Nat × Nat) := mtG0 ++ (mtG1 ++ (mtG2 ++ (mtG3 ++ (mtG4 ++ (mtG5 ++ (mtG6 ++ (mtG7 ++ (mtG8 ++ (mtG9 ++ (mtG10 ++ (mtG11 ++ (mtG12 ++ (mtG13 ++ (mtG14 ++ (mtG15 ++ (mtG16 ++ (mtG17 ++ (mtG18 ++ (mtG19 ++ (mtG20 ++ (mtG21 ++ (mtG22 ++ (mtG23 ++ (mtG24 ++ (mtG25 ++ (mtG26 ++ (mtG27 ++ (mtG28 ++ (mtG29 ++ (mtG30 ++ (mtG31 ++ (mtG32 ++ (mtG33 ++ (mtG34 ++ (mtG35 ++ (mtG36 ++ (mtG37 ++ (mtG38 ++ (mtG39 ++ (mtG40 ++ (mtG41 ++ (mtG42 ++ (mtG43 ++ (mtG44 ++ (mtG45)))))))))))))))))))))))))))))))))))))))))))))
theorem mt_all : mtG.all chk = true := aA mt_0 (aA mt_1 (aA mt_2 (aA mt_3 (aA mt_4 (aA mt_5 (aA mt_6 (aA mt_7 (aA mt_8 (aA mt_9 (aA mt_10 (aA mt_11 (aA mt_12 (aA mt_13 (aA mt_14 (aA mt_15 (aA mt_16 (aA mt_17 (aA mt_18 (aA mt_19 (aA mt_20 (aA mt_21 (aA mt_22 (aA mt_23 (aA mt_24 (aA mt_25 (aA mt_26 (aA mt_27 (aA mt_28 (aA mt_29 (aA mt_30 (aA mt_31 (aA mt_32 (aA mt_33 (aA mt_34 (aA mt_35 (aA mt_36 (aA mt_37 (aA mt_38 (aA mt_39 (aA mt_40 (aA mt_41 (aA mt_42 (aA mt_43 (aA mt_44 (mt_45)))))))))))))))))))))))))))))))))))))))))))))
theorem mtG_has : (List.range 388).all (fun y => (List.range (mlst y / 256 + 1)).all (fun k => mtG.any (fun z => Nat.beq z.1 y && Nat.beq z.2 k))) = true := by decide +kernel
theorem mt_ok {y pc : Nat} {e : aE} (hy : y < 388) (h : code_ y pc = some e) : mtE y pc e = true := by
  have hl : pc ≤ mlst y := by
    unfold code_ at h
    cases hb : Nat.ble pc (mlst y)
    · rw [hb] at h
      cases h
    · exact Nat.le_of_ble_eq_true hb
  have h1 := List.all_eq_true.mp (List.all_eq_true.mp mtG_has y (List.mem_range.mpr (by omega))) (pc / 256) (List.mem_range.mpr (Nat.lt_succ_of_le (Nat.div_le_div_right hl)))
  obtain ⟨z, hz, h2⟩ := List.any_eq_true.mp h1
  simp only [Bool.and_eq_true] at h2
  have e1 := Nat.eq_of_beq_eq_true h2.1
  have e2 := Nat.eq_of_beq_eq_true h2.2
  have h3 := List.all_eq_true.mp (List.all_eq_true.mp mt_all z hz) (pc % 256) (List.mem_range.mpr (Nat.mod_lt _ (by decide)))
  rw [e1, e2, show 256 * (pc / 256) + pc % 256 = pc by omega, h] at h3
  exact h3
