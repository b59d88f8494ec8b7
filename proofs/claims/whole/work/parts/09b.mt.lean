def mtG45 : List (Nat × Nat) := [(180, 0), (181, 0)]
theorem mt_45 : mtG45.all chk = true := by decide +kernel
def mtG46 : List (Nat × Nat) := [(182, 0), (183, 0), (184, 0), (185, 0), (186, 0)]
theorem mt_46 : mtG46.all chk = true := by decide +kernel
def mtG47 : List (Nat × Nat) := [(187, 0), (188, 0)]
theorem mt_47 : mtG47.all chk = true := by decide +kernel
def mtG48 : List (Nat × Nat) := [(189, 0), (190, 0)]
theorem mt_48 : mtG48.all chk = true := by decide +kernel
def mtG49 : List (Nat × Nat) := [(191, 0), (192, 0), (193, 0), (194, 0)]
theorem mt_49 : mtG49.all chk = true := by decide +kernel
def mtG50 : List (Nat × Nat) := [(195, 0), (196, 0), (197, 0)]
theorem mt_50 : mtG50.all chk = true := by decide +kernel
def mtG51 : List (Nat × Nat) := [(198, 0), (199, 0), (200, 0)]
theorem mt_51 : mtG51.all chk = true := by decide +kernel
def mtG52 : List (Nat × Nat) := [(201, 0), (202, 0)]
theorem mt_52 : mtG52.all chk = true := by decide +kernel
def mtG53 : List (Nat × Nat) := [(203, 0), (204, 0)]
theorem mt_53 : mtG53.all chk = true := by decide +kernel
def mtG54 : List (Nat × Nat) := [(205, 0), (206, 0), (207, 0), (208, 0)]
theorem mt_54 : mtG54.all chk = true := by decide +kernel
def mtG55 : List (Nat × Nat) := [(209, 0), (210, 0), (211, 0), (212, 0), (213, 0), (214, 0)]
theorem mt_55 : mtG55.all chk = true := by decide +kernel
def mtG56 : List (Nat × Nat) := [(215, 0), (216, 0), (217, 0), (218, 0), (219, 0)]
theorem mt_56 : mtG56.all chk = true := by decide +kernel
def mtG57 : List (Nat × Nat) := [(220, 0), (221, 0), (222, 0), (223, 0), (224, 0)]
theorem mt_57 : mtG57.all chk = true := by decide +kernel
def mtG58 : List (Nat × Nat) := [(225, 0), (226, 0), (227, 0), (228, 0)]
theorem mt_58 : mtG58.all chk = true := by decide +kernel
def mtG59 : List (Nat × Nat) := [(229, 0), (230, 0), (231, 0)]
theorem mt_59 : mtG59.all chk = true := by decide +kernel
def mtG60 : List (Nat × Nat) := [(232, 0), (233, 0)]
theorem mt_60 : mtG60.all chk = true := by decide +kernel
def mtG61 : List (Nat × Nat) := [(234, 0), (235, 0), (236, 0)]
theorem mt_61 : mtG61.all chk = true := by decide +kernel
def mtG62 : List (Nat × Nat) := [(237, 0), (238, 0), (239, 0), (240, 0)]
theorem mt_62 : mtG62.all chk = true := by decide +kernel
def mtG63 : List (Nat × Nat) := [(241, 0), (242, 0)]
theorem mt_63 : mtG63.all chk = true := by decide +kernel
def mtG64 : List (Nat × Nat) := [(243, 0), (244, 0)]
theorem mt_64 : mtG64.all chk = true := by decide +kernel
def mtG65 : List (Nat × Nat) := [(245, 0), (246, 0), (247, 0), (248, 0)]
theorem mt_65 : mtG65.all chk = true := by decide +kernel
def mtG66 : List (Nat × Nat) := [(249, 0), (250, 0), (251, 0), (252, 0)]
theorem mt_66 : mtG66.all chk = true := by decide +kernel
def mtG67 : List (Nat × Nat) := [(253, 0), (254, 0), (255, 0)]
theorem mt_67 : mtG67.all chk = true := by decide +kernel
def mtG68 : List (Nat × Nat) := [(256, 0), (257, 0), (258, 0), (259, 0)]
theorem mt_68 : mtG68.all chk = true := by decide +kernel
def mtG69 : List (Nat × Nat) := [(260, 0), (261, 0)]
theorem mt_69 : mtG69.all chk = true := by decide +kernel
def mtG70 : List (Nat × Nat) := [(262, 0), (263, 0), (264, 0)]
theorem mt_70 : mtG70.all chk = true := by decide +kernel
def mtG71 : List (Nat × Nat) := [(265, 0), (266, 0), (267, 0), (268, 0)]
theorem mt_71 : mtG71.all chk = true := by decide +kernel
def mtG72 : List (Nat × Nat) := [(269, 0), (270, 0)]
theorem mt_72 : mtG72.all chk = true := by decide +kernel
def mtG73 : List (Nat × Nat) := [(271, 0), (272, 0)]
theorem mt_73 : mtG73.all chk = true := by decide +kernel
def mtG74 : List (Nat × Nat) := [(273, 0), (274, 0), (275, 0), (276, 0)]
theorem mt_74 : mtG74.all chk = true := by decide +kernel
def mtG75 : List (Nat × Nat) := [(277, 0), (278, 0), (279, 0), (280, 0), (281, 0), (282, 0), (283, 0), (284, 0), (285, 0), (286, 0)]
theorem mt_75 : mtG75.all chk = true := by decide +kernel
def mtG76 : List (Nat × Nat) := [(287, 0), (288, 0), (289, 0), (290, 0), (291, 0), (292, 0), (293, 0)]
theorem mt_76 : mtG76.all chk = true := by decide +kernel
def mtG77 : List (Nat × Nat) := [(294, 0), (295, 0), (296, 0), (297, 0), (298, 0)]
theorem mt_77 : mtG77.all chk = true := by decide +kernel
def mtG78 : List (Nat × Nat) := [(299, 0), (300, 0), (301, 0), (302, 0), (303, 0), (304, 0), (305, 0)]
theorem mt_78 : mtG78.all chk = true := by decide +kernel
def mtG79 : List (Nat × Nat) := [(306, 0), (307, 0), (308, 0), (309, 0), (310, 0)]
theorem mt_79 : mtG79.all chk = true := by decide +kernel
