/-! the law: its rows behind the constructors, a stretch a list -/
def t_law : mo_T := (code, RL, 4, 3, room_1)
def p_lawh : List mo_I := [(16, 1, .iconst (0), 0, 0, 0), (17, 1, .istore_n 3, 3, 0, 0), (18, 1, .iload_n 3, 3, 0, 0), (19, 1, .aload_n 0, 0, 0, 0), (20, 1, .arraylength, 0, 0, 0), (21, 2, .bipush (6), 0, 0, 6), (23, 1, .isub, 0, 0, 0), (24, 3, .if_icmp .gt (1166), 1190, 0, 0), (27, 1, .aload_n 0, 0, 0, 0), (28, 1, .iload_n 3, 3, 0, 0), (29, 1, .iaload, 0, 0, 0), (30, 2, .bipush (31), 0, 0, 31), (32, 1, .iand, 0, 0, 0), (33, 127, .tableswitch (1151) (0) (27) #[127, 150, 203, 256, 309, 342, 375, 438, 481, 504, 547, 580, 603, 666, 689, 702, 715, 758, 801, 854, 907, 950, 993, 1026, 1049, 1092, 1115, 1138], 0, 0, 0)]
theorem ok_lawh : mo_good t_law p_lawh = true ∧ mo_chain 16 p_lawh = true := by decide +kernel
def p_law0 : List mo_I := [(160, 1, .aload_n 1, 1, 0, 0), (161, 1, .aload_n 0, 0, 0, 0), (162, 1, .iload_n 3, 3, 0, 0), (163, 1, .iconst (1), 0, 0, 1), (164, 1, .iadd, 0, 0, 0), (165, 1, .iaload, 0, 0, 0), (166, 3, .invokevirtual 13, 0, 0, 0), (169, 1, .aload_n 2, 2, 0, 0), (170, 1, .aload_n 0, 0, 0, 0), (171, 1, .iload_n 3, 3, 0, 0), (172, 1, .iconst (1), 0, 0, 1), (173, 1, .iadd, 0, 0, 0), (174, 1, .iaload, 0, 0, 0), (175, 3, .invokevirtual 17, 1, 0, 0), (178, 3, .if_icmp .eq (1006), 1184, 0, 0), (181, 1, .iconst (0), 0, 0, 0), (182, 1, .ireturn, 0, 0, 0)]
theorem ok_law0 : mo_good t_law p_law0 = true ∧ mo_chain 160 p_law0 = true := by decide +kernel
def cs_law0 : Nat → mo_C := fun j => match j with
  | 0 => (2, true, 13, 11, S_X11_part)
  | 1 => (2, true, 17, 12, S_X12_part)
  | _ => (0, false, 0, 50, fun _ _ _ => False)
theorem cs_law0_ok (g : mo_E) : ∀ j, mo_cok g t_law (cs_law0 j) ∧ mo_mon (cs_law0 j) := by
  intro j
  unfold cs_law0
  split
  · exact ⟨mo_cokV ct_X11_part (by decide) ⟨_, _, rfl⟩ (by decide +kernel), m_X11_part⟩
  · exact ⟨mo_cokV ct_X12_part (by decide) ⟨_, _, rfl⟩ (by decide +kernel), m_X12_part⟩
  · exact ⟨mo_cok0 g _, mo_mon0⟩
def p_law1 : List mo_I := [(183, 1, .aload_n 1, 1, 0, 0), (184, 1, .aload_n 0, 0, 0, 0), (185, 1, .iload_n 3, 3, 0, 0), (186, 1, .iconst (1), 0, 0, 1), (187, 1, .iadd, 0, 0, 0), (188, 1, .iaload, 0, 0, 0), (189, 1, .aload_n 0, 0, 0, 0), (190, 1, .iload_n 3, 3, 0, 0), (191, 1, .iconst (2), 0, 0, 2), (192, 1, .iadd, 0, 0, 0), (193, 1, .iaload, 0, 0, 0), (194, 1, .aload_n 0, 0, 0, 0), (195, 1, .iload_n 3, 3, 0, 0), (196, 1, .iconst (3), 0, 0, 3), (197, 1, .iadd, 0, 0, 0), (198, 1, .iaload, 0, 0, 0), (199, 1, .aload_n 0, 0, 0, 0), (200, 1, .iload_n 3, 3, 0, 0), (201, 1, .iconst (4), 0, 0, 4), (202, 1, .iadd, 0, 0, 0), (203, 1, .iaload, 0, 0, 0), (204, 3, .invokevirtual 18, 0, 0, 0), (207, 1, .aload_n 2, 2, 0, 0), (208, 1, .aload_n 0, 0, 0, 0), (209, 1, .iload_n 3, 3, 0, 0), (210, 1, .iconst (1), 0, 0, 1), (211, 1, .iadd, 0, 0, 0), (212, 1, .iaload, 0, 0, 0), (213, 1, .aload_n 0, 0, 0, 0), (214, 1, .iload_n 3, 3, 0, 0), (215, 1, .iconst (2), 0, 0, 2), (216, 1, .iadd, 0, 0, 0), (217, 1, .iaload, 0, 0, 0), (218, 1, .aload_n 0, 0, 0, 0), (219, 1, .iload_n 3, 3, 0, 0), (220, 1, .iconst (3), 0, 0, 3), (221, 1, .iadd, 0, 0, 0), (222, 1, .iaload, 0, 0, 0), (223, 1, .aload_n 0, 0, 0, 0), (224, 1, .iload_n 3, 3, 0, 0), (225, 1, .iconst (4), 0, 0, 4), (226, 1, .iadd, 0, 0, 0), (227, 1, .iaload, 0, 0, 0), (228, 3, .invokevirtual 22, 1, 0, 0), (231, 3, .if_icmp .eq (953), 1184, 0, 0), (234, 1, .iconst (0), 0, 0, 0), (235, 1, .ireturn, 0, 0, 0)]
theorem ok_law1 : mo_good t_law p_law1 = true ∧ mo_chain 183 p_law1 = true := by decide +kernel
def cs_law1 : Nat → mo_C := fun j => match j with
  | 0 => (5, true, 18, 11, S_X11_make)
  | 1 => (5, true, 22, 12, S_X12_make)
  | _ => (0, false, 0, 50, fun _ _ _ => False)
theorem cs_law1_ok (g : mo_E) : ∀ j, mo_cok g t_law (cs_law1 j) ∧ mo_mon (cs_law1 j) := by
  intro j
  unfold cs_law1
  split
  · exact ⟨mo_cokV ct_X11_make (by decide) ⟨_, _, rfl⟩ (by decide +kernel), m_X11_make⟩
  · exact ⟨mo_cokV ct_X12_make (by decide) ⟨_, _, rfl⟩ (by decide +kernel), m_X12_make⟩
  · exact ⟨mo_cok0 g _, mo_mon0⟩
def p_law2 : List mo_I := [(236, 1, .aload_n 1, 1, 0, 0), (237, 1, .aload_n 0, 0, 0, 0), (238, 1, .iload_n 3, 3, 0, 0), (239, 1, .iconst (1), 0, 0, 1), (240, 1, .iadd, 0, 0, 0), (241, 1, .iaload, 0, 0, 0), (242, 1, .aload_n 0, 0, 0, 0), (243, 1, .iload_n 3, 3, 0, 0), (244, 1, .iconst (2), 0, 0, 2), (245, 1, .iadd, 0, 0, 0), (246, 1, .iaload, 0, 0, 0), (247, 1, .aload_n 0, 0, 0, 0), (248, 1, .iload_n 3, 3, 0, 0), (249, 1, .iconst (3), 0, 0, 3), (250, 1, .iadd, 0, 0, 0), (251, 1, .iaload, 0, 0, 0), (252, 1, .aload_n 0, 0, 0, 0), (253, 1, .iload_n 3, 3, 0, 0), (254, 1, .iconst (4), 0, 0, 4), (255, 1, .iadd, 0, 0, 0), (256, 1, .iaload, 0, 0, 0), (257, 3, .invokevirtual 23, 0, 0, 0), (260, 1, .aload_n 2, 2, 0, 0), (261, 1, .aload_n 0, 0, 0, 0), (262, 1, .iload_n 3, 3, 0, 0), (263, 1, .iconst (1), 0, 0, 1), (264, 1, .iadd, 0, 0, 0), (265, 1, .iaload, 0, 0, 0), (266, 1, .aload_n 0, 0, 0, 0), (267, 1, .iload_n 3, 3, 0, 0), (268, 1, .iconst (2), 0, 0, 2), (269, 1, .iadd, 0, 0, 0), (270, 1, .iaload, 0, 0, 0), (271, 1, .aload_n 0, 0, 0, 0), (272, 1, .iload_n 3, 3, 0, 0), (273, 1, .iconst (3), 0, 0, 3), (274, 1, .iadd, 0, 0, 0), (275, 1, .iaload, 0, 0, 0), (276, 1, .aload_n 0, 0, 0, 0), (277, 1, .iload_n 3, 3, 0, 0), (278, 1, .iconst (4), 0, 0, 4), (279, 1, .iadd, 0, 0, 0), (280, 1, .iaload, 0, 0, 0), (281, 3, .invokevirtual 26, 1, 0, 0), (284, 3, .if_icmp .eq (900), 1184, 0, 0), (287, 1, .iconst (0), 0, 0, 0), (288, 1, .ireturn, 0, 0, 0)]
theorem ok_law2 : mo_good t_law p_law2 = true ∧ mo_chain 236 p_law2 = true := by decide +kernel
def cs_law2 : Nat → mo_C := fun j => match j with
  | 0 => (5, true, 23, 11, S_X11_find)
  | 1 => (5, true, 26, 12, S_X12_find)
  | _ => (0, false, 0, 50, fun _ _ _ => False)
theorem cs_law2_ok (g : mo_E) : ∀ j, mo_cok g t_law (cs_law2 j) ∧ mo_mon (cs_law2 j) := by
  intro j
  unfold cs_law2
  split
  · exact ⟨mo_cokV ct_X11_find (by decide) ⟨_, _, rfl⟩ (by decide +kernel), m_X11_find⟩
  · exact ⟨mo_cokV ct_X12_find (by decide) ⟨_, _, rfl⟩ (by decide +kernel), m_X12_find⟩
  · exact ⟨mo_cok0 g _, mo_mon0⟩
def p_law3 : List mo_I := [(289, 1, .aload_n 1, 1, 0, 0), (290, 1, .aload_n 0, 0, 0, 0), (291, 1, .iload_n 3, 3, 0, 0), (292, 1, .iconst (1), 0, 0, 1), (293, 1, .iadd, 0, 0, 0), (294, 1, .iaload, 0, 0, 0), (295, 1, .aload_n 0, 0, 0, 0), (296, 1, .iload_n 3, 3, 0, 0), (297, 1, .iconst (2), 0, 0, 2), (298, 1, .iadd, 0, 0, 0), (299, 1, .iaload, 0, 0, 0), (300, 1, .aload_n 0, 0, 0, 0), (301, 1, .iload_n 3, 3, 0, 0), (302, 1, .iconst (3), 0, 0, 3), (303, 1, .iadd, 0, 0, 0), (304, 1, .iaload, 0, 0, 0), (305, 1, .aload_n 0, 0, 0, 0), (306, 1, .iload_n 3, 3, 0, 0), (307, 1, .iconst (4), 0, 0, 4), (308, 1, .iadd, 0, 0, 0), (309, 1, .iaload, 0, 0, 0), (310, 3, .invokevirtual 27, 0, 0, 0), (313, 1, .aload_n 2, 2, 0, 0), (314, 1, .aload_n 0, 0, 0, 0), (315, 1, .iload_n 3, 3, 0, 0), (316, 1, .iconst (1), 0, 0, 1), (317, 1, .iadd, 0, 0, 0), (318, 1, .iaload, 0, 0, 0), (319, 1, .aload_n 0, 0, 0, 0), (320, 1, .iload_n 3, 3, 0, 0), (321, 1, .iconst (2), 0, 0, 2), (322, 1, .iadd, 0, 0, 0), (323, 1, .iaload, 0, 0, 0), (324, 1, .aload_n 0, 0, 0, 0), (325, 1, .iload_n 3, 3, 0, 0), (326, 1, .iconst (3), 0, 0, 3), (327, 1, .iadd, 0, 0, 0), (328, 1, .iaload, 0, 0, 0), (329, 1, .aload_n 0, 0, 0, 0), (330, 1, .iload_n 3, 3, 0, 0), (331, 1, .iconst (4), 0, 0, 4), (332, 1, .iadd, 0, 0, 0), (333, 1, .iaload, 0, 0, 0), (334, 3, .invokevirtual 30, 1, 0, 0), (337, 3, .if_icmp .eq (847), 1184, 0, 0), (340, 1, .iconst (0), 0, 0, 0), (341, 1, .ireturn, 0, 0, 0)]
theorem ok_law3 : mo_good t_law p_law3 = true ∧ mo_chain 289 p_law3 = true := by decide +kernel
def cs_law3 : Nat → mo_C := fun j => match j with
  | 0 => (5, true, 27, 11, S_X11_link)
  | 1 => (5, true, 30, 12, S_X12_link)
  | _ => (0, false, 0, 50, fun _ _ _ => False)
theorem cs_law3_ok (g : mo_E) : ∀ j, mo_cok g t_law (cs_law3 j) ∧ mo_mon (cs_law3 j) := by
  intro j
  unfold cs_law3
  split
  · exact ⟨mo_cokV ct_X11_link (by decide) ⟨_, _, rfl⟩ (by decide +kernel), m_X11_link⟩
  · exact ⟨mo_cokV ct_X12_link (by decide) ⟨_, _, rfl⟩ (by decide +kernel), m_X12_link⟩
  · exact ⟨mo_cok0 g _, mo_mon0⟩
def p_law4 : List mo_I := [(342, 1, .aload_n 1, 1, 0, 0), (343, 1, .aload_n 0, 0, 0, 0), (344, 1, .iload_n 3, 3, 0, 0), (345, 1, .iconst (1), 0, 0, 1), (346, 1, .iadd, 0, 0, 0), (347, 1, .iaload, 0, 0, 0), (348, 1, .aload_n 0, 0, 0, 0), (349, 1, .iload_n 3, 3, 0, 0), (350, 1, .iconst (2), 0, 0, 2), (351, 1, .iadd, 0, 0, 0), (352, 1, .iaload, 0, 0, 0), (353, 3, .invokevirtual 31, 0, 0, 0), (356, 1, .aload_n 2, 2, 0, 0), (357, 1, .aload_n 0, 0, 0, 0), (358, 1, .iload_n 3, 3, 0, 0), (359, 1, .iconst (1), 0, 0, 1), (360, 1, .iadd, 0, 0, 0), (361, 1, .iaload, 0, 0, 0), (362, 1, .aload_n 0, 0, 0, 0), (363, 1, .iload_n 3, 3, 0, 0), (364, 1, .iconst (2), 0, 0, 2), (365, 1, .iadd, 0, 0, 0), (366, 1, .iaload, 0, 0, 0), (367, 3, .invokevirtual 35, 1, 0, 0), (370, 3, .if_icmp .eq (814), 1184, 0, 0), (373, 1, .iconst (0), 0, 0, 0), (374, 1, .ireturn, 0, 0, 0)]
theorem ok_law4 : mo_good t_law p_law4 = true ∧ mo_chain 342 p_law4 = true := by decide +kernel
def cs_law4 : Nat → mo_C := fun j => match j with
  | 0 => (3, true, 31, 11, S_X11_cut)
  | 1 => (3, true, 35, 12, S_X12_cut)
  | _ => (0, false, 0, 50, fun _ _ _ => False)
theorem cs_law4_ok (g : mo_E) : ∀ j, mo_cok g t_law (cs_law4 j) ∧ mo_mon (cs_law4 j) := by
  intro j
  unfold cs_law4
  split
  · exact ⟨mo_cokV ct_X11_cut (by decide) ⟨_, _, rfl⟩ (by decide +kernel), m_X11_cut⟩
  · exact ⟨mo_cokV ct_X12_cut (by decide) ⟨_, _, rfl⟩ (by decide +kernel), m_X12_cut⟩
  · exact ⟨mo_cok0 g _, mo_mon0⟩
def p_law5 : List mo_I := [(375, 1, .aload_n 1, 1, 0, 0), (376, 1, .aload_n 0, 0, 0, 0), (377, 1, .iload_n 3, 3, 0, 0), (378, 1, .iconst (1), 0, 0, 1), (379, 1, .iadd, 0, 0, 0), (380, 1, .iaload, 0, 0, 0), (381, 1, .aload_n 0, 0, 0, 0), (382, 1, .iload_n 3, 3, 0, 0), (383, 1, .iconst (2), 0, 0, 2), (384, 1, .iadd, 0, 0, 0), (385, 1, .iaload, 0, 0, 0), (386, 3, .invokevirtual 36, 0, 0, 0), (389, 1, .aload_n 2, 2, 0, 0), (390, 1, .aload_n 0, 0, 0, 0), (391, 1, .iload_n 3, 3, 0, 0), (392, 1, .iconst (1), 0, 0, 1), (393, 1, .iadd, 0, 0, 0), (394, 1, .iaload, 0, 0, 0), (395, 1, .aload_n 0, 0, 0, 0), (396, 1, .iload_n 3, 3, 0, 0), (397, 1, .iconst (2), 0, 0, 2), (398, 1, .iadd, 0, 0, 0), (399, 1, .iaload, 0, 0, 0), (400, 3, .invokevirtual 39, 1, 0, 0), (403, 3, .if_icmp .eq (781), 1184, 0, 0), (406, 1, .iconst (0), 0, 0, 0), (407, 1, .ireturn, 0, 0, 0)]
theorem ok_law5 : mo_good t_law p_law5 = true ∧ mo_chain 375 p_law5 = true := by decide +kernel
def cs_law5 : Nat → mo_C := fun j => match j with
  | 0 => (3, true, 36, 11, S_X11_counts)
  | 1 => (3, true, 39, 12, S_X12_counts)
  | _ => (0, false, 0, 50, fun _ _ _ => False)
theorem cs_law5_ok (g : mo_E) : ∀ j, mo_cok g t_law (cs_law5 j) ∧ mo_mon (cs_law5 j) := by
  intro j
  unfold cs_law5
  split
  · exact ⟨mo_cokV ct_X11_counts (by decide) ⟨_, _, rfl⟩ (by decide +kernel), m_X11_counts⟩
  · exact ⟨mo_cokV ct_X12_counts (by decide) ⟨_, _, rfl⟩ (by decide +kernel), m_X12_counts⟩
  · exact ⟨mo_cok0 g _, mo_mon0⟩
def p_law6 : List mo_I := [(408, 1, .aload_n 1, 1, 0, 0), (409, 1, .aload_n 0, 0, 0, 0), (410, 1, .iload_n 3, 3, 0, 0), (411, 1, .iconst (1), 0, 0, 1), (412, 1, .iadd, 0, 0, 0), (413, 1, .iaload, 0, 0, 0), (414, 1, .aload_n 0, 0, 0, 0), (415, 1, .iload_n 3, 3, 0, 0), (416, 1, .iconst (2), 0, 0, 2), (417, 1, .iadd, 0, 0, 0), (418, 1, .iaload, 0, 0, 0), (419, 1, .aload_n 0, 0, 0, 0), (420, 1, .iload_n 3, 3, 0, 0), (421, 1, .iconst (3), 0, 0, 3), (422, 1, .iadd, 0, 0, 0), (423, 1, .iaload, 0, 0, 0), (424, 1, .aload_n 0, 0, 0, 0), (425, 1, .iload_n 3, 3, 0, 0), (426, 1, .iconst (4), 0, 0, 4), (427, 1, .iadd, 0, 0, 0), (428, 1, .iaload, 0, 0, 0), (429, 1, .aload_n 0, 0, 0, 0), (430, 1, .iload_n 3, 3, 0, 0), (431, 1, .iconst (5), 0, 0, 5), (432, 1, .iadd, 0, 0, 0), (433, 1, .iaload, 0, 0, 0), (434, 3, .invokevirtual 40, 0, 0, 0), (437, 1, .aload_n 2, 2, 0, 0), (438, 1, .aload_n 0, 0, 0, 0), (439, 1, .iload_n 3, 3, 0, 0), (440, 1, .iconst (1), 0, 0, 1), (441, 1, .iadd, 0, 0, 0), (442, 1, .iaload, 0, 0, 0), (443, 1, .aload_n 0, 0, 0, 0), (444, 1, .iload_n 3, 3, 0, 0), (445, 1, .iconst (2), 0, 0, 2), (446, 1, .iadd, 0, 0, 0), (447, 1, .iaload, 0, 0, 0), (448, 1, .aload_n 0, 0, 0, 0), (449, 1, .iload_n 3, 3, 0, 0), (450, 1, .iconst (3), 0, 0, 3), (451, 1, .iadd, 0, 0, 0), (452, 1, .iaload, 0, 0, 0), (453, 1, .aload_n 0, 0, 0, 0), (454, 1, .iload_n 3, 3, 0, 0), (455, 1, .iconst (4), 0, 0, 4), (456, 1, .iadd, 0, 0, 0), (457, 1, .iaload, 0, 0, 0), (458, 1, .aload_n 0, 0, 0, 0), (459, 1, .iload_n 3, 3, 0, 0), (460, 1, .iconst (5), 0, 0, 5), (461, 1, .iadd, 0, 0, 0), (462, 1, .iaload, 0, 0, 0), (463, 3, .invokevirtual 44, 1, 0, 0), (466, 3, .if_icmp .eq (718), 1184, 0, 0), (469, 1, .iconst (0), 0, 0, 0), (470, 1, .ireturn, 0, 0, 0)]
theorem ok_law6 : mo_good t_law p_law6 = true ∧ mo_chain 408 p_law6 = true := by decide +kernel
def cs_law6 : Nat → mo_C := fun j => match j with
  | 0 => (6, true, 40, 11, S_X11_hold)
  | 1 => (6, true, 44, 12, S_X12_hold)
  | _ => (0, false, 0, 50, fun _ _ _ => False)
theorem cs_law6_ok (g : mo_E) : ∀ j, mo_cok g t_law (cs_law6 j) ∧ mo_mon (cs_law6 j) := by
  intro j
  unfold cs_law6
  split
  · exact ⟨mo_cokV ct_X11_hold (by decide) ⟨_, _, rfl⟩ (by decide +kernel), m_X11_hold⟩
  · exact ⟨mo_cokV ct_X12_hold (by decide) ⟨_, _, rfl⟩ (by decide +kernel), m_X12_hold⟩
  · exact ⟨mo_cok0 g _, mo_mon0⟩
def p_law7 : List mo_I := [(471, 1, .aload_n 1, 1, 0, 0), (472, 1, .aload_n 0, 0, 0, 0), (473, 1, .iload_n 3, 3, 0, 0), (474, 1, .iconst (1), 0, 0, 1), (475, 1, .iadd, 0, 0, 0), (476, 1, .iaload, 0, 0, 0), (477, 1, .aload_n 0, 0, 0, 0), (478, 1, .iload_n 3, 3, 0, 0), (479, 1, .iconst (2), 0, 0, 2), (480, 1, .iadd, 0, 0, 0), (481, 1, .iaload, 0, 0, 0), (482, 1, .aload_n 0, 0, 0, 0), (483, 1, .iload_n 3, 3, 0, 0), (484, 1, .iconst (3), 0, 0, 3), (485, 1, .iadd, 0, 0, 0), (486, 1, .iaload, 0, 0, 0), (487, 3, .invokevirtual 45, 0, 0, 0), (490, 1, .aload_n 2, 2, 0, 0), (491, 1, .aload_n 0, 0, 0, 0), (492, 1, .iload_n 3, 3, 0, 0), (493, 1, .iconst (1), 0, 0, 1), (494, 1, .iadd, 0, 0, 0), (495, 1, .iaload, 0, 0, 0), (496, 1, .aload_n 0, 0, 0, 0), (497, 1, .iload_n 3, 3, 0, 0), (498, 1, .iconst (2), 0, 0, 2), (499, 1, .iadd, 0, 0, 0), (500, 1, .iaload, 0, 0, 0), (501, 1, .aload_n 0, 0, 0, 0), (502, 1, .iload_n 3, 3, 0, 0), (503, 1, .iconst (3), 0, 0, 3), (504, 1, .iadd, 0, 0, 0), (505, 1, .iaload, 0, 0, 0), (506, 3, .invokevirtual 49, 1, 0, 0), (509, 3, .if_icmp .eq (675), 1184, 0, 0), (512, 1, .iconst (0), 0, 0, 0), (513, 1, .ireturn, 0, 0, 0)]
theorem ok_law7 : mo_good t_law p_law7 = true ∧ mo_chain 471 p_law7 = true := by decide +kernel
def cs_law7 : Nat → mo_C := fun j => match j with
  | 0 => (4, true, 45, 11, S_X11_join)
  | 1 => (4, true, 49, 12, S_X12_join)
  | _ => (0, false, 0, 50, fun _ _ _ => False)
theorem cs_law7_ok (g : mo_E) : ∀ j, mo_cok g t_law (cs_law7 j) ∧ mo_mon (cs_law7 j) := by
  intro j
  unfold cs_law7
  split
  · exact ⟨mo_cokV ct_X11_join (by decide) ⟨_, _, rfl⟩ (by decide +kernel), m_X11_join⟩
  · exact ⟨mo_cokV ct_X12_join (by decide) ⟨_, _, rfl⟩ (by decide +kernel), m_X12_join⟩
  · exact ⟨mo_cok0 g _, mo_mon0⟩
def p_law8 : List mo_I := [(514, 1, .aload_n 1, 1, 0, 0), (515, 1, .aload_n 0, 0, 0, 0), (516, 1, .iload_n 3, 3, 0, 0), (517, 1, .iconst (1), 0, 0, 1), (518, 1, .iadd, 0, 0, 0), (519, 1, .iaload, 0, 0, 0), (520, 3, .invokevirtual 50, 0, 0, 0), (523, 1, .aload_n 2, 2, 0, 0), (524, 1, .aload_n 0, 0, 0, 0), (525, 1, .iload_n 3, 3, 0, 0), (526, 1, .iconst (1), 0, 0, 1), (527, 1, .iadd, 0, 0, 0), (528, 1, .iaload, 0, 0, 0), (529, 3, .invokevirtual 53, 1, 0, 0), (532, 3, .if_icmp .eq (652), 1184, 0, 0), (535, 1, .iconst (0), 0, 0, 0), (536, 1, .ireturn, 0, 0, 0)]
theorem ok_law8 : mo_good t_law p_law8 = true ∧ mo_chain 514 p_law8 = true := by decide +kernel
def cs_law8 : Nat → mo_C := fun j => match j with
  | 0 => (2, true, 50, 11, S_X11_undo)
  | 1 => (2, true, 53, 12, S_X12_undo)
  | _ => (0, false, 0, 50, fun _ _ _ => False)
theorem cs_law8_ok (g : mo_E) : ∀ j, mo_cok g t_law (cs_law8 j) ∧ mo_mon (cs_law8 j) := by
  intro j
  unfold cs_law8
  split
  · exact ⟨mo_cokV ct_X11_undo (by decide) ⟨_, _, rfl⟩ (by decide +kernel), m_X11_undo⟩
  · exact ⟨mo_cokV ct_X12_undo (by decide) ⟨_, _, rfl⟩ (by decide +kernel), m_X12_undo⟩
  · exact ⟨mo_cok0 g _, mo_mon0⟩
def p_law9 : List mo_I := [(537, 1, .aload_n 1, 1, 0, 0), (538, 1, .aload_n 0, 0, 0, 0), (539, 1, .iload_n 3, 3, 0, 0), (540, 1, .iconst (1), 0, 0, 1), (541, 1, .iadd, 0, 0, 0), (542, 1, .iaload, 0, 0, 0), (543, 1, .aload_n 0, 0, 0, 0), (544, 1, .iload_n 3, 3, 0, 0), (545, 1, .iconst (2), 0, 0, 2), (546, 1, .iadd, 0, 0, 0), (547, 1, .iaload, 0, 0, 0), (548, 1, .aload_n 0, 0, 0, 0), (549, 1, .iload_n 3, 3, 0, 0), (550, 1, .iconst (3), 0, 0, 3), (551, 1, .iadd, 0, 0, 0), (552, 1, .iaload, 0, 0, 0), (553, 3, .invokevirtual 54, 0, 0, 0), (556, 1, .aload_n 2, 2, 0, 0), (557, 1, .aload_n 0, 0, 0, 0), (558, 1, .iload_n 3, 3, 0, 0), (559, 1, .iconst (1), 0, 0, 1), (560, 1, .iadd, 0, 0, 0), (561, 1, .iaload, 0, 0, 0), (562, 1, .aload_n 0, 0, 0, 0), (563, 1, .iload_n 3, 3, 0, 0), (564, 1, .iconst (2), 0, 0, 2), (565, 1, .iadd, 0, 0, 0), (566, 1, .iaload, 0, 0, 0), (567, 1, .aload_n 0, 0, 0, 0), (568, 1, .iload_n 3, 3, 0, 0), (569, 1, .iconst (3), 0, 0, 3), (570, 1, .iadd, 0, 0, 0), (571, 1, .iaload, 0, 0, 0), (572, 3, .invokevirtual 57, 1, 0, 0), (575, 3, .if_icmp .eq (609), 1184, 0, 0), (578, 1, .iconst (0), 0, 0, 0), (579, 1, .ireturn, 0, 0, 0)]
theorem ok_law9 : mo_good t_law p_law9 = true ∧ mo_chain 537 p_law9 = true := by decide +kernel
def cs_law9 : Nat → mo_C := fun j => match j with
  | 0 => (4, true, 54, 11, S_X11_unlike)
  | 1 => (4, true, 57, 12, S_X12_unlike)
  | _ => (0, false, 0, 50, fun _ _ _ => False)
theorem cs_law9_ok (g : mo_E) : ∀ j, mo_cok g t_law (cs_law9 j) ∧ mo_mon (cs_law9 j) := by
  intro j
  unfold cs_law9
  split
  · exact ⟨mo_cokV ct_X11_unlike (by decide) ⟨_, _, rfl⟩ (by decide +kernel), m_X11_unlike⟩
  · exact ⟨mo_cokV ct_X12_unlike (by decide) ⟨_, _, rfl⟩ (by decide +kernel), m_X12_unlike⟩
  · exact ⟨mo_cok0 g _, mo_mon0⟩
def p_law10 : List mo_I := [(580, 1, .aload_n 1, 1, 0, 0), (581, 1, .aload_n 0, 0, 0, 0), (582, 1, .iload_n 3, 3, 0, 0), (583, 1, .iconst (1), 0, 0, 1), (584, 1, .iadd, 0, 0, 0), (585, 1, .iaload, 0, 0, 0), (586, 1, .aload_n 0, 0, 0, 0), (587, 1, .iload_n 3, 3, 0, 0), (588, 1, .iconst (2), 0, 0, 2), (589, 1, .iadd, 0, 0, 0), (590, 1, .iaload, 0, 0, 0), (591, 3, .invokevirtual 58, 0, 0, 0), (594, 1, .aload_n 2, 2, 0, 0), (595, 1, .aload_n 0, 0, 0, 0), (596, 1, .iload_n 3, 3, 0, 0), (597, 1, .iconst (1), 0, 0, 1), (598, 1, .iadd, 0, 0, 0), (599, 1, .iaload, 0, 0, 0), (600, 1, .aload_n 0, 0, 0, 0), (601, 1, .iload_n 3, 3, 0, 0), (602, 1, .iconst (2), 0, 0, 2), (603, 1, .iadd, 0, 0, 0), (604, 1, .iaload, 0, 0, 0), (605, 3, .invokevirtual 61, 1, 0, 0), (608, 3, .if_icmp .eq (576), 1184, 0, 0), (611, 1, .iconst (0), 0, 0, 0), (612, 1, .ireturn, 0, 0, 0)]
theorem ok_law10 : mo_good t_law p_law10 = true ∧ mo_chain 580 p_law10 = true := by decide +kernel
def cs_law10 : Nat → mo_C := fun j => match j with
  | 0 => (3, true, 58, 11, S_X11_group)
  | 1 => (3, true, 61, 12, S_X12_group)
  | _ => (0, false, 0, 50, fun _ _ _ => False)
theorem cs_law10_ok (g : mo_E) : ∀ j, mo_cok g t_law (cs_law10 j) ∧ mo_mon (cs_law10 j) := by
  intro j
  unfold cs_law10
  split
  · exact ⟨mo_cokV ct_X11_group (by decide) ⟨_, _, rfl⟩ (by decide +kernel), m_X11_group⟩
  · exact ⟨mo_cokV ct_X12_group (by decide) ⟨_, _, rfl⟩ (by decide +kernel), m_X12_group⟩
  · exact ⟨mo_cok0 g _, mo_mon0⟩
def p_law11 : List mo_I := [(613, 1, .aload_n 1, 1, 0, 0), (614, 1, .aload_n 0, 0, 0, 0), (615, 1, .iload_n 3, 3, 0, 0), (616, 1, .iconst (1), 0, 0, 1), (617, 1, .iadd, 0, 0, 0), (618, 1, .iaload, 0, 0, 0), (619, 3, .invokevirtual 62, 0, 0, 0), (622, 1, .aload_n 2, 2, 0, 0), (623, 1, .aload_n 0, 0, 0, 0), (624, 1, .iload_n 3, 3, 0, 0), (625, 1, .iconst (1), 0, 0, 1), (626, 1, .iadd, 0, 0, 0), (627, 1, .iaload, 0, 0, 0), (628, 3, .invokevirtual 65, 1, 0, 0), (631, 3, .if_icmp .eq (553), 1184, 0, 0), (634, 1, .iconst (0), 0, 0, 0), (635, 1, .ireturn, 0, 0, 0)]
theorem ok_law11 : mo_good t_law p_law11 = true ∧ mo_chain 613 p_law11 = true := by decide +kernel
def cs_law11 : Nat → mo_C := fun j => match j with
  | 0 => (2, true, 62, 11, S_X11_quarrels)
  | 1 => (2, true, 65, 12, S_X12_quarrels)
  | _ => (0, false, 0, 50, fun _ _ _ => False)
theorem cs_law11_ok (g : mo_E) : ∀ j, mo_cok g t_law (cs_law11 j) ∧ mo_mon (cs_law11 j) := by
  intro j
  unfold cs_law11
  split
  · exact ⟨mo_cokV ct_X11_quarrels (by decide) ⟨_, _, rfl⟩ (by decide +kernel), m_X11_quarrels⟩
  · exact ⟨mo_cokV ct_X12_quarrels (by decide) ⟨_, _, rfl⟩ (by decide +kernel), m_X12_quarrels⟩
  · exact ⟨mo_cok0 g _, mo_mon0⟩
def p_law12 : List mo_I := [(636, 1, .aload_n 1, 1, 0, 0), (637, 1, .aload_n 0, 0, 0, 0), (638, 1, .iload_n 3, 3, 0, 0), (639, 1, .iconst (1), 0, 0, 1), (640, 1, .iadd, 0, 0, 0), (641, 1, .iaload, 0, 0, 0), (642, 1, .aload_n 0, 0, 0, 0), (643, 1, .iload_n 3, 3, 0, 0), (644, 1, .iconst (2), 0, 0, 2), (645, 1, .iadd, 0, 0, 0), (646, 1, .iaload, 0, 0, 0), (647, 1, .aload_n 0, 0, 0, 0), (648, 1, .iload_n 3, 3, 0, 0), (649, 1, .iconst (3), 0, 0, 3), (650, 1, .iadd, 0, 0, 0), (651, 1, .iaload, 0, 0, 0), (652, 1, .aload_n 0, 0, 0, 0), (653, 1, .iload_n 3, 3, 0, 0), (654, 1, .iconst (4), 0, 0, 4), (655, 1, .iadd, 0, 0, 0), (656, 1, .iaload, 0, 0, 0), (657, 1, .aload_n 0, 0, 0, 0), (658, 1, .iload_n 3, 3, 0, 0), (659, 1, .iconst (5), 0, 0, 5), (660, 1, .iadd, 0, 0, 0), (661, 1, .iaload, 0, 0, 0), (662, 3, .invokevirtual 66, 0, 0, 0), (665, 1, .aload_n 2, 2, 0, 0), (666, 1, .aload_n 0, 0, 0, 0), (667, 1, .iload_n 3, 3, 0, 0), (668, 1, .iconst (1), 0, 0, 1), (669, 1, .iadd, 0, 0, 0), (670, 1, .iaload, 0, 0, 0), (671, 1, .aload_n 0, 0, 0, 0), (672, 1, .iload_n 3, 3, 0, 0), (673, 1, .iconst (2), 0, 0, 2), (674, 1, .iadd, 0, 0, 0), (675, 1, .iaload, 0, 0, 0), (676, 1, .aload_n 0, 0, 0, 0), (677, 1, .iload_n 3, 3, 0, 0), (678, 1, .iconst (3), 0, 0, 3), (679, 1, .iadd, 0, 0, 0), (680, 1, .iaload, 0, 0, 0), (681, 1, .aload_n 0, 0, 0, 0), (682, 1, .iload_n 3, 3, 0, 0), (683, 1, .iconst (4), 0, 0, 4), (684, 1, .iadd, 0, 0, 0), (685, 1, .iaload, 0, 0, 0), (686, 1, .aload_n 0, 0, 0, 0), (687, 1, .iload_n 3, 3, 0, 0), (688, 1, .iconst (5), 0, 0, 5), (689, 1, .iadd, 0, 0, 0), (690, 1, .iaload, 0, 0, 0), (691, 3, .invokevirtual 69, 1, 0, 0), (694, 3, .if_icmp .eq (490), 1184, 0, 0), (697, 1, .iconst (0), 0, 0, 0), (698, 1, .ireturn, 0, 0, 0)]
theorem ok_law12 : mo_good t_law p_law12 = true ∧ mo_chain 636 p_law12 = true := by decide +kernel
def cs_law12 : Nat → mo_C := fun j => match j with
  | 0 => (6, true, 66, 11, S_X11_feed)
  | 1 => (6, true, 69, 12, S_X12_feed)
  | _ => (0, false, 0, 50, fun _ _ _ => False)
theorem cs_law12_ok (g : mo_E) : ∀ j, mo_cok g t_law (cs_law12 j) ∧ mo_mon (cs_law12 j) := by
  intro j
  unfold cs_law12
  split
  · exact ⟨mo_cokV ct_X11_feed (by decide) ⟨_, _, rfl⟩ (by decide +kernel), m_X11_feed⟩
  · exact ⟨mo_cokV ct_X12_feed (by decide) ⟨_, _, rfl⟩ (by decide +kernel), m_X12_feed⟩
  · exact ⟨mo_cok0 g _, mo_mon0⟩
def p_law13 : List mo_I := [(699, 1, .aload_n 1, 1, 0, 0), (700, 1, .aload_n 0, 0, 0, 0), (701, 1, .iload_n 3, 3, 0, 0), (702, 1, .iconst (1), 0, 0, 1), (703, 1, .iadd, 0, 0, 0), (704, 1, .iaload, 0, 0, 0), (705, 3, .invokevirtual 70, 0, 0, 0), (708, 1, .aload_n 2, 2, 0, 0), (709, 1, .aload_n 0, 0, 0, 0), (710, 1, .iload_n 3, 3, 0, 0), (711, 1, .iconst (1), 0, 0, 1), (712, 1, .iadd, 0, 0, 0), (713, 1, .iaload, 0, 0, 0), (714, 3, .invokevirtual 73, 1, 0, 0), (717, 3, .if_icmp .eq (467), 1184, 0, 0), (720, 1, .iconst (0), 0, 0, 0), (721, 1, .ireturn, 0, 0, 0)]
theorem ok_law13 : mo_good t_law p_law13 = true ∧ mo_chain 699 p_law13 = true := by decide +kernel
def cs_law13 : Nat → mo_C := fun j => match j with
  | 0 => (2, true, 70, 11, S_X11_end)
  | 1 => (2, true, 73, 12, S_X12_end)
  | _ => (0, false, 0, 50, fun _ _ _ => False)
theorem cs_law13_ok (g : mo_E) : ∀ j, mo_cok g t_law (cs_law13 j) ∧ mo_mon (cs_law13 j) := by
  intro j
  unfold cs_law13
  split
  · exact ⟨mo_cokV ct_X11_end (by decide) ⟨_, _, rfl⟩ (by decide +kernel), m_X11_end⟩
  · exact ⟨mo_cokV ct_X12_end (by decide) ⟨_, _, rfl⟩ (by decide +kernel), m_X12_end⟩
  · exact ⟨mo_cok0 g _, mo_mon0⟩
def p_law14 : List mo_I := [(722, 1, .aload_n 1, 1, 0, 0), (723, 3, .invokevirtual 74, 0, 0, 0), (726, 1, .aload_n 2, 2, 0, 0), (727, 3, .invokevirtual 78, 1, 0, 0), (730, 3, .if_icmp .eq (454), 1184, 0, 0), (733, 1, .iconst (0), 0, 0, 0), (734, 1, .ireturn, 0, 0, 0)]
theorem ok_law14 : mo_good t_law p_law14 = true ∧ mo_chain 722 p_law14 = true := by decide +kernel
def cs_law14 : Nat → mo_C := fun j => match j with
  | 0 => (1, true, 74, 11, S_X11_warning)
  | 1 => (1, true, 78, 12, S_X12_warning)
  | _ => (0, false, 0, 50, fun _ _ _ => False)
theorem cs_law14_ok (g : mo_E) : ∀ j, mo_cok g t_law (cs_law14 j) ∧ mo_mon (cs_law14 j) := by
  intro j
  unfold cs_law14
  split
  · exact ⟨mo_cokV ct_X11_warning (by decide) ⟨_, _, rfl⟩ (by decide +kernel), m_X11_warning⟩
  · exact ⟨mo_cokV ct_X12_warning (by decide) ⟨_, _, rfl⟩ (by decide +kernel), m_X12_warning⟩
  · exact ⟨mo_cok0 g _, mo_mon0⟩
def p_law15 : List mo_I := [(735, 1, .aload_n 1, 1, 0, 0), (736, 3, .invokevirtual 79, 0, 0, 0), (739, 1, .aload_n 2, 2, 0, 0), (740, 3, .invokevirtual 82, 1, 0, 0), (743, 3, .if_icmp .eq (441), 1184, 0, 0), (746, 1, .iconst (0), 0, 0, 0), (747, 1, .ireturn, 0, 0, 0)]
theorem ok_law15 : mo_good t_law p_law15 = true ∧ mo_chain 735 p_law15 = true := by decide +kernel
def cs_law15 : Nat → mo_C := fun j => match j with
  | 0 => (1, true, 79, 11, S_X11_fault)
  | 1 => (1, true, 82, 12, S_X12_fault)
  | _ => (0, false, 0, 50, fun _ _ _ => False)
theorem cs_law15_ok (g : mo_E) : ∀ j, mo_cok g t_law (cs_law15 j) ∧ mo_mon (cs_law15 j) := by
  intro j
  unfold cs_law15
  split
  · exact ⟨mo_cokV ct_X11_fault (by decide) ⟨_, _, rfl⟩ (by decide +kernel), m_X11_fault⟩
  · exact ⟨mo_cokV ct_X12_fault (by decide) ⟨_, _, rfl⟩ (by decide +kernel), m_X12_fault⟩
  · exact ⟨mo_cok0 g _, mo_mon0⟩
def p_law16 : List mo_I := [(748, 1, .aload_n 1, 1, 0, 0), (749, 1, .aload_n 0, 0, 0, 0), (750, 1, .iload_n 3, 3, 0, 0), (751, 1, .iconst (1), 0, 0, 1), (752, 1, .iadd, 0, 0, 0), (753, 1, .iaload, 0, 0, 0), (754, 1, .aload_n 0, 0, 0, 0), (755, 1, .iload_n 3, 3, 0, 0), (756, 1, .iconst (2), 0, 0, 2), (757, 1, .iadd, 0, 0, 0), (758, 1, .iaload, 0, 0, 0), (759, 1, .aload_n 0, 0, 0, 0), (760, 1, .iload_n 3, 3, 0, 0), (761, 1, .iconst (3), 0, 0, 3), (762, 1, .iadd, 0, 0, 0), (763, 1, .iaload, 0, 0, 0), (764, 3, .invokevirtual 83, 0, 0, 0), (767, 1, .aload_n 2, 2, 0, 0), (768, 1, .aload_n 0, 0, 0, 0), (769, 1, .iload_n 3, 3, 0, 0), (770, 1, .iconst (1), 0, 0, 1), (771, 1, .iadd, 0, 0, 0), (772, 1, .iaload, 0, 0, 0), (773, 1, .aload_n 0, 0, 0, 0), (774, 1, .iload_n 3, 3, 0, 0), (775, 1, .iconst (2), 0, 0, 2), (776, 1, .iadd, 0, 0, 0), (777, 1, .iaload, 0, 0, 0), (778, 1, .aload_n 0, 0, 0, 0), (779, 1, .iload_n 3, 3, 0, 0), (780, 1, .iconst (3), 0, 0, 3), (781, 1, .iadd, 0, 0, 0), (782, 1, .iaload, 0, 0, 0), (783, 3, .invokevirtual 86, 1, 0, 0), (786, 3, .if_icmp .eq (398), 1184, 0, 0), (789, 1, .iconst (0), 0, 0, 0), (790, 1, .ireturn, 0, 0, 0)]
theorem ok_law16 : mo_good t_law p_law16 = true ∧ mo_chain 748 p_law16 = true := by decide +kernel
def cs_law16 : Nat → mo_C := fun j => match j with
  | 0 => (4, true, 83, 11, S_X11_bad)
  | 1 => (4, true, 86, 12, S_X12_bad)
  | _ => (0, false, 0, 50, fun _ _ _ => False)
theorem cs_law16_ok (g : mo_E) : ∀ j, mo_cok g t_law (cs_law16 j) ∧ mo_mon (cs_law16 j) := by
  intro j
  unfold cs_law16
  split
  · exact ⟨mo_cokV ct_X11_bad (by decide) ⟨_, _, rfl⟩ (by decide +kernel), m_X11_bad⟩
  · exact ⟨mo_cokV ct_X12_bad (by decide) ⟨_, _, rfl⟩ (by decide +kernel), m_X12_bad⟩
  · exact ⟨mo_cok0 g _, mo_mon0⟩
def p_law17 : List mo_I := [(791, 1, .aload_n 1, 1, 0, 0), (792, 1, .aload_n 0, 0, 0, 0), (793, 1, .iload_n 3, 3, 0, 0), (794, 1, .iconst (1), 0, 0, 1), (795, 1, .iadd, 0, 0, 0), (796, 1, .iaload, 0, 0, 0), (797, 1, .aload_n 0, 0, 0, 0), (798, 1, .iload_n 3, 3, 0, 0), (799, 1, .iconst (2), 0, 0, 2), (800, 1, .iadd, 0, 0, 0), (801, 1, .iaload, 0, 0, 0), (802, 1, .aload_n 0, 0, 0, 0), (803, 1, .iload_n 3, 3, 0, 0), (804, 1, .iconst (3), 0, 0, 3), (805, 1, .iadd, 0, 0, 0), (806, 1, .iaload, 0, 0, 0), (807, 3, .invokevirtual 87, 0, 0, 0), (810, 1, .aload_n 2, 2, 0, 0), (811, 1, .aload_n 0, 0, 0, 0), (812, 1, .iload_n 3, 3, 0, 0), (813, 1, .iconst (1), 0, 0, 1), (814, 1, .iadd, 0, 0, 0), (815, 1, .iaload, 0, 0, 0), (816, 1, .aload_n 0, 0, 0, 0), (817, 1, .iload_n 3, 3, 0, 0), (818, 1, .iconst (2), 0, 0, 2), (819, 1, .iadd, 0, 0, 0), (820, 1, .iaload, 0, 0, 0), (821, 1, .aload_n 0, 0, 0, 0), (822, 1, .iload_n 3, 3, 0, 0), (823, 1, .iconst (3), 0, 0, 3), (824, 1, .iadd, 0, 0, 0), (825, 1, .iaload, 0, 0, 0), (826, 3, .invokevirtual 90, 1, 0, 0), (829, 3, .if_icmp .eq (355), 1184, 0, 0), (832, 1, .iconst (0), 0, 0, 0), (833, 1, .ireturn, 0, 0, 0)]
theorem ok_law17 : mo_good t_law p_law17 = true ∧ mo_chain 791 p_law17 = true := by decide +kernel
def cs_law17 : Nat → mo_C := fun j => match j with
  | 0 => (4, true, 87, 11, S_X11_hit)
  | 1 => (4, true, 90, 12, S_X12_hit)
  | _ => (0, false, 0, 50, fun _ _ _ => False)
theorem cs_law17_ok (g : mo_E) : ∀ j, mo_cok g t_law (cs_law17 j) ∧ mo_mon (cs_law17 j) := by
  intro j
  unfold cs_law17
  split
  · exact ⟨mo_cokV ct_X11_hit (by decide) ⟨_, _, rfl⟩ (by decide +kernel), m_X11_hit⟩
  · exact ⟨mo_cokV ct_X12_hit (by decide) ⟨_, _, rfl⟩ (by decide +kernel), m_X12_hit⟩
  · exact ⟨mo_cok0 g _, mo_mon0⟩
def p_law18 : List mo_I := [(834, 1, .aload_n 1, 1, 0, 0), (835, 1, .aload_n 0, 0, 0, 0), (836, 1, .iload_n 3, 3, 0, 0), (837, 1, .iconst (1), 0, 0, 1), (838, 1, .iadd, 0, 0, 0), (839, 1, .iaload, 0, 0, 0), (840, 1, .aload_n 0, 0, 0, 0), (841, 1, .iload_n 3, 3, 0, 0), (842, 1, .iconst (2), 0, 0, 2), (843, 1, .iadd, 0, 0, 0), (844, 1, .iaload, 0, 0, 0), (845, 1, .aload_n 0, 0, 0, 0), (846, 1, .iload_n 3, 3, 0, 0), (847, 1, .iconst (3), 0, 0, 3), (848, 1, .iadd, 0, 0, 0), (849, 1, .iaload, 0, 0, 0), (850, 1, .aload_n 0, 0, 0, 0), (851, 1, .iload_n 3, 3, 0, 0), (852, 1, .iconst (4), 0, 0, 4), (853, 1, .iadd, 0, 0, 0), (854, 1, .iaload, 0, 0, 0), (855, 3, .invokevirtual 91, 0, 0, 0), (858, 1, .aload_n 2, 2, 0, 0), (859, 1, .aload_n 0, 0, 0, 0), (860, 1, .iload_n 3, 3, 0, 0), (861, 1, .iconst (1), 0, 0, 1), (862, 1, .iadd, 0, 0, 0), (863, 1, .iaload, 0, 0, 0), (864, 1, .aload_n 0, 0, 0, 0), (865, 1, .iload_n 3, 3, 0, 0), (866, 1, .iconst (2), 0, 0, 2), (867, 1, .iadd, 0, 0, 0), (868, 1, .iaload, 0, 0, 0), (869, 1, .aload_n 0, 0, 0, 0), (870, 1, .iload_n 3, 3, 0, 0), (871, 1, .iconst (3), 0, 0, 3), (872, 1, .iadd, 0, 0, 0), (873, 1, .iaload, 0, 0, 0), (874, 1, .aload_n 0, 0, 0, 0), (875, 1, .iload_n 3, 3, 0, 0), (876, 1, .iconst (4), 0, 0, 4), (877, 1, .iadd, 0, 0, 0), (878, 1, .iaload, 0, 0, 0), (879, 3, .invokevirtual 94, 1, 0, 0), (882, 3, .if_icmp .eq (302), 1184, 0, 0), (885, 1, .iconst (0), 0, 0, 0), (886, 1, .ireturn, 0, 0, 0)]
theorem ok_law18 : mo_good t_law p_law18 = true ∧ mo_chain 834 p_law18 = true := by decide +kernel
def cs_law18 : Nat → mo_C := fun j => match j with
  | 0 => (5, true, 91, 11, S_X11_way)
  | 1 => (5, true, 94, 12, S_X12_way)
  | _ => (0, false, 0, 50, fun _ _ _ => False)
theorem cs_law18_ok (g : mo_E) : ∀ j, mo_cok g t_law (cs_law18 j) ∧ mo_mon (cs_law18 j) := by
  intro j
  unfold cs_law18
  split
  · exact ⟨mo_cokV ct_X11_way (by decide) ⟨_, _, rfl⟩ (by decide +kernel), m_X11_way⟩
  · exact ⟨mo_cokV ct_X12_way (by decide) ⟨_, _, rfl⟩ (by decide +kernel), m_X12_way⟩
  · exact ⟨mo_cok0 g _, mo_mon0⟩
def p_law19 : List mo_I := [(887, 1, .aload_n 1, 1, 0, 0), (888, 1, .aload_n 0, 0, 0, 0), (889, 1, .iload_n 3, 3, 0, 0), (890, 1, .iconst (1), 0, 0, 1), (891, 1, .iadd, 0, 0, 0), (892, 1, .iaload, 0, 0, 0), (893, 1, .aload_n 0, 0, 0, 0), (894, 1, .iload_n 3, 3, 0, 0), (895, 1, .iconst (2), 0, 0, 2), (896, 1, .iadd, 0, 0, 0), (897, 1, .iaload, 0, 0, 0), (898, 1, .aload_n 0, 0, 0, 0), (899, 1, .iload_n 3, 3, 0, 0), (900, 1, .iconst (3), 0, 0, 3), (901, 1, .iadd, 0, 0, 0), (902, 1, .iaload, 0, 0, 0), (903, 1, .aload_n 0, 0, 0, 0), (904, 1, .iload_n 3, 3, 0, 0), (905, 1, .iconst (4), 0, 0, 4), (906, 1, .iadd, 0, 0, 0), (907, 1, .iaload, 0, 0, 0), (908, 3, .invokevirtual 95, 0, 0, 0), (911, 1, .aload_n 2, 2, 0, 0), (912, 1, .aload_n 0, 0, 0, 0), (913, 1, .iload_n 3, 3, 0, 0), (914, 1, .iconst (1), 0, 0, 1), (915, 1, .iadd, 0, 0, 0), (916, 1, .iaload, 0, 0, 0), (917, 1, .aload_n 0, 0, 0, 0), (918, 1, .iload_n 3, 3, 0, 0), (919, 1, .iconst (2), 0, 0, 2), (920, 1, .iadd, 0, 0, 0), (921, 1, .iaload, 0, 0, 0), (922, 1, .aload_n 0, 0, 0, 0), (923, 1, .iload_n 3, 3, 0, 0), (924, 1, .iconst (3), 0, 0, 3), (925, 1, .iadd, 0, 0, 0), (926, 1, .iaload, 0, 0, 0), (927, 1, .aload_n 0, 0, 0, 0), (928, 1, .iload_n 3, 3, 0, 0), (929, 1, .iconst (4), 0, 0, 4), (930, 1, .iadd, 0, 0, 0), (931, 1, .iaload, 0, 0, 0), (932, 3, .invokevirtual 98, 1, 0, 0), (935, 3, .if_icmp .eq (249), 1184, 0, 0), (938, 1, .iconst (0), 0, 0, 0), (939, 1, .ireturn, 0, 0, 0)]
theorem ok_law19 : mo_good t_law p_law19 = true ∧ mo_chain 887 p_law19 = true := by decide +kernel
def cs_law19 : Nat → mo_C := fun j => match j with
  | 0 => (5, true, 95, 11, S_X11_has)
  | 1 => (5, true, 98, 12, S_X12_has)
  | _ => (0, false, 0, 50, fun _ _ _ => False)
theorem cs_law19_ok (g : mo_E) : ∀ j, mo_cok g t_law (cs_law19 j) ∧ mo_mon (cs_law19 j) := by
  intro j
  unfold cs_law19
  split
  · exact ⟨mo_cokV ct_X11_has (by decide) ⟨_, _, rfl⟩ (by decide +kernel), m_X11_has⟩
  · exact ⟨mo_cokV ct_X12_has (by decide) ⟨_, _, rfl⟩ (by decide +kernel), m_X12_has⟩
  · exact ⟨mo_cok0 g _, mo_mon0⟩
def p_law20 : List mo_I := [(940, 1, .aload_n 1, 1, 0, 0), (941, 1, .aload_n 0, 0, 0, 0), (942, 1, .iload_n 3, 3, 0, 0), (943, 1, .iconst (1), 0, 0, 1), (944, 1, .iadd, 0, 0, 0), (945, 1, .iaload, 0, 0, 0), (946, 1, .aload_n 0, 0, 0, 0), (947, 1, .iload_n 3, 3, 0, 0), (948, 1, .iconst (2), 0, 0, 2), (949, 1, .iadd, 0, 0, 0), (950, 1, .iaload, 0, 0, 0), (951, 1, .aload_n 0, 0, 0, 0), (952, 1, .iload_n 3, 3, 0, 0), (953, 1, .iconst (3), 0, 0, 3), (954, 1, .iadd, 0, 0, 0), (955, 1, .iaload, 0, 0, 0), (956, 3, .invokevirtual 99, 0, 0, 0), (959, 1, .aload_n 2, 2, 0, 0), (960, 1, .aload_n 0, 0, 0, 0), (961, 1, .iload_n 3, 3, 0, 0), (962, 1, .iconst (1), 0, 0, 1), (963, 1, .iadd, 0, 0, 0), (964, 1, .iaload, 0, 0, 0), (965, 1, .aload_n 0, 0, 0, 0), (966, 1, .iload_n 3, 3, 0, 0), (967, 1, .iconst (2), 0, 0, 2), (968, 1, .iadd, 0, 0, 0), (969, 1, .iaload, 0, 0, 0), (970, 1, .aload_n 0, 0, 0, 0), (971, 1, .iload_n 3, 3, 0, 0), (972, 1, .iconst (3), 0, 0, 3), (973, 1, .iadd, 0, 0, 0), (974, 1, .iaload, 0, 0, 0), (975, 3, .invokevirtual 102, 1, 0, 0), (978, 3, .if_icmp .eq (206), 1184, 0, 0), (981, 1, .iconst (0), 0, 0, 0), (982, 1, .ireturn, 0, 0, 0)]
theorem ok_law20 : mo_good t_law p_law20 = true ∧ mo_chain 940 p_law20 = true := by decide +kernel
def cs_law20 : Nat → mo_C := fun j => match j with
  | 0 => (4, true, 99, 11, S_X11_since)
  | 1 => (4, true, 102, 12, S_X12_since)
  | _ => (0, false, 0, 50, fun _ _ _ => False)
theorem cs_law20_ok (g : mo_E) : ∀ j, mo_cok g t_law (cs_law20 j) ∧ mo_mon (cs_law20 j) := by
  intro j
  unfold cs_law20
  split
  · exact ⟨mo_cokV ct_X11_since (by decide) ⟨_, _, rfl⟩ (by decide +kernel), m_X11_since⟩
  · exact ⟨mo_cokV ct_X12_since (by decide) ⟨_, _, rfl⟩ (by decide +kernel), m_X12_since⟩
  · exact ⟨mo_cok0 g _, mo_mon0⟩
def p_law21 : List mo_I := [(983, 1, .aload_n 1, 1, 0, 0), (984, 1, .aload_n 0, 0, 0, 0), (985, 1, .iload_n 3, 3, 0, 0), (986, 1, .iconst (1), 0, 0, 1), (987, 1, .iadd, 0, 0, 0), (988, 1, .iaload, 0, 0, 0), (989, 1, .aload_n 0, 0, 0, 0), (990, 1, .iload_n 3, 3, 0, 0), (991, 1, .iconst (2), 0, 0, 2), (992, 1, .iadd, 0, 0, 0), (993, 1, .iaload, 0, 0, 0), (994, 1, .aload_n 0, 0, 0, 0), (995, 1, .iload_n 3, 3, 0, 0), (996, 1, .iconst (3), 0, 0, 3), (997, 1, .iadd, 0, 0, 0), (998, 1, .iaload, 0, 0, 0), (999, 3, .invokevirtual 103, 0, 0, 0), (1002, 1, .aload_n 2, 2, 0, 0), (1003, 1, .aload_n 0, 0, 0, 0), (1004, 1, .iload_n 3, 3, 0, 0), (1005, 1, .iconst (1), 0, 0, 1), (1006, 1, .iadd, 0, 0, 0), (1007, 1, .iaload, 0, 0, 0), (1008, 1, .aload_n 0, 0, 0, 0), (1009, 1, .iload_n 3, 3, 0, 0), (1010, 1, .iconst (2), 0, 0, 2), (1011, 1, .iadd, 0, 0, 0), (1012, 1, .iaload, 0, 0, 0), (1013, 1, .aload_n 0, 0, 0, 0), (1014, 1, .iload_n 3, 3, 0, 0), (1015, 1, .iconst (3), 0, 0, 3), (1016, 1, .iadd, 0, 0, 0), (1017, 1, .iaload, 0, 0, 0), (1018, 3, .invokevirtual 106, 1, 0, 0), (1021, 3, .if_icmp .eq (163), 1184, 0, 0), (1024, 1, .iconst (0), 0, 0, 0), (1025, 1, .ireturn, 0, 0, 0)]
theorem ok_law21 : mo_good t_law p_law21 = true ∧ mo_chain 983 p_law21 = true := by decide +kernel
def cs_law21 : Nat → mo_C := fun j => match j with
  | 0 => (4, true, 103, 11, S_X11_gaps)
  | 1 => (4, true, 106, 12, S_X12_gaps)
  | _ => (0, false, 0, 50, fun _ _ _ => False)
theorem cs_law21_ok (g : mo_E) : ∀ j, mo_cok g t_law (cs_law21 j) ∧ mo_mon (cs_law21 j) := by
  intro j
  unfold cs_law21
  split
  · exact ⟨mo_cokV ct_X11_gaps (by decide) ⟨_, _, rfl⟩ (by decide +kernel), m_X11_gaps⟩
  · exact ⟨mo_cokV ct_X12_gaps (by decide) ⟨_, _, rfl⟩ (by decide +kernel), m_X12_gaps⟩
  · exact ⟨mo_cok0 g _, mo_mon0⟩
def p_law22 : List mo_I := [(1026, 1, .aload_n 1, 1, 0, 0), (1027, 1, .aload_n 0, 0, 0, 0), (1028, 1, .iload_n 3, 3, 0, 0), (1029, 1, .iconst (1), 0, 0, 1), (1030, 1, .iadd, 0, 0, 0), (1031, 1, .iaload, 0, 0, 0), (1032, 1, .aload_n 0, 0, 0, 0), (1033, 1, .iload_n 3, 3, 0, 0), (1034, 1, .iconst (2), 0, 0, 2), (1035, 1, .iadd, 0, 0, 0), (1036, 1, .iaload, 0, 0, 0), (1037, 3, .invokevirtual 107, 0, 0, 0), (1040, 1, .aload_n 2, 2, 0, 0), (1041, 1, .aload_n 0, 0, 0, 0), (1042, 1, .iload_n 3, 3, 0, 0), (1043, 1, .iconst (1), 0, 0, 1), (1044, 1, .iadd, 0, 0, 0), (1045, 1, .iaload, 0, 0, 0), (1046, 1, .aload_n 0, 0, 0, 0), (1047, 1, .iload_n 3, 3, 0, 0), (1048, 1, .iconst (2), 0, 0, 2), (1049, 1, .iadd, 0, 0, 0), (1050, 1, .iaload, 0, 0, 0), (1051, 3, .invokevirtual 110, 1, 0, 0), (1054, 3, .if_icmp .eq (130), 1184, 0, 0), (1057, 1, .iconst (0), 0, 0, 0), (1058, 1, .ireturn, 0, 0, 0)]
theorem ok_law22 : mo_good t_law p_law22 = true ∧ mo_chain 1026 p_law22 = true := by decide +kernel
def cs_law22 : Nat → mo_C := fun j => match j with
  | 0 => (3, true, 107, 11, S_X11_ring)
  | 1 => (3, true, 110, 12, S_X12_ring)
  | _ => (0, false, 0, 50, fun _ _ _ => False)
theorem cs_law22_ok (g : mo_E) : ∀ j, mo_cok g t_law (cs_law22 j) ∧ mo_mon (cs_law22 j) := by
  intro j
  unfold cs_law22
  split
  · exact ⟨mo_cokV ct_X11_ring (by decide) ⟨_, _, rfl⟩ (by decide +kernel), m_X11_ring⟩
  · exact ⟨mo_cokV ct_X12_ring (by decide) ⟨_, _, rfl⟩ (by decide +kernel), m_X12_ring⟩
  · exact ⟨mo_cok0 g _, mo_mon0⟩
def p_law23 : List mo_I := [(1059, 1, .aload_n 1, 1, 0, 0), (1060, 1, .aload_n 0, 0, 0, 0), (1061, 1, .iload_n 3, 3, 0, 0), (1062, 1, .iconst (1), 0, 0, 1), (1063, 1, .iadd, 0, 0, 0), (1064, 1, .iaload, 0, 0, 0), (1065, 3, .invokevirtual 111, 0, 0, 0), (1068, 1, .aload_n 2, 2, 0, 0), (1069, 1, .aload_n 0, 0, 0, 0), (1070, 1, .iload_n 3, 3, 0, 0), (1071, 1, .iconst (1), 0, 0, 1), (1072, 1, .iadd, 0, 0, 0), (1073, 1, .iaload, 0, 0, 0), (1074, 3, .invokevirtual 114, 1, 0, 0), (1077, 3, .if_icmp .eq (107), 1184, 0, 0), (1080, 1, .iconst (0), 0, 0, 0), (1081, 1, .ireturn, 0, 0, 0)]
theorem ok_law23 : mo_good t_law p_law23 = true ∧ mo_chain 1059 p_law23 = true := by decide +kernel
def cs_law23 : Nat → mo_C := fun j => match j with
  | 0 => (2, true, 111, 11, S_X11_calls)
  | 1 => (2, true, 114, 12, S_X12_calls)
  | _ => (0, false, 0, 50, fun _ _ _ => False)
theorem cs_law23_ok (g : mo_E) : ∀ j, mo_cok g t_law (cs_law23 j) ∧ mo_mon (cs_law23 j) := by
  intro j
  unfold cs_law23
  split
  · exact ⟨mo_cokV ct_X11_calls (by decide) ⟨_, _, rfl⟩ (by decide +kernel), m_X11_calls⟩
  · exact ⟨mo_cokV ct_X12_calls (by decide) ⟨_, _, rfl⟩ (by decide +kernel), m_X12_calls⟩
  · exact ⟨mo_cok0 g _, mo_mon0⟩
def p_law24 : List mo_I := [(1082, 1, .aload_n 1, 1, 0, 0), (1083, 1, .aload_n 0, 0, 0, 0), (1084, 1, .iload_n 3, 3, 0, 0), (1085, 1, .iconst (1), 0, 0, 1), (1086, 1, .iadd, 0, 0, 0), (1087, 1, .iaload, 0, 0, 0), (1088, 1, .aload_n 0, 0, 0, 0), (1089, 1, .iload_n 3, 3, 0, 0), (1090, 1, .iconst (2), 0, 0, 2), (1091, 1, .iadd, 0, 0, 0), (1092, 1, .iaload, 0, 0, 0), (1093, 1, .aload_n 0, 0, 0, 0), (1094, 1, .iload_n 3, 3, 0, 0), (1095, 1, .iconst (3), 0, 0, 3), (1096, 1, .iadd, 0, 0, 0), (1097, 1, .iaload, 0, 0, 0), (1098, 3, .invokevirtual 115, 0, 0, 0), (1101, 1, .aload_n 2, 2, 0, 0), (1102, 1, .aload_n 0, 0, 0, 0), (1103, 1, .iload_n 3, 3, 0, 0), (1104, 1, .iconst (1), 0, 0, 1), (1105, 1, .iadd, 0, 0, 0), (1106, 1, .iaload, 0, 0, 0), (1107, 1, .aload_n 0, 0, 0, 0), (1108, 1, .iload_n 3, 3, 0, 0), (1109, 1, .iconst (2), 0, 0, 2), (1110, 1, .iadd, 0, 0, 0), (1111, 1, .iaload, 0, 0, 0), (1112, 1, .aload_n 0, 0, 0, 0), (1113, 1, .iload_n 3, 3, 0, 0), (1114, 1, .iconst (3), 0, 0, 3), (1115, 1, .iadd, 0, 0, 0), (1116, 1, .iaload, 0, 0, 0), (1117, 3, .invokevirtual 118, 1, 0, 0), (1120, 3, .if_icmp .eq (64), 1184, 0, 0), (1123, 1, .iconst (0), 0, 0, 0), (1124, 1, .ireturn, 0, 0, 0)]
theorem ok_law24 : mo_good t_law p_law24 = true ∧ mo_chain 1082 p_law24 = true := by decide +kernel
def cs_law24 : Nat → mo_C := fun j => match j with
  | 0 => (4, true, 115, 11, S_X11_recall)
  | 1 => (4, true, 118, 12, S_X12_recall)
  | _ => (0, false, 0, 50, fun _ _ _ => False)
theorem cs_law24_ok (g : mo_E) : ∀ j, mo_cok g t_law (cs_law24 j) ∧ mo_mon (cs_law24 j) := by
  intro j
  unfold cs_law24
  split
  · exact ⟨mo_cokV ct_X11_recall (by decide) ⟨_, _, rfl⟩ (by decide +kernel), m_X11_recall⟩
  · exact ⟨mo_cokV ct_X12_recall (by decide) ⟨_, _, rfl⟩ (by decide +kernel), m_X12_recall⟩
  · exact ⟨mo_cok0 g _, mo_mon0⟩
def p_law25 : List mo_I := [(1125, 1, .aload_n 1, 1, 0, 0), (1126, 1, .aload_n 0, 0, 0, 0), (1127, 1, .iload_n 3, 3, 0, 0), (1128, 1, .iconst (1), 0, 0, 1), (1129, 1, .iadd, 0, 0, 0), (1130, 1, .iaload, 0, 0, 0), (1131, 3, .invokevirtual 119, 0, 0, 0), (1134, 1, .aload_n 2, 2, 0, 0), (1135, 1, .aload_n 0, 0, 0, 0), (1136, 1, .iload_n 3, 3, 0, 0), (1137, 1, .iconst (1), 0, 0, 1), (1138, 1, .iadd, 0, 0, 0), (1139, 1, .iaload, 0, 0, 0), (1140, 3, .invokevirtual 122, 1, 0, 0), (1143, 3, .if_icmp .eq (41), 1184, 0, 0), (1146, 1, .iconst (0), 0, 0, 0), (1147, 1, .ireturn, 0, 0, 0)]
theorem ok_law25 : mo_good t_law p_law25 = true ∧ mo_chain 1125 p_law25 = true := by decide +kernel
def cs_law25 : Nat → mo_C := fun j => match j with
  | 0 => (2, true, 119, 11, S_X11_told)
  | 1 => (2, true, 122, 12, S_X12_told)
  | _ => (0, false, 0, 50, fun _ _ _ => False)
theorem cs_law25_ok (g : mo_E) : ∀ j, mo_cok g t_law (cs_law25 j) ∧ mo_mon (cs_law25 j) := by
  intro j
  unfold cs_law25
  split
  · exact ⟨mo_cokV ct_X11_told (by decide) ⟨_, _, rfl⟩ (by decide +kernel), m_X11_told⟩
  · exact ⟨mo_cokV ct_X12_told (by decide) ⟨_, _, rfl⟩ (by decide +kernel), m_X12_told⟩
  · exact ⟨mo_cok0 g _, mo_mon0⟩
def p_law26 : List mo_I := [(1148, 1, .aload_n 1, 1, 0, 0), (1149, 1, .aload_n 0, 0, 0, 0), (1150, 1, .iload_n 3, 3, 0, 0), (1151, 1, .iconst (1), 0, 0, 1), (1152, 1, .iadd, 0, 0, 0), (1153, 1, .iaload, 0, 0, 0), (1154, 3, .invokevirtual 123, 0, 0, 0), (1157, 1, .aload_n 2, 2, 0, 0), (1158, 1, .aload_n 0, 0, 0, 0), (1159, 1, .iload_n 3, 3, 0, 0), (1160, 1, .iconst (1), 0, 0, 1), (1161, 1, .iadd, 0, 0, 0), (1162, 1, .iaload, 0, 0, 0), (1163, 3, .invokevirtual 126, 1, 0, 0), (1166, 3, .if_icmp .eq (18), 1184, 0, 0), (1169, 1, .iconst (0), 0, 0, 0), (1170, 1, .ireturn, 0, 0, 0)]
theorem ok_law26 : mo_good t_law p_law26 = true ∧ mo_chain 1148 p_law26 = true := by decide +kernel
def cs_law26 : Nat → mo_C := fun j => match j with
  | 0 => (2, true, 123, 11, S_X11_count)
  | 1 => (2, true, 126, 12, S_X12_count)
  | _ => (0, false, 0, 50, fun _ _ _ => False)
theorem cs_law26_ok (g : mo_E) : ∀ j, mo_cok g t_law (cs_law26 j) ∧ mo_mon (cs_law26 j) := by
  intro j
  unfold cs_law26
  split
  · exact ⟨mo_cokV ct_X11_count (by decide) ⟨_, _, rfl⟩ (by decide +kernel), m_X11_count⟩
  · exact ⟨mo_cokV ct_X12_count (by decide) ⟨_, _, rfl⟩ (by decide +kernel), m_X12_count⟩
  · exact ⟨mo_cok0 g _, mo_mon0⟩
def p_law27 : List mo_I := [(1171, 1, .aload_n 1, 1, 0, 0), (1172, 3, .invokevirtual 127, 0, 0, 0), (1175, 1, .aload_n 2, 2, 0, 0), (1176, 3, .invokevirtual 130, 1, 0, 0), (1179, 3, .if_icmp .eq (5), 1184, 0, 0), (1182, 1, .iconst (0), 0, 0, 0), (1183, 1, .ireturn, 0, 0, 0)]
theorem ok_law27 : mo_good t_law p_law27 = true ∧ mo_chain 1171 p_law27 = true := by decide +kernel
def cs_law27 : Nat → mo_C := fun j => match j with
  | 0 => (1, true, 127, 11, S_X11_status)
  | 1 => (1, true, 130, 12, S_X12_status)
  | _ => (0, false, 0, 50, fun _ _ _ => False)
theorem cs_law27_ok (g : mo_E) : ∀ j, mo_cok g t_law (cs_law27 j) ∧ mo_mon (cs_law27 j) := by
  intro j
  unfold cs_law27
  split
  · exact ⟨mo_cokV ct_X11_status (by decide) ⟨_, _, rfl⟩ (by decide +kernel), m_X11_status⟩
  · exact ⟨mo_cokV ct_X12_status (by decide) ⟨_, _, rfl⟩ (by decide +kernel), m_X12_status⟩
  · exact ⟨mo_cok0 g _, mo_mon0⟩
def p_lawt : List mo_I := [(1184, 3, .iinc 3 (6), 3, 0, 6), (1187, 3, .goto (-1169), 18, 0, 0)]
theorem ok_lawt : mo_good t_law p_lawt = true ∧ mo_chain 1184 p_lawt = true := by decide +kernel
def p_lawe : List mo_I := [(1190, 1, .iconst (1), 0, 0, 1), (1191, 1, .ireturn, 0, 0, 0)]
theorem ok_lawe : mo_good t_law p_lawe = true ∧ mo_chain 1190 p_lawe = true := by decide +kernel
theorem mo_goS {g : mo_E} {mt : mo_T} {Q : mo_Q} {cs : Nat → mo_C} {p : List mo_I} {p0 : Nat} (hok : mo_good mt p = true ∧ mo_chain p0 p = true) (hcs : ∀ j, mo_cok g mt (cs j) ∧ mo_mon (cs j)) (sp : List Nat) (n : Nat) {pc : Nat} {ls : mo_L} {st : List mo_V} {σ : mo_M} (h : ∀ K : mo_K, (∀ a b c d, mo_X g mt Q a b c d → K a b c d) → mo_fw g.2.2.2.2 mt.2.2.1 mt.2.2.2.1 cs K Q sp n (mo_seek p pc) pc ls st σ) : mo_X g mt Q pc ls st σ :=
  mo_fw_ok (fun _ _ _ _ h => h) hcs n _ pc (mo_seek_chain p p0 pc hok.2) (mo_seek_good p pc hok.1) ls st σ (h _ (fun _ _ _ _ h => h))
