/-! 11: tables of class 9, 0 -/
def t_X9_init : List (Nat × rw_) := [(0, (.aload_n 0, 1, 0, 0, 0, 0, 0, 0, 0, 0, [])), (1, (.invokespecial 1, 3, 0, 0, 0, 6, 0, 0, 0, 0, [])), (4, (.aload_n 0, 1, 0, 0, 0, 0, 0, 0, 0, 0, [])), (5, (.bipush 10, 2, 0, 10, 0, 0, 0, 0, 0, 0, [])), (7, (.putfield 7, 3, 0, 0, 0, 9, 7, 0, 0, 0, [])), (10, (.aload_n 0, 1, 0, 0, 0, 0, 0, 0, 0, 0, [])), (11, (.bipush 12, 2, 0, 12, 0, 0, 0, 0, 0, 0, [])), (13, (.newarray .int, 2, 0, 0, 0, 0, 0, 0, 0, 0, [])), (15, (.putfield 13, 3, 2, 0, 0, 9, 8, 1, 0, 0, [])), (18, (.aload_n 0, 1, 0, 0, 0, 0, 0, 0, 0, 0, [])), (19, (.bipush 12, 2, 0, 12, 0, 0, 0, 0, 0, 0, [])), (21, (.newarray .int, 2, 0, 0, 0, 0, 0, 0, 0, 0, [])), (23, (.putfield 17, 3, 2, 0, 0, 9, 9, 1, 0, 0, [])), (26, (.aload_n 0, 1, 0, 0, 0, 0, 0, 0, 0, 0, [])), (27, (.bipush 12, 2, 0, 12, 0, 0, 0, 0, 0, 0, [])), (29, (.newarray .int, 2, 0, 0, 0, 0, 0, 0, 0, 0, [])), (31, (.putfield 20, 3, 2, 0, 0, 9, 10, 1, 0, 0, [])), (34, (.aload_n 0, 1, 0, 0, 0, 0, 0, 0, 0, 0, [])), (35, (.bipush 12, 2, 0, 12, 0, 0, 0, 0, 0, 0, [])), (37, (.newarray .int, 2, 0, 0, 0, 0, 0, 0, 0, 0, [])), (39, (.putfield 23, 3, 2, 0, 0, 9, 11, 1, 0, 0, [])), (42, (.aload_n 0, 1, 0, 0, 0, 0, 0, 0, 0, 0, [])), (43, (.bipush 12, 2, 0, 12, 0, 0, 0, 0, 0, 0, [])), (45, (.newarray .int, 2, 0, 0, 0, 0, 0, 0, 0, 0, [])), (47, (.putfield 26, 3, 2, 0, 0, 9, 12, 1, 0, 0, [])), (50, (.aload_n 0, 1, 0, 0, 0, 0, 0, 0, 0, 0, [])), (51, (.bipush 12, 2, 0, 12, 0, 0, 0, 0, 0, 0, [])), (53, (.newarray .int, 2, 0, 0, 0, 0, 0, 0, 0, 0, [])), (55, (.putfield 29, 3, 2, 0, 0, 9, 13, 1, 0, 0, [])), (58, (.aload_n 0, 1, 0, 0, 0, 0, 0, 0, 0, 0, [])), (59, (.bipush 96, 2, 0, 96, 0, 0, 0, 0, 0, 0, [])), (61, (.newarray .int, 2, 0, 0, 0, 0, 0, 0, 0, 0, [])), (63, (.putfield 32, 3, 2, 0, 0, 9, 14, 1, 0, 0, [])), (66, (.aload_n 0, 1, 0, 0, 0, 0, 0, 0, 0, 0, [])), (67, (.bipush 24, 2, 0, 24, 0, 0, 0, 0, 0, 0, [])), (69, (.newarray .int, 2, 0, 0, 0, 0, 0, 0, 0, 0, [])), (71, (.putfield 35, 3, 2, 0, 0, 9, 15, 1, 0, 0, [])), (74, (.aload_n 0, 1, 0, 0, 0, 0, 0, 0, 0, 0, [])), (75, (.bipush 24, 2, 0, 24, 0, 0, 0, 0, 0, 0, [])), (77, (.newarray .int, 2, 0, 0, 0, 0, 0, 0, 0, 0, [])), (79, (.putfield 38, 3, 2, 0, 0, 9, 16, 1, 0, 0, [])), (82, (.aload_n 0, 1, 0, 0, 0, 0, 0, 0, 0, 0, [])), (83, (.bipush 24, 2, 0, 24, 0, 0, 0, 0, 0, 0, [])), (85, (.newarray .int, 2, 0, 0, 0, 0, 0, 0, 0, 0, [])), (87, (.putfield 41, 3, 2, 0, 0, 9, 17, 1, 0, 0, [])), (90, (.aload_n 0, 1, 0, 0, 0, 0, 0, 0, 0, 0, [])), (91, (.bipush 24, 2, 0, 24, 0, 0, 0, 0, 0, 0, [])), (93, (.newarray .int, 2, 0, 0, 0, 0, 0, 0, 0, 0, [])), (95, (.putfield 44, 3, 2, 0, 0, 9, 18, 1, 0, 0, [])), (98, (.aload_n 0, 1, 0, 0, 0, 0, 0, 0, 0, 0, [])), (99, (.bipush 24, 2, 0, 24, 0, 0, 0, 0, 0, 0, [])), (101, (.newarray .int, 2, 0, 0, 0, 0, 0, 0, 0, 0, [])), (103, (.putfield 47, 3, 2, 0, 0, 9, 19, 1, 0, 0, [])), (106, (.aload_n 0, 1, 0, 0, 0, 0, 0, 0, 0, 0, [])), (107, (.bipush 24, 2, 0, 24, 0, 0, 0, 0, 0, 0, [])), (109, (.newarray .int, 2, 0, 0, 0, 0, 0, 0, 0, 0, [])), (111, (.putfield 50, 3, 2, 0, 0, 9, 20, 1, 0, 0, [])), (114, (.aload_n 0, 1, 0, 0, 0, 0, 0, 0, 0, 0, [])), (115, (.sipush 200, 3, 0, 200, 0, 0, 0, 0, 0, 0, [])), (118, (.newarray .int, 2, 0, 0, 0, 0, 0, 0, 0, 0, [])), (120, (.putfield 53, 3, 2, 0, 0, 9, 21, 1, 0, 0, [])), (123, (.aload_n 0, 1, 0, 0, 0, 0, 0, 0, 0, 0, [])), (124, (.sipush 200, 3, 0, 200, 0, 0, 0, 0, 0, 0, [])), (127, (.newarray .int, 2, 0, 0, 0, 0, 0, 0, 0, 0, [])), (129, (.putfield 56, 3, 2, 0, 0, 9, 22, 1, 0, 0, [])), (132, (.aload_n 0, 1, 0, 0, 0, 0, 0, 0, 0, 0, [])), (133, (.sipush 200, 3, 0, 200, 0, 0, 0, 0, 0, 0, [])), (136, (.newarray .int, 2, 0, 0, 0, 0, 0, 0, 0, 0, [])), (138, (.putfield 59, 3, 2, 0, 0, 9, 23, 1, 0, 0, [])), (141, (.aload_n 0, 1, 0, 0, 0, 0, 0, 0, 0, 0, [])), (142, (.sipush 200, 3, 0, 200, 0, 0, 0, 0, 0, 0, [])), (145, (.newarray .int, 2, 0, 0, 0, 0, 0, 0, 0, 0, [])), (147, (.putfield 62, 3, 2, 0, 0, 9, 24, 1, 0, 0, [])), (150, (.aload_n 0, 1, 0, 0, 0, 0, 0, 0, 0, 0, [])), (151, (.bipush 24, 2, 0, 24, 0, 0, 0, 0, 0, 0, [])), (153, (.newarray .int, 2, 0, 0, 0, 0, 0, 0, 0, 0, [])), (155, (.putfield 65, 3, 2, 0, 0, 9, 25, 1, 0, 0, [])), (158, (.aload_n 0, 1, 0, 0, 0, 0, 0, 0, 0, 0, [])), (159, (.bipush 24, 2, 0, 24, 0, 0, 0, 0, 0, 0, [])), (161, (.newarray .int, 2, 0, 0, 0, 0, 0, 0, 0, 0, [])), (163, (.putfield 68, 3, 2, 0, 0, 9, 26, 1, 0, 0, [])), (166, (.aload_n 0, 1, 0, 0, 0, 0, 0, 0, 0, 0, [])), (167, (.bipush 24, 2, 0, 24, 0, 0, 0, 0, 0, 0, [])), (169, (.newarray .int, 2, 0, 0, 0, 0, 0, 0, 0, 0, [])), (171, (.putfield 71, 3, 2, 0, 0, 9, 27, 1, 0, 0, [])), (174, (.aload_n 0, 1, 0, 0, 0, 0, 0, 0, 0, 0, [])), (175, (.bipush 24, 2, 0, 24, 0, 0, 0, 0, 0, 0, [])), (177, (.newarray .int, 2, 0, 0, 0, 0, 0, 0, 0, 0, [])), (179, (.putfield 74, 3, 2, 0, 0, 9, 28, 1, 0, 0, [])), (182, (.aload_n 0, 1, 0, 0, 0, 0, 0, 0, 0, 0, [])), (183, (.sipush 400, 3, 0, 400, 0, 0, 0, 0, 0, 0, [])), (186, (.newarray .byte, 2, 0, 0, 0, 1, 0, 0, 0, 0, [])), (188, (.putfield 77, 3, 2, 0, 0, 9, 37, 1, 0, 0, [])), (191, (.aload_n 0, 1, 0, 0, 0, 0, 0, 0, 0, 0, [])), (192, (.sipush 2400, 3, 0, 2400, 0, 0, 0, 0, 0, 0, [])), (195, (.newarray .int, 2, 0, 0, 0, 0, 0, 0, 0, 0, [])), (197, (.putfield 81, 3, 2, 0, 0, 9, 38, 1, 0, 0, [])), (200, (.aload_n 0, 1, 0, 0, 0, 0, 0, 0, 0, 0, [])), (201, (.sipush 2400, 3, 0, 2400, 0, 0, 0, 0, 0, 0, [])), (204, (.newarray .int, 2, 0, 0, 0, 0, 0, 0, 0, 0, [])), (206, (.putfield 84, 3, 2, 0, 0, 9, 39, 1, 0, 0, [])), (209, (.aload_n 0, 1, 0, 0, 0, 0, 0, 0, 0, 0, [])), (210, (.bipush 8, 2, 0, 8, 0, 0, 0, 0, 0, 0, [])), (212, (.newarray .int, 2, 0, 0, 0, 0, 0, 0, 0, 0, [])), (214, (.putfield 87, 3, 2, 0, 0, 9, 40, 1, 0, 0, [])), (217, (.aload_n 0, 1, 0, 0, 0, 0, 0, 0, 0, 0, [])), (218, (.bipush 96, 2, 0, 96, 0, 0, 0, 0, 0, 0, [])), (220, (.newarray .int, 2, 0, 0, 0, 0, 0, 0, 0, 0, [])), (222, (.putfield 90, 3, 2, 0, 0, 9, 41, 1, 0, 0, [])), (225, (.aload_n 0, 1, 0, 0, 0, 0, 0, 0, 0, 0, [])), (226, (.bipush 96, 2, 0, 96, 0, 0, 0, 0, 0, 0, [])), (228, (.newarray .int, 2, 0, 0, 0, 0, 0, 0, 0, 0, [])), (230, (.putfield 93, 3, 2, 0, 0, 9, 42, 1, 0, 0, [])), (233, (.aload_n 0, 1, 0, 0, 0, 0, 0, 0, 0, 0, [])), (234, (.bipush 96, 2, 0, 96, 0, 0, 0, 0, 0, 0, [])), (236, (.newarray .int, 2, 0, 0, 0, 0, 0, 0, 0, 0, [])), (238, (.putfield 96, 3, 2, 0, 0, 9, 43, 1, 0, 0, [])), (241, (.aload_n 0, 1, 0, 0, 0, 0, 0, 0, 0, 0, [])), (242, (.bipush 96, 2, 0, 96, 0, 0, 0, 0, 0, 0, [])), (244, (.newarray .int, 2, 0, 0, 0, 0, 0, 0, 0, 0, [])), (246, (.putfield 99, 3, 2, 0, 0, 9, 44, 1, 0, 0, [])), (249, (.aload_n 0, 1, 0, 0, 0, 0, 0, 0, 0, 0, [])), (250, (.sipush 402, 3, 0, 402, 0, 0, 0, 0, 0, 0, [])), (253, (.newarray .int, 2, 0, 0, 0, 0, 0, 0, 0, 0, [])), (255, (.putfield 102, 3, 2, 0, 0, 9, 45, 1, 0, 0, [])), (258, (.aload_n 0, 1, 0, 0, 0, 0, 0, 0, 0, 0, [])), (259, (.bipush 13, 2, 0, 13, 0, 0, 0, 0, 0, 0, [])), (261, (.newarray .long, 2, 0, 0, 0, 3, 0, 0, 0, 0, [])), (263, (.putfield 105, 3, 2, 0, 0, 9, 46, 1, 0, 0, [])), (266, (.aload_n 0, 1, 0, 0, 0, 0, 0, 0, 0, 0, [])), (267, (.sipush 300, 3, 0, 300, 0, 0, 0, 0, 0, 0, [])), (270, (.newarray .long, 2, 0, 0, 0, 3, 0, 0, 0, 0, [])), (272, (.putfield 109, 3, 2, 0, 0, 9, 47, 1, 0, 0, [])), (275, (.aload_n 0, 1, 0, 0, 0, 0, 0, 0, 0, 0, [])), (276, (.bipush 24, 2, 0, 24, 0, 0, 0, 0, 0, 0, [])), (278, (.newarray .boolean, 2, 0, 0, 0, 2, 0, 0, 0, 0, [])), (280, (.putfield 112, 3, 2, 0, 0, 9, 48, 1, 0, 0, [])), (283, (.aload_n 0, 1, 0, 0, 0, 0, 0, 0, 0, 0, [])), (284, (.bipush 24, 2, 0, 24, 0, 0, 0, 0, 0, 0, [])), (286, (.newarray .boolean, 2, 0, 0, 0, 2, 0, 0, 0, 0, [])), (288, (.putfield 116, 3, 2, 0, 0, 9, 49, 1, 0, 0, [])), (291, (.aload_n 0, 1, 0, 0, 0, 0, 0, 0, 0, 0, [])), (292, (.sipush 288, 3, 0, 288, 0, 0, 0, 0, 0, 0, [])), (295, (.newarray .long, 2, 0, 0, 0, 3, 0, 0, 0, 0, [])), (297, (.putfield 119, 3, 2, 0, 0, 9, 50, 1, 0, 0, [])), (300, (.aload_n 0, 1, 0, 0, 0, 0, 0, 0, 0, 0, [])), (301, (.sipush 200, 3, 0, 200, 0, 0, 0, 0, 0, 0, [])), (304, (.newarray .boolean, 2, 0, 0, 0, 2, 0, 0, 0, 0, [])), (306, (.putfield 122, 3, 2, 0, 0, 9, 51, 1, 0, 0, [])), (309, (.aload_n 0, 1, 0, 0, 0, 0, 0, 0, 0, 0, [])), (310, (.sipush 200, 3, 0, 200, 0, 0, 0, 0, 0, 0, [])), (313, (.newarray .int, 2, 0, 0, 0, 0, 0, 0, 0, 0, [])), (315, (.putfield 125, 3, 2, 0, 0, 9, 52, 1, 0, 0, [])), (318, (.aload_n 0, 1, 0, 0, 0, 0, 0, 0, 0, 0, [])), (319, (.sipush 200, 3, 0, 200, 0, 0, 0, 0, 0, 0, [])), (322, (.newarray .int, 2, 0, 0, 0, 0, 0, 0, 0, 0, [])), (324, (.putfield 128, 3, 2, 0, 0, 9, 53, 1, 0, 0, [])), (327, (.aload_n 0, 1, 0, 0, 0, 0, 0, 0, 0, 0, [])), (328, (.sipush 200, 3, 0, 200, 0, 0, 0, 0, 0, 0, [])), (331, (.newarray .int, 2, 0, 0, 0, 0, 0, 0, 0, 0, [])), (333, (.putfield 131, 3, 2, 0, 0, 9, 54, 1, 0, 0, [])), (336, (.aload_n 0, 1, 0, 0, 0, 0, 0, 0, 0, 0, [])), (337, (.iconst (-1), 1, 0, -1, 0, 0, 0, 0, 0, 0, [])), (338, (.putfield 134, 3, 0, 0, 0, 9, 55, 0, 0, 0, [])), (341, (.aload_n 0, 1, 0, 0, 0, 0, 0, 0, 0, 0, [])), (342, (.bipush 24, 2, 0, 24, 0, 0, 0, 0, 0, 0, [])), (344, (.newarray .boolean, 2, 0, 0, 0, 2, 0, 0, 0, 0, [])), (346, (.putfield 137, 3, 2, 0, 0, 9, 56, 1, 0, 0, [])), (349, (.aload_n 0, 1, 0, 0, 0, 0, 0, 0, 0, 0, [])), (350, (.bipush 60, 2, 0, 60, 0, 0, 0, 0, 0, 0, [])), (352, (.newarray .int, 2, 0, 0, 0, 0, 0, 0, 0, 0, [])), (354, (.putfield 140, 3, 2, 0, 0, 9, 57, 1, 0, 0, [])), (357, (.aload_n 0, 1, 0, 0, 0, 0, 0, 0, 0, 0, [])), (358, (.bipush 60, 2, 0, 60, 0, 0, 0, 0, 0, 0, [])), (360, (.newarray .int, 2, 0, 0, 0, 0, 0, 0, 0, 0, [])), (362, (.putfield 143, 3, 2, 0, 0, 9, 58, 1, 0, 0, [])), (365, (.aload_n 0, 1, 0, 0, 0, 0, 0, 0, 0, 0, [])), (366, (.bipush 60, 2, 0, 60, 0, 0, 0, 0, 0, 0, [])), (368, (.newarray .int, 2, 0, 0, 0, 0, 0, 0, 0, 0, [])), (370, (.putfield 146, 3, 2, 0, 0, 9, 59, 1, 0, 0, [])), (373, (.aload_n 0, 1, 0, 0, 0, 0, 0, 0, 0, 0, [])), (374, (.bipush 60, 2, 0, 60, 0, 0, 0, 0, 0, 0, [])), (376, (.newarray .int, 2, 0, 0, 0, 0, 0, 0, 0, 0, [])), (378, (.putfield 149, 3, 2, 0, 0, 9, 60, 1, 0, 0, [])), (381, (.aload_n 0, 1, 0, 0, 0, 0, 0, 0, 0, 0, [])), (382, (.bipush 60, 2, 0, 60, 0, 0, 0, 0, 0, 0, [])), (384, (.newarray .int, 2, 0, 0, 0, 0, 0, 0, 0, 0, [])), (386, (.putfield 152, 3, 2, 0, 0, 9, 61, 1, 0, 0, [])), (389, (.aload_n 0, 1, 0, 0, 0, 0, 0, 0, 0, 0, [])), (390, (.bipush 60, 2, 0, 60, 0, 0, 0, 0, 0, 0, [])), (392, (.newarray .int, 2, 0, 0, 0, 0, 0, 0, 0, 0, [])), (394, (.putfield 155, 3, 2, 0, 0, 9, 62, 1, 0, 0, [])), (397, (.aload_n 0, 1, 0, 0, 0, 0, 0, 0, 0, 0, [])), (398, (.sipush 10000, 3, 0, 10000, 0, 0, 0, 0, 0, 0, [])), (401, (.newarray .int, 2, 0, 0, 0, 0, 0, 0, 0, 0, [])), (403, (.putfield 158, 3, 2, 0, 0, 9, 65, 1, 0, 0, [])), (406, (.aload_n 0, 1, 0, 0, 0, 0, 0, 0, 0, 0, [])), (407, (.bipush 8, 2, 0, 8, 0, 0, 0, 0, 0, 0, [])), (409, (.newarray .int, 2, 0, 0, 0, 0, 0, 0, 0, 0, [])), (411, (.putfield 161, 3, 2, 0, 0, 9, 66, 1, 0, 0, [])), (414, (.aload_n 0, 1, 0, 0, 0, 0, 0, 0, 0, 0, [])), (415, (.sipush 200, 3, 0, 200, 0, 0, 0, 0, 0, 0, [])), (418, (.newarray .int, 2, 0, 0, 0, 0, 0, 0, 0, 0, [])), (420, (.putfield 164, 3, 2, 0, 0, 9, 67, 1, 0, 0, [])), (423, (.aload_n 0, 1, 0, 0, 0, 0, 0, 0, 0, 0, [])), (424, (.iconst 4, 1, 0, 4, 0, 0, 0, 0, 0, 0, [])), (425, (.newarray .boolean, 2, 0, 0, 0, 2, 0, 0, 0, 0, [])), (427, (.putfield 167, 3, 2, 0, 0, 9, 68, 1, 0, 0, [])), (430, (.return_, 1, 0, 0, 0, 0, 0, 0, 0, 0, []))]
set_option maxRecDepth 100000 in
theorem ok_X9_init : tb_ok ctX9 m_X9_init t_X9_init = true := by decide +kernel
theorem i_X9_init_0 : tab t_X9_init 0 = some (.aload_n 0, 1, 0, 0, 0, 0, 0, 0, 0, 0, []) := rfl
theorem i_X9_init_1 : tab t_X9_init 1 = some (.invokespecial 1, 3, 0, 0, 0, 6, 0, 0, 0, 0, []) := rfl
theorem i_X9_init_4 : tab t_X9_init 4 = some (.aload_n 0, 1, 0, 0, 0, 0, 0, 0, 0, 0, []) := rfl
theorem i_X9_init_5 : tab t_X9_init 5 = some (.bipush 10, 2, 0, 10, 0, 0, 0, 0, 0, 0, []) := rfl
theorem i_X9_init_7 : tab t_X9_init 7 = some (.putfield 7, 3, 0, 0, 0, 9, 7, 0, 0, 0, []) := rfl
theorem i_X9_init_10 : tab t_X9_init 10 = some (.aload_n 0, 1, 0, 0, 0, 0, 0, 0, 0, 0, []) := rfl
theorem i_X9_init_11 : tab t_X9_init 11 = some (.bipush 12, 2, 0, 12, 0, 0, 0, 0, 0, 0, []) := rfl
theorem i_X9_init_13 : tab t_X9_init 13 = some (.newarray .int, 2, 0, 0, 0, 0, 0, 0, 0, 0, []) := rfl
theorem i_X9_init_15 : tab t_X9_init 15 = some (.putfield 13, 3, 2, 0, 0, 9, 8, 1, 0, 0, []) := rfl
theorem i_X9_init_18 : tab t_X9_init 18 = some (.aload_n 0, 1, 0, 0, 0, 0, 0, 0, 0, 0, []) := rfl
theorem i_X9_init_19 : tab t_X9_init 19 = some (.bipush 12, 2, 0, 12, 0, 0, 0, 0, 0, 0, []) := rfl
theorem i_X9_init_21 : tab t_X9_init 21 = some (.newarray .int, 2, 0, 0, 0, 0, 0, 0, 0, 0, []) := rfl
theorem i_X9_init_23 : tab t_X9_init 23 = some (.putfield 17, 3, 2, 0, 0, 9, 9, 1, 0, 0, []) := rfl
theorem i_X9_init_26 : tab t_X9_init 26 = some (.aload_n 0, 1, 0, 0, 0, 0, 0, 0, 0, 0, []) := rfl
theorem i_X9_init_27 : tab t_X9_init 27 = some (.bipush 12, 2, 0, 12, 0, 0, 0, 0, 0, 0, []) := rfl
theorem i_X9_init_29 : tab t_X9_init 29 = some (.newarray .int, 2, 0, 0, 0, 0, 0, 0, 0, 0, []) := rfl
theorem i_X9_init_31 : tab t_X9_init 31 = some (.putfield 20, 3, 2, 0, 0, 9, 10, 1, 0, 0, []) := rfl
theorem i_X9_init_34 : tab t_X9_init 34 = some (.aload_n 0, 1, 0, 0, 0, 0, 0, 0, 0, 0, []) := rfl
theorem i_X9_init_35 : tab t_X9_init 35 = some (.bipush 12, 2, 0, 12, 0, 0, 0, 0, 0, 0, []) := rfl
theorem i_X9_init_37 : tab t_X9_init 37 = some (.newarray .int, 2, 0, 0, 0, 0, 0, 0, 0, 0, []) := rfl
theorem i_X9_init_39 : tab t_X9_init 39 = some (.putfield 23, 3, 2, 0, 0, 9, 11, 1, 0, 0, []) := rfl
theorem i_X9_init_42 : tab t_X9_init 42 = some (.aload_n 0, 1, 0, 0, 0, 0, 0, 0, 0, 0, []) := rfl
theorem i_X9_init_43 : tab t_X9_init 43 = some (.bipush 12, 2, 0, 12, 0, 0, 0, 0, 0, 0, []) := rfl
theorem i_X9_init_45 : tab t_X9_init 45 = some (.newarray .int, 2, 0, 0, 0, 0, 0, 0, 0, 0, []) := rfl
theorem i_X9_init_47 : tab t_X9_init 47 = some (.putfield 26, 3, 2, 0, 0, 9, 12, 1, 0, 0, []) := rfl
theorem i_X9_init_50 : tab t_X9_init 50 = some (.aload_n 0, 1, 0, 0, 0, 0, 0, 0, 0, 0, []) := rfl
theorem i_X9_init_51 : tab t_X9_init 51 = some (.bipush 12, 2, 0, 12, 0, 0, 0, 0, 0, 0, []) := rfl
theorem i_X9_init_53 : tab t_X9_init 53 = some (.newarray .int, 2, 0, 0, 0, 0, 0, 0, 0, 0, []) := rfl
theorem i_X9_init_55 : tab t_X9_init 55 = some (.putfield 29, 3, 2, 0, 0, 9, 13, 1, 0, 0, []) := rfl
theorem i_X9_init_58 : tab t_X9_init 58 = some (.aload_n 0, 1, 0, 0, 0, 0, 0, 0, 0, 0, []) := rfl
theorem i_X9_init_59 : tab t_X9_init 59 = some (.bipush 96, 2, 0, 96, 0, 0, 0, 0, 0, 0, []) := rfl
theorem i_X9_init_61 : tab t_X9_init 61 = some (.newarray .int, 2, 0, 0, 0, 0, 0, 0, 0, 0, []) := rfl
theorem i_X9_init_63 : tab t_X9_init 63 = some (.putfield 32, 3, 2, 0, 0, 9, 14, 1, 0, 0, []) := rfl
theorem i_X9_init_66 : tab t_X9_init 66 = some (.aload_n 0, 1, 0, 0, 0, 0, 0, 0, 0, 0, []) := rfl
theorem i_X9_init_67 : tab t_X9_init 67 = some (.bipush 24, 2, 0, 24, 0, 0, 0, 0, 0, 0, []) := rfl
theorem i_X9_init_69 : tab t_X9_init 69 = some (.newarray .int, 2, 0, 0, 0, 0, 0, 0, 0, 0, []) := rfl
theorem i_X9_init_71 : tab t_X9_init 71 = some (.putfield 35, 3, 2, 0, 0, 9, 15, 1, 0, 0, []) := rfl
theorem i_X9_init_74 : tab t_X9_init 74 = some (.aload_n 0, 1, 0, 0, 0, 0, 0, 0, 0, 0, []) := rfl
theorem i_X9_init_75 : tab t_X9_init 75 = some (.bipush 24, 2, 0, 24, 0, 0, 0, 0, 0, 0, []) := rfl
theorem i_X9_init_77 : tab t_X9_init 77 = some (.newarray .int, 2, 0, 0, 0, 0, 0, 0, 0, 0, []) := rfl
theorem i_X9_init_79 : tab t_X9_init 79 = some (.putfield 38, 3, 2, 0, 0, 9, 16, 1, 0, 0, []) := rfl
theorem i_X9_init_82 : tab t_X9_init 82 = some (.aload_n 0, 1, 0, 0, 0, 0, 0, 0, 0, 0, []) := rfl
theorem i_X9_init_83 : tab t_X9_init 83 = some (.bipush 24, 2, 0, 24, 0, 0, 0, 0, 0, 0, []) := rfl
theorem i_X9_init_85 : tab t_X9_init 85 = some (.newarray .int, 2, 0, 0, 0, 0, 0, 0, 0, 0, []) := rfl
theorem i_X9_init_87 : tab t_X9_init 87 = some (.putfield 41, 3, 2, 0, 0, 9, 17, 1, 0, 0, []) := rfl
theorem i_X9_init_90 : tab t_X9_init 90 = some (.aload_n 0, 1, 0, 0, 0, 0, 0, 0, 0, 0, []) := rfl
theorem i_X9_init_91 : tab t_X9_init 91 = some (.bipush 24, 2, 0, 24, 0, 0, 0, 0, 0, 0, []) := rfl
theorem i_X9_init_93 : tab t_X9_init 93 = some (.newarray .int, 2, 0, 0, 0, 0, 0, 0, 0, 0, []) := rfl
theorem i_X9_init_95 : tab t_X9_init 95 = some (.putfield 44, 3, 2, 0, 0, 9, 18, 1, 0, 0, []) := rfl
theorem i_X9_init_98 : tab t_X9_init 98 = some (.aload_n 0, 1, 0, 0, 0, 0, 0, 0, 0, 0, []) := rfl
theorem i_X9_init_99 : tab t_X9_init 99 = some (.bipush 24, 2, 0, 24, 0, 0, 0, 0, 0, 0, []) := rfl
theorem i_X9_init_101 : tab t_X9_init 101 = some (.newarray .int, 2, 0, 0, 0, 0, 0, 0, 0, 0, []) := rfl
theorem i_X9_init_103 : tab t_X9_init 103 = some (.putfield 47, 3, 2, 0, 0, 9, 19, 1, 0, 0, []) := rfl
theorem i_X9_init_106 : tab t_X9_init 106 = some (.aload_n 0, 1, 0, 0, 0, 0, 0, 0, 0, 0, []) := rfl
theorem i_X9_init_107 : tab t_X9_init 107 = some (.bipush 24, 2, 0, 24, 0, 0, 0, 0, 0, 0, []) := rfl
theorem i_X9_init_109 : tab t_X9_init 109 = some (.newarray .int, 2, 0, 0, 0, 0, 0, 0, 0, 0, []) := rfl
theorem i_X9_init_111 : tab t_X9_init 111 = some (.putfield 50, 3, 2, 0, 0, 9, 20, 1, 0, 0, []) := rfl
theorem i_X9_init_114 : tab t_X9_init 114 = some (.aload_n 0, 1, 0, 0, 0, 0, 0, 0, 0, 0, []) := rfl
theorem i_X9_init_115 : tab t_X9_init 115 = some (.sipush 200, 3, 0, 200, 0, 0, 0, 0, 0, 0, []) := rfl
theorem i_X9_init_118 : tab t_X9_init 118 = some (.newarray .int, 2, 0, 0, 0, 0, 0, 0, 0, 0, []) := rfl
theorem i_X9_init_120 : tab t_X9_init 120 = some (.putfield 53, 3, 2, 0, 0, 9, 21, 1, 0, 0, []) := rfl
theorem i_X9_init_123 : tab t_X9_init 123 = some (.aload_n 0, 1, 0, 0, 0, 0, 0, 0, 0, 0, []) := rfl
theorem i_X9_init_124 : tab t_X9_init 124 = some (.sipush 200, 3, 0, 200, 0, 0, 0, 0, 0, 0, []) := rfl
theorem i_X9_init_127 : tab t_X9_init 127 = some (.newarray .int, 2, 0, 0, 0, 0, 0, 0, 0, 0, []) := rfl
theorem i_X9_init_129 : tab t_X9_init 129 = some (.putfield 56, 3, 2, 0, 0, 9, 22, 1, 0, 0, []) := rfl
theorem i_X9_init_132 : tab t_X9_init 132 = some (.aload_n 0, 1, 0, 0, 0, 0, 0, 0, 0, 0, []) := rfl
theorem i_X9_init_133 : tab t_X9_init 133 = some (.sipush 200, 3, 0, 200, 0, 0, 0, 0, 0, 0, []) := rfl
theorem i_X9_init_136 : tab t_X9_init 136 = some (.newarray .int, 2, 0, 0, 0, 0, 0, 0, 0, 0, []) := rfl
theorem i_X9_init_138 : tab t_X9_init 138 = some (.putfield 59, 3, 2, 0, 0, 9, 23, 1, 0, 0, []) := rfl
theorem i_X9_init_141 : tab t_X9_init 141 = some (.aload_n 0, 1, 0, 0, 0, 0, 0, 0, 0, 0, []) := rfl
theorem i_X9_init_142 : tab t_X9_init 142 = some (.sipush 200, 3, 0, 200, 0, 0, 0, 0, 0, 0, []) := rfl
theorem i_X9_init_145 : tab t_X9_init 145 = some (.newarray .int, 2, 0, 0, 0, 0, 0, 0, 0, 0, []) := rfl
theorem i_X9_init_147 : tab t_X9_init 147 = some (.putfield 62, 3, 2, 0, 0, 9, 24, 1, 0, 0, []) := rfl
theorem i_X9_init_150 : tab t_X9_init 150 = some (.aload_n 0, 1, 0, 0, 0, 0, 0, 0, 0, 0, []) := rfl
theorem i_X9_init_151 : tab t_X9_init 151 = some (.bipush 24, 2, 0, 24, 0, 0, 0, 0, 0, 0, []) := rfl
theorem i_X9_init_153 : tab t_X9_init 153 = some (.newarray .int, 2, 0, 0, 0, 0, 0, 0, 0, 0, []) := rfl
theorem i_X9_init_155 : tab t_X9_init 155 = some (.putfield 65, 3, 2, 0, 0, 9, 25, 1, 0, 0, []) := rfl
theorem i_X9_init_158 : tab t_X9_init 158 = some (.aload_n 0, 1, 0, 0, 0, 0, 0, 0, 0, 0, []) := rfl
theorem i_X9_init_159 : tab t_X9_init 159 = some (.bipush 24, 2, 0, 24, 0, 0, 0, 0, 0, 0, []) := rfl
theorem i_X9_init_161 : tab t_X9_init 161 = some (.newarray .int, 2, 0, 0, 0, 0, 0, 0, 0, 0, []) := rfl
theorem i_X9_init_163 : tab t_X9_init 163 = some (.putfield 68, 3, 2, 0, 0, 9, 26, 1, 0, 0, []) := rfl
theorem i_X9_init_166 : tab t_X9_init 166 = some (.aload_n 0, 1, 0, 0, 0, 0, 0, 0, 0, 0, []) := rfl
theorem i_X9_init_167 : tab t_X9_init 167 = some (.bipush 24, 2, 0, 24, 0, 0, 0, 0, 0, 0, []) := rfl
theorem i_X9_init_169 : tab t_X9_init 169 = some (.newarray .int, 2, 0, 0, 0, 0, 0, 0, 0, 0, []) := rfl
theorem i_X9_init_171 : tab t_X9_init 171 = some (.putfield 71, 3, 2, 0, 0, 9, 27, 1, 0, 0, []) := rfl
theorem i_X9_init_174 : tab t_X9_init 174 = some (.aload_n 0, 1, 0, 0, 0, 0, 0, 0, 0, 0, []) := rfl
theorem i_X9_init_175 : tab t_X9_init 175 = some (.bipush 24, 2, 0, 24, 0, 0, 0, 0, 0, 0, []) := rfl
theorem i_X9_init_177 : tab t_X9_init 177 = some (.newarray .int, 2, 0, 0, 0, 0, 0, 0, 0, 0, []) := rfl
theorem i_X9_init_179 : tab t_X9_init 179 = some (.putfield 74, 3, 2, 0, 0, 9, 28, 1, 0, 0, []) := rfl
theorem i_X9_init_182 : tab t_X9_init 182 = some (.aload_n 0, 1, 0, 0, 0, 0, 0, 0, 0, 0, []) := rfl
theorem i_X9_init_183 : tab t_X9_init 183 = some (.sipush 400, 3, 0, 400, 0, 0, 0, 0, 0, 0, []) := rfl
theorem i_X9_init_186 : tab t_X9_init 186 = some (.newarray .byte, 2, 0, 0, 0, 1, 0, 0, 0, 0, []) := rfl
theorem i_X9_init_188 : tab t_X9_init 188 = some (.putfield 77, 3, 2, 0, 0, 9, 37, 1, 0, 0, []) := rfl
theorem i_X9_init_191 : tab t_X9_init 191 = some (.aload_n 0, 1, 0, 0, 0, 0, 0, 0, 0, 0, []) := rfl
theorem i_X9_init_192 : tab t_X9_init 192 = some (.sipush 2400, 3, 0, 2400, 0, 0, 0, 0, 0, 0, []) := rfl
theorem i_X9_init_195 : tab t_X9_init 195 = some (.newarray .int, 2, 0, 0, 0, 0, 0, 0, 0, 0, []) := rfl
theorem i_X9_init_197 : tab t_X9_init 197 = some (.putfield 81, 3, 2, 0, 0, 9, 38, 1, 0, 0, []) := rfl
theorem i_X9_init_200 : tab t_X9_init 200 = some (.aload_n 0, 1, 0, 0, 0, 0, 0, 0, 0, 0, []) := rfl
theorem i_X9_init_201 : tab t_X9_init 201 = some (.sipush 2400, 3, 0, 2400, 0, 0, 0, 0, 0, 0, []) := rfl
theorem i_X9_init_204 : tab t_X9_init 204 = some (.newarray .int, 2, 0, 0, 0, 0, 0, 0, 0, 0, []) := rfl
theorem i_X9_init_206 : tab t_X9_init 206 = some (.putfield 84, 3, 2, 0, 0, 9, 39, 1, 0, 0, []) := rfl
theorem i_X9_init_209 : tab t_X9_init 209 = some (.aload_n 0, 1, 0, 0, 0, 0, 0, 0, 0, 0, []) := rfl
theorem i_X9_init_210 : tab t_X9_init 210 = some (.bipush 8, 2, 0, 8, 0, 0, 0, 0, 0, 0, []) := rfl
theorem i_X9_init_212 : tab t_X9_init 212 = some (.newarray .int, 2, 0, 0, 0, 0, 0, 0, 0, 0, []) := rfl
theorem i_X9_init_214 : tab t_X9_init 214 = some (.putfield 87, 3, 2, 0, 0, 9, 40, 1, 0, 0, []) := rfl
theorem i_X9_init_217 : tab t_X9_init 217 = some (.aload_n 0, 1, 0, 0, 0, 0, 0, 0, 0, 0, []) := rfl
theorem i_X9_init_218 : tab t_X9_init 218 = some (.bipush 96, 2, 0, 96, 0, 0, 0, 0, 0, 0, []) := rfl
theorem i_X9_init_220 : tab t_X9_init 220 = some (.newarray .int, 2, 0, 0, 0, 0, 0, 0, 0, 0, []) := rfl
theorem i_X9_init_222 : tab t_X9_init 222 = some (.putfield 90, 3, 2, 0, 0, 9, 41, 1, 0, 0, []) := rfl
theorem i_X9_init_225 : tab t_X9_init 225 = some (.aload_n 0, 1, 0, 0, 0, 0, 0, 0, 0, 0, []) := rfl
theorem i_X9_init_226 : tab t_X9_init 226 = some (.bipush 96, 2, 0, 96, 0, 0, 0, 0, 0, 0, []) := rfl
theorem i_X9_init_228 : tab t_X9_init 228 = some (.newarray .int, 2, 0, 0, 0, 0, 0, 0, 0, 0, []) := rfl
theorem i_X9_init_230 : tab t_X9_init 230 = some (.putfield 93, 3, 2, 0, 0, 9, 42, 1, 0, 0, []) := rfl
theorem i_X9_init_233 : tab t_X9_init 233 = some (.aload_n 0, 1, 0, 0, 0, 0, 0, 0, 0, 0, []) := rfl
theorem i_X9_init_234 : tab t_X9_init 234 = some (.bipush 96, 2, 0, 96, 0, 0, 0, 0, 0, 0, []) := rfl
theorem i_X9_init_236 : tab t_X9_init 236 = some (.newarray .int, 2, 0, 0, 0, 0, 0, 0, 0, 0, []) := rfl
theorem i_X9_init_238 : tab t_X9_init 238 = some (.putfield 96, 3, 2, 0, 0, 9, 43, 1, 0, 0, []) := rfl
theorem i_X9_init_241 : tab t_X9_init 241 = some (.aload_n 0, 1, 0, 0, 0, 0, 0, 0, 0, 0, []) := rfl
theorem i_X9_init_242 : tab t_X9_init 242 = some (.bipush 96, 2, 0, 96, 0, 0, 0, 0, 0, 0, []) := rfl
theorem i_X9_init_244 : tab t_X9_init 244 = some (.newarray .int, 2, 0, 0, 0, 0, 0, 0, 0, 0, []) := rfl
theorem i_X9_init_246 : tab t_X9_init 246 = some (.putfield 99, 3, 2, 0, 0, 9, 44, 1, 0, 0, []) := rfl
theorem i_X9_init_249 : tab t_X9_init 249 = some (.aload_n 0, 1, 0, 0, 0, 0, 0, 0, 0, 0, []) := rfl
theorem i_X9_init_250 : tab t_X9_init 250 = some (.sipush 402, 3, 0, 402, 0, 0, 0, 0, 0, 0, []) := rfl
theorem i_X9_init_253 : tab t_X9_init 253 = some (.newarray .int, 2, 0, 0, 0, 0, 0, 0, 0, 0, []) := rfl
theorem i_X9_init_255 : tab t_X9_init 255 = some (.putfield 102, 3, 2, 0, 0, 9, 45, 1, 0, 0, []) := rfl
theorem i_X9_init_258 : tab t_X9_init 258 = some (.aload_n 0, 1, 0, 0, 0, 0, 0, 0, 0, 0, []) := rfl
theorem i_X9_init_259 : tab t_X9_init 259 = some (.bipush 13, 2, 0, 13, 0, 0, 0, 0, 0, 0, []) := rfl
theorem i_X9_init_261 : tab t_X9_init 261 = some (.newarray .long, 2, 0, 0, 0, 3, 0, 0, 0, 0, []) := rfl
theorem i_X9_init_263 : tab t_X9_init 263 = some (.putfield 105, 3, 2, 0, 0, 9, 46, 1, 0, 0, []) := rfl
theorem i_X9_init_266 : tab t_X9_init 266 = some (.aload_n 0, 1, 0, 0, 0, 0, 0, 0, 0, 0, []) := rfl
theorem i_X9_init_267 : tab t_X9_init 267 = some (.sipush 300, 3, 0, 300, 0, 0, 0, 0, 0, 0, []) := rfl
theorem i_X9_init_270 : tab t_X9_init 270 = some (.newarray .long, 2, 0, 0, 0, 3, 0, 0, 0, 0, []) := rfl
theorem i_X9_init_272 : tab t_X9_init 272 = some (.putfield 109, 3, 2, 0, 0, 9, 47, 1, 0, 0, []) := rfl
theorem i_X9_init_275 : tab t_X9_init 275 = some (.aload_n 0, 1, 0, 0, 0, 0, 0, 0, 0, 0, []) := rfl
theorem i_X9_init_276 : tab t_X9_init 276 = some (.bipush 24, 2, 0, 24, 0, 0, 0, 0, 0, 0, []) := rfl
theorem i_X9_init_278 : tab t_X9_init 278 = some (.newarray .boolean, 2, 0, 0, 0, 2, 0, 0, 0, 0, []) := rfl
theorem i_X9_init_280 : tab t_X9_init 280 = some (.putfield 112, 3, 2, 0, 0, 9, 48, 1, 0, 0, []) := rfl
theorem i_X9_init_283 : tab t_X9_init 283 = some (.aload_n 0, 1, 0, 0, 0, 0, 0, 0, 0, 0, []) := rfl
theorem i_X9_init_284 : tab t_X9_init 284 = some (.bipush 24, 2, 0, 24, 0, 0, 0, 0, 0, 0, []) := rfl
theorem i_X9_init_286 : tab t_X9_init 286 = some (.newarray .boolean, 2, 0, 0, 0, 2, 0, 0, 0, 0, []) := rfl
theorem i_X9_init_288 : tab t_X9_init 288 = some (.putfield 116, 3, 2, 0, 0, 9, 49, 1, 0, 0, []) := rfl
theorem i_X9_init_291 : tab t_X9_init 291 = some (.aload_n 0, 1, 0, 0, 0, 0, 0, 0, 0, 0, []) := rfl
theorem i_X9_init_292 : tab t_X9_init 292 = some (.sipush 288, 3, 0, 288, 0, 0, 0, 0, 0, 0, []) := rfl
theorem i_X9_init_295 : tab t_X9_init 295 = some (.newarray .long, 2, 0, 0, 0, 3, 0, 0, 0, 0, []) := rfl
theorem i_X9_init_297 : tab t_X9_init 297 = some (.putfield 119, 3, 2, 0, 0, 9, 50, 1, 0, 0, []) := rfl
theorem i_X9_init_300 : tab t_X9_init 300 = some (.aload_n 0, 1, 0, 0, 0, 0, 0, 0, 0, 0, []) := rfl
theorem i_X9_init_301 : tab t_X9_init 301 = some (.sipush 200, 3, 0, 200, 0, 0, 0, 0, 0, 0, []) := rfl
theorem i_X9_init_304 : tab t_X9_init 304 = some (.newarray .boolean, 2, 0, 0, 0, 2, 0, 0, 0, 0, []) := rfl
theorem i_X9_init_306 : tab t_X9_init 306 = some (.putfield 122, 3, 2, 0, 0, 9, 51, 1, 0, 0, []) := rfl
theorem i_X9_init_309 : tab t_X9_init 309 = some (.aload_n 0, 1, 0, 0, 0, 0, 0, 0, 0, 0, []) := rfl
theorem i_X9_init_310 : tab t_X9_init 310 = some (.sipush 200, 3, 0, 200, 0, 0, 0, 0, 0, 0, []) := rfl
theorem i_X9_init_313 : tab t_X9_init 313 = some (.newarray .int, 2, 0, 0, 0, 0, 0, 0, 0, 0, []) := rfl
theorem i_X9_init_315 : tab t_X9_init 315 = some (.putfield 125, 3, 2, 0, 0, 9, 52, 1, 0, 0, []) := rfl
theorem i_X9_init_318 : tab t_X9_init 318 = some (.aload_n 0, 1, 0, 0, 0, 0, 0, 0, 0, 0, []) := rfl
theorem i_X9_init_319 : tab t_X9_init 319 = some (.sipush 200, 3, 0, 200, 0, 0, 0, 0, 0, 0, []) := rfl
theorem i_X9_init_322 : tab t_X9_init 322 = some (.newarray .int, 2, 0, 0, 0, 0, 0, 0, 0, 0, []) := rfl
theorem i_X9_init_324 : tab t_X9_init 324 = some (.putfield 128, 3, 2, 0, 0, 9, 53, 1, 0, 0, []) := rfl
theorem i_X9_init_327 : tab t_X9_init 327 = some (.aload_n 0, 1, 0, 0, 0, 0, 0, 0, 0, 0, []) := rfl
theorem i_X9_init_328 : tab t_X9_init 328 = some (.sipush 200, 3, 0, 200, 0, 0, 0, 0, 0, 0, []) := rfl
theorem i_X9_init_331 : tab t_X9_init 331 = some (.newarray .int, 2, 0, 0, 0, 0, 0, 0, 0, 0, []) := rfl
theorem i_X9_init_333 : tab t_X9_init 333 = some (.putfield 131, 3, 2, 0, 0, 9, 54, 1, 0, 0, []) := rfl
theorem i_X9_init_336 : tab t_X9_init 336 = some (.aload_n 0, 1, 0, 0, 0, 0, 0, 0, 0, 0, []) := rfl
theorem i_X9_init_337 : tab t_X9_init 337 = some (.iconst (-1), 1, 0, -1, 0, 0, 0, 0, 0, 0, []) := rfl
theorem i_X9_init_338 : tab t_X9_init 338 = some (.putfield 134, 3, 0, 0, 0, 9, 55, 0, 0, 0, []) := rfl
theorem i_X9_init_341 : tab t_X9_init 341 = some (.aload_n 0, 1, 0, 0, 0, 0, 0, 0, 0, 0, []) := rfl
theorem i_X9_init_342 : tab t_X9_init 342 = some (.bipush 24, 2, 0, 24, 0, 0, 0, 0, 0, 0, []) := rfl
theorem i_X9_init_344 : tab t_X9_init 344 = some (.newarray .boolean, 2, 0, 0, 0, 2, 0, 0, 0, 0, []) := rfl
theorem i_X9_init_346 : tab t_X9_init 346 = some (.putfield 137, 3, 2, 0, 0, 9, 56, 1, 0, 0, []) := rfl
theorem i_X9_init_349 : tab t_X9_init 349 = some (.aload_n 0, 1, 0, 0, 0, 0, 0, 0, 0, 0, []) := rfl
theorem i_X9_init_350 : tab t_X9_init 350 = some (.bipush 60, 2, 0, 60, 0, 0, 0, 0, 0, 0, []) := rfl
theorem i_X9_init_352 : tab t_X9_init 352 = some (.newarray .int, 2, 0, 0, 0, 0, 0, 0, 0, 0, []) := rfl
theorem i_X9_init_354 : tab t_X9_init 354 = some (.putfield 140, 3, 2, 0, 0, 9, 57, 1, 0, 0, []) := rfl
theorem i_X9_init_357 : tab t_X9_init 357 = some (.aload_n 0, 1, 0, 0, 0, 0, 0, 0, 0, 0, []) := rfl
theorem i_X9_init_358 : tab t_X9_init 358 = some (.bipush 60, 2, 0, 60, 0, 0, 0, 0, 0, 0, []) := rfl
theorem i_X9_init_360 : tab t_X9_init 360 = some (.newarray .int, 2, 0, 0, 0, 0, 0, 0, 0, 0, []) := rfl
theorem i_X9_init_362 : tab t_X9_init 362 = some (.putfield 143, 3, 2, 0, 0, 9, 58, 1, 0, 0, []) := rfl
theorem i_X9_init_365 : tab t_X9_init 365 = some (.aload_n 0, 1, 0, 0, 0, 0, 0, 0, 0, 0, []) := rfl
theorem i_X9_init_366 : tab t_X9_init 366 = some (.bipush 60, 2, 0, 60, 0, 0, 0, 0, 0, 0, []) := rfl
theorem i_X9_init_368 : tab t_X9_init 368 = some (.newarray .int, 2, 0, 0, 0, 0, 0, 0, 0, 0, []) := rfl
theorem i_X9_init_370 : tab t_X9_init 370 = some (.putfield 146, 3, 2, 0, 0, 9, 59, 1, 0, 0, []) := rfl
theorem i_X9_init_373 : tab t_X9_init 373 = some (.aload_n 0, 1, 0, 0, 0, 0, 0, 0, 0, 0, []) := rfl
theorem i_X9_init_374 : tab t_X9_init 374 = some (.bipush 60, 2, 0, 60, 0, 0, 0, 0, 0, 0, []) := rfl
theorem i_X9_init_376 : tab t_X9_init 376 = some (.newarray .int, 2, 0, 0, 0, 0, 0, 0, 0, 0, []) := rfl
theorem i_X9_init_378 : tab t_X9_init 378 = some (.putfield 149, 3, 2, 0, 0, 9, 60, 1, 0, 0, []) := rfl
theorem i_X9_init_381 : tab t_X9_init 381 = some (.aload_n 0, 1, 0, 0, 0, 0, 0, 0, 0, 0, []) := rfl
theorem i_X9_init_382 : tab t_X9_init 382 = some (.bipush 60, 2, 0, 60, 0, 0, 0, 0, 0, 0, []) := rfl
theorem i_X9_init_384 : tab t_X9_init 384 = some (.newarray .int, 2, 0, 0, 0, 0, 0, 0, 0, 0, []) := rfl
theorem i_X9_init_386 : tab t_X9_init 386 = some (.putfield 152, 3, 2, 0, 0, 9, 61, 1, 0, 0, []) := rfl
theorem i_X9_init_389 : tab t_X9_init 389 = some (.aload_n 0, 1, 0, 0, 0, 0, 0, 0, 0, 0, []) := rfl
theorem i_X9_init_390 : tab t_X9_init 390 = some (.bipush 60, 2, 0, 60, 0, 0, 0, 0, 0, 0, []) := rfl
theorem i_X9_init_392 : tab t_X9_init 392 = some (.newarray .int, 2, 0, 0, 0, 0, 0, 0, 0, 0, []) := rfl
theorem i_X9_init_394 : tab t_X9_init 394 = some (.putfield 155, 3, 2, 0, 0, 9, 62, 1, 0, 0, []) := rfl
theorem i_X9_init_397 : tab t_X9_init 397 = some (.aload_n 0, 1, 0, 0, 0, 0, 0, 0, 0, 0, []) := rfl
theorem i_X9_init_398 : tab t_X9_init 398 = some (.sipush 10000, 3, 0, 10000, 0, 0, 0, 0, 0, 0, []) := rfl
theorem i_X9_init_401 : tab t_X9_init 401 = some (.newarray .int, 2, 0, 0, 0, 0, 0, 0, 0, 0, []) := rfl
theorem i_X9_init_403 : tab t_X9_init 403 = some (.putfield 158, 3, 2, 0, 0, 9, 65, 1, 0, 0, []) := rfl
theorem i_X9_init_406 : tab t_X9_init 406 = some (.aload_n 0, 1, 0, 0, 0, 0, 0, 0, 0, 0, []) := rfl
theorem i_X9_init_407 : tab t_X9_init 407 = some (.bipush 8, 2, 0, 8, 0, 0, 0, 0, 0, 0, []) := rfl
theorem i_X9_init_409 : tab t_X9_init 409 = some (.newarray .int, 2, 0, 0, 0, 0, 0, 0, 0, 0, []) := rfl
theorem i_X9_init_411 : tab t_X9_init 411 = some (.putfield 161, 3, 2, 0, 0, 9, 66, 1, 0, 0, []) := rfl
theorem i_X9_init_414 : tab t_X9_init 414 = some (.aload_n 0, 1, 0, 0, 0, 0, 0, 0, 0, 0, []) := rfl
theorem i_X9_init_415 : tab t_X9_init 415 = some (.sipush 200, 3, 0, 200, 0, 0, 0, 0, 0, 0, []) := rfl
theorem i_X9_init_418 : tab t_X9_init 418 = some (.newarray .int, 2, 0, 0, 0, 0, 0, 0, 0, 0, []) := rfl
theorem i_X9_init_420 : tab t_X9_init 420 = some (.putfield 164, 3, 2, 0, 0, 9, 67, 1, 0, 0, []) := rfl
theorem i_X9_init_423 : tab t_X9_init 423 = some (.aload_n 0, 1, 0, 0, 0, 0, 0, 0, 0, 0, []) := rfl
theorem i_X9_init_424 : tab t_X9_init 424 = some (.iconst 4, 1, 0, 4, 0, 0, 0, 0, 0, 0, []) := rfl
theorem i_X9_init_425 : tab t_X9_init 425 = some (.newarray .boolean, 2, 0, 0, 0, 2, 0, 0, 0, 0, []) := rfl
theorem i_X9_init_427 : tab t_X9_init 427 = some (.putfield 167, 3, 2, 0, 0, 9, 68, 1, 0, 0, []) := rfl
theorem i_X9_init_430 : tab t_X9_init 430 = some (.return_, 1, 0, 0, 0, 0, 0, 0, 0, 0, []) := rfl
def t_X9_in : List (Nat × rw_) := [(0, (.lload_n 0, 1, 0, 0, 0, 0, 0, 0, 0, 0, [])), (1, (.lload_n 2, 1, 2, 0, 0, 0, 0, 0, 0, 0, [])), (2, (.lcmp, 1, 0, 0, 0, 0, 0, 0, 0, 0, [])), (3, (.ifCond .lt 14, 3, 17, 0, 0, 0, 0, 0, 0, 0, [])), (6, (.lload_n 0, 1, 0, 0, 0, 0, 0, 0, 0, 0, [])), (7, (.lload 4, 2, 4, 0, 0, 0, 0, 0, 0, 0, [])), (9, (.lcmp, 1, 0, 0, 0, 0, 0, 0, 0, 0, [])), (10, (.ifCond .gt 7, 3, 17, 0, 0, 0, 0, 0, 0, 0, [])), (13, (.iconst 1, 1, 0, 1, 0, 0, 0, 0, 0, 0, [])), (14, (.goto 4, 3, 18, 0, 0, 0, 0, 0, 0, 0, [])), (17, (.iconst 0, 1, 0, 0, 0, 0, 0, 0, 0, 0, [])), (18, (.ireturn, 1, 0, 0, 0, 1, 0, 0, 0, 0, []))]
set_option maxRecDepth 100000 in
theorem ok_X9_in : tb_ok ctX9 m_X9_in t_X9_in = true := by decide +kernel
theorem i_X9_in_0 : tab t_X9_in 0 = some (.lload_n 0, 1, 0, 0, 0, 0, 0, 0, 0, 0, []) := rfl
theorem i_X9_in_1 : tab t_X9_in 1 = some (.lload_n 2, 1, 2, 0, 0, 0, 0, 0, 0, 0, []) := rfl
theorem i_X9_in_2 : tab t_X9_in 2 = some (.lcmp, 1, 0, 0, 0, 0, 0, 0, 0, 0, []) := rfl
theorem i_X9_in_3 : tab t_X9_in 3 = some (.ifCond .lt 14, 3, 17, 0, 0, 0, 0, 0, 0, 0, []) := rfl
theorem i_X9_in_6 : tab t_X9_in 6 = some (.lload_n 0, 1, 0, 0, 0, 0, 0, 0, 0, 0, []) := rfl
theorem i_X9_in_7 : tab t_X9_in 7 = some (.lload 4, 2, 4, 0, 0, 0, 0, 0, 0, 0, []) := rfl
theorem i_X9_in_9 : tab t_X9_in 9 = some (.lcmp, 1, 0, 0, 0, 0, 0, 0, 0, 0, []) := rfl
theorem i_X9_in_10 : tab t_X9_in 10 = some (.ifCond .gt 7, 3, 17, 0, 0, 0, 0, 0, 0, 0, []) := rfl
theorem i_X9_in_13 : tab t_X9_in 13 = some (.iconst 1, 1, 0, 1, 0, 0, 0, 0, 0, 0, []) := rfl
theorem i_X9_in_14 : tab t_X9_in 14 = some (.goto 4, 3, 18, 0, 0, 0, 0, 0, 0, 0, []) := rfl
theorem i_X9_in_17 : tab t_X9_in 17 = some (.iconst 0, 1, 0, 0, 0, 0, 0, 0, 0, 0, []) := rfl
theorem i_X9_in_18 : tab t_X9_in 18 = some (.ireturn, 1, 0, 0, 0, 1, 0, 0, 0, 0, []) := rfl
def t_X9_isMinute : List (Nat × rw_) := [(0, (.iload_n 0, 1, 0, 0, 0, 0, 0, 0, 0, 0, [])), (1, (.i2l, 1, 0, 0, 0, 0, 0, 0, 0, 0, [])), (2, (.lconst 0, 1, 0, 0, 0, 0, 0, 0, 0, 0, [])), (3, (.ldc2_w 173, 3, 0, 0, 2879, 0, 0, 0, 0, 0, [])), (6, (.invokestatic 175, 3, 3, 0, 0, 0, 126, 0, 0, 0, [])), (9, (.ireturn, 1, 0, 0, 0, 1, 0, 0, 0, 0, []))]
set_option maxRecDepth 100000 in
theorem ok_X9_isMinute : tb_ok ctX9 m_X9_isMinute t_X9_isMinute = true := by decide +kernel
theorem i_X9_isMinute_0 : tab t_X9_isMinute 0 = some (.iload_n 0, 1, 0, 0, 0, 0, 0, 0, 0, 0, []) := rfl
theorem i_X9_isMinute_1 : tab t_X9_isMinute 1 = some (.i2l, 1, 0, 0, 0, 0, 0, 0, 0, 0, []) := rfl
theorem i_X9_isMinute_2 : tab t_X9_isMinute 2 = some (.lconst 0, 1, 0, 0, 0, 0, 0, 0, 0, 0, []) := rfl
theorem i_X9_isMinute_3 : tab t_X9_isMinute 3 = some (.ldc2_w 173, 3, 0, 0, 2879, 0, 0, 0, 0, 0, []) := rfl
theorem i_X9_isMinute_6 : tab t_X9_isMinute 6 = some (.invokestatic 175, 3, 3, 0, 0, 0, 126, 0, 0, 0, []) := rfl
theorem i_X9_isMinute_9 : tab t_X9_isMinute 9 = some (.ireturn, 1, 0, 0, 0, 1, 0, 0, 0, 0, []) := rfl
def t_X9_isBody : List (Nat × rw_) := [(0, (.iload_n 1, 1, 1, 0, 0, 0, 0, 0, 0, 0, [])), (1, (.i2l, 1, 0, 0, 0, 0, 0, 0, 0, 0, [])), (2, (.lconst 0, 1, 0, 0, 0, 0, 0, 0, 0, 0, [])), (3, (.aload_n 0, 1, 0, 0, 0, 0, 0, 0, 0, 0, [])), (4, (.getfield 179, 3, 0, 0, 0, 9, 1, 0, 0, 0, [])), (7, (.iconst 1, 1, 0, 1, 0, 0, 0, 0, 0, 0, [])), (8, (.isub, 1, 0, 0, 0, 0, 0, 0, 0, 0, [])), (9, (.i2l, 1, 0, 0, 0, 0, 0, 0, 0, 0, [])), (10, (.invokestatic 175, 3, 3, 0, 0, 0, 126, 0, 0, 0, [])), (13, (.ireturn, 1, 0, 0, 0, 1, 0, 0, 0, 0, []))]
set_option maxRecDepth 100000 in
theorem ok_X9_isBody : tb_ok ctX9 m_X9_isBody t_X9_isBody = true := by decide +kernel
theorem i_X9_isBody_0 : tab t_X9_isBody 0 = some (.iload_n 1, 1, 1, 0, 0, 0, 0, 0, 0, 0, []) := rfl
theorem i_X9_isBody_1 : tab t_X9_isBody 1 = some (.i2l, 1, 0, 0, 0, 0, 0, 0, 0, 0, []) := rfl
theorem i_X9_isBody_2 : tab t_X9_isBody 2 = some (.lconst 0, 1, 0, 0, 0, 0, 0, 0, 0, 0, []) := rfl
theorem i_X9_isBody_3 : tab t_X9_isBody 3 = some (.aload_n 0, 1, 0, 0, 0, 0, 0, 0, 0, 0, []) := rfl
theorem i_X9_isBody_4 : tab t_X9_isBody 4 = some (.getfield 179, 3, 0, 0, 0, 9, 1, 0, 0, 0, []) := rfl
theorem i_X9_isBody_7 : tab t_X9_isBody 7 = some (.iconst 1, 1, 0, 1, 0, 0, 0, 0, 0, 0, []) := rfl
theorem i_X9_isBody_8 : tab t_X9_isBody 8 = some (.isub, 1, 0, 0, 0, 0, 0, 0, 0, 0, []) := rfl
theorem i_X9_isBody_9 : tab t_X9_isBody 9 = some (.i2l, 1, 0, 0, 0, 0, 0, 0, 0, 0, []) := rfl
theorem i_X9_isBody_10 : tab t_X9_isBody 10 = some (.invokestatic 175, 3, 3, 0, 0, 0, 126, 0, 0, 0, []) := rfl
theorem i_X9_isBody_13 : tab t_X9_isBody 13 = some (.ireturn, 1, 0, 0, 0, 1, 0, 0, 0, 0, []) := rfl
def t_X9_isPerson : List (Nat × rw_) := [(0, (.iload_n 1, 1, 1, 0, 0, 0, 0, 0, 0, 0, [])), (1, (.i2l, 1, 0, 0, 0, 0, 0, 0, 0, 0, [])), (2, (.lconst 0, 1, 0, 0, 0, 0, 0, 0, 0, 0, [])), (3, (.aload_n 0, 1, 0, 0, 0, 0, 0, 0, 0, 0, [])), (4, (.getfield 182, 3, 0, 0, 0, 9, 2, 0, 0, 0, [])), (7, (.iconst 1, 1, 0, 1, 0, 0, 0, 0, 0, 0, [])), (8, (.isub, 1, 0, 0, 0, 0, 0, 0, 0, 0, [])), (9, (.i2l, 1, 0, 0, 0, 0, 0, 0, 0, 0, [])), (10, (.invokestatic 175, 3, 3, 0, 0, 0, 126, 0, 0, 0, [])), (13, (.ireturn, 1, 0, 0, 0, 1, 0, 0, 0, 0, []))]
set_option maxRecDepth 100000 in
theorem ok_X9_isPerson : tb_ok ctX9 m_X9_isPerson t_X9_isPerson = true := by decide +kernel
theorem i_X9_isPerson_0 : tab t_X9_isPerson 0 = some (.iload_n 1, 1, 1, 0, 0, 0, 0, 0, 0, 0, []) := rfl
theorem i_X9_isPerson_1 : tab t_X9_isPerson 1 = some (.i2l, 1, 0, 0, 0, 0, 0, 0, 0, 0, []) := rfl
theorem i_X9_isPerson_2 : tab t_X9_isPerson 2 = some (.lconst 0, 1, 0, 0, 0, 0, 0, 0, 0, 0, []) := rfl
theorem i_X9_isPerson_3 : tab t_X9_isPerson 3 = some (.aload_n 0, 1, 0, 0, 0, 0, 0, 0, 0, 0, []) := rfl
theorem i_X9_isPerson_4 : tab t_X9_isPerson 4 = some (.getfield 182, 3, 0, 0, 0, 9, 2, 0, 0, 0, []) := rfl
theorem i_X9_isPerson_7 : tab t_X9_isPerson 7 = some (.iconst 1, 1, 0, 1, 0, 0, 0, 0, 0, 0, []) := rfl
theorem i_X9_isPerson_8 : tab t_X9_isPerson 8 = some (.isub, 1, 0, 0, 0, 0, 0, 0, 0, 0, []) := rfl
theorem i_X9_isPerson_9 : tab t_X9_isPerson 9 = some (.i2l, 1, 0, 0, 0, 0, 0, 0, 0, 0, []) := rfl
theorem i_X9_isPerson_10 : tab t_X9_isPerson 10 = some (.invokestatic 175, 3, 3, 0, 0, 0, 126, 0, 0, 0, []) := rfl
theorem i_X9_isPerson_13 : tab t_X9_isPerson 13 = some (.ireturn, 1, 0, 0, 0, 1, 0, 0, 0, 0, []) := rfl
def t_X9_body : List (Nat × rw_) := [(0, (.aload_n 0, 1, 0, 0, 0, 0, 0, 0, 0, 0, [])), (1, (.getfield 179, 3, 0, 0, 0, 9, 1, 0, 0, 0, [])), (4, (.bipush 12, 2, 0, 12, 0, 0, 0, 0, 0, 0, [])), (6, (.if_icmp .eq 53, 3, 59, 0, 0, 0, 0, 0, 0, 0, [])), (9, (.iload_n 1, 1, 1, 0, 0, 0, 0, 0, 0, 0, [])), (10, (.iconst (-1), 1, 0, -1, 0, 0, 0, 0, 0, 0, [])), (11, (.if_icmp .eq 11, 3, 22, 0, 0, 0, 0, 0, 0, 0, [])), (14, (.aload_n 0, 1, 0, 0, 0, 0, 0, 0, 0, 0, [])), (15, (.iload_n 1, 1, 1, 0, 0, 0, 0, 0, 0, 0, [])), (16, (.invokevirtual 185, 3, 1, 0, 0, 0, 128, 10, 0, 0, [])), (19, (.ifCond .eq 40, 3, 59, 0, 0, 0, 0, 0, 0, 0, [])), (22, (.iload_n 2, 1, 2, 0, 0, 0, 0, 0, 0, 0, [])), (23, (.i2l, 1, 0, 0, 0, 0, 0, 0, 0, 0, [])), (24, (.lconst 0, 1, 0, 0, 0, 0, 0, 0, 0, 0, [])), (25, (.ldc2_w 189, 3, 0, 0, 3, 0, 0, 0, 0, 0, [])), (28, (.invokestatic 175, 3, 3, 0, 0, 0, 126, 0, 0, 0, [])), (31, (.ifCond .eq 28, 3, 59, 0, 0, 0, 0, 0, 0, 0, [])), (34, (.iload_n 3, 1, 3, 0, 0, 0, 0, 0, 0, 0, [])), (35, (.i2l, 1, 0, 0, 0, 0, 0, 0, 0, 0, [])), (36, (.lconst 0, 1, 0, 0, 0, 0, 0, 0, 0, 0, [])), (37, (.ldc2_w 191, 3, 0, 0, 99, 0, 0, 0, 0, 0, [])), (40, (.invokestatic 175, 3, 3, 0, 0, 0, 126, 0, 0, 0, [])), (43, (.ifCond .eq 16, 3, 59, 0, 0, 0, 0, 0, 0, 0, [])), (46, (.iload 4, 2, 4, 0, 0, 0, 0, 0, 0, 0, [])), (48, (.i2l, 1, 0, 0, 0, 0, 0, 0, 0, 0, [])), (49, (.lconst 0, 1, 0, 0, 0, 0, 0, 0, 0, 0, [])), (50, (.ldc2_w 191, 3, 0, 0, 99, 0, 0, 0, 0, 0, [])), (53, (.invokestatic 175, 3, 3, 0, 0, 0, 126, 0, 0, 0, [])), (56, (.ifCond .ne 5, 3, 61, 0, 0, 0, 0, 0, 0, 0, [])), (59, (.iconst (-1), 1, 0, -1, 0, 0, 0, 0, 0, 0, [])), (60, (.ireturn, 1, 0, 0, 0, 0, 0, 0, 0, 0, [])), (61, (.aload_n 0, 1, 0, 0, 0, 0, 0, 0, 0, 0, [])), (62, (.getfield 13, 3, 2, 0, 0, 9, 8, 0, 0, 0, [])), (65, (.aload_n 0, 1, 0, 0, 0, 0, 0, 0, 0, 0, [])), (66, (.getfield 179, 3, 0, 0, 0, 9, 1, 0, 0, 0, [])), (69, (.iload_n 1, 1, 1, 0, 0, 0, 0, 0, 0, 0, [])), (70, (.iastore, 1, 0, 0, 0, 0, 0, 0, 0, 0, [])), (71, (.aload_n 0, 1, 0, 0, 0, 0, 0, 0, 0, 0, [])), (72, (.getfield 17, 3, 2, 0, 0, 9, 9, 0, 0, 0, [])), (75, (.aload_n 0, 1, 0, 0, 0, 0, 0, 0, 0, 0, [])), (76, (.getfield 179, 3, 0, 0, 0, 9, 1, 0, 0, 0, [])), (79, (.iload_n 2, 1, 2, 0, 0, 0, 0, 0, 0, 0, [])), (80, (.iastore, 1, 0, 0, 0, 0, 0, 0, 0, 0, [])), (81, (.aload_n 0, 1, 0, 0, 0, 0, 0, 0, 0, 0, [])), (82, (.getfield 20, 3, 2, 0, 0, 9, 10, 0, 0, 0, [])), (85, (.aload_n 0, 1, 0, 0, 0, 0, 0, 0, 0, 0, [])), (86, (.getfield 179, 3, 0, 0, 0, 9, 1, 0, 0, 0, [])), (89, (.iload_n 3, 1, 3, 0, 0, 0, 0, 0, 0, 0, [])), (90, (.iastore, 1, 0, 0, 0, 0, 0, 0, 0, 0, [])), (91, (.aload_n 0, 1, 0, 0, 0, 0, 0, 0, 0, 0, [])), (92, (.getfield 23, 3, 2, 0, 0, 9, 11, 0, 0, 0, [])), (95, (.aload_n 0, 1, 0, 0, 0, 0, 0, 0, 0, 0, [])), (96, (.getfield 179, 3, 0, 0, 0, 9, 1, 0, 0, 0, [])), (99, (.iload 4, 2, 4, 0, 0, 0, 0, 0, 0, 0, [])), (101, (.iastore, 1, 0, 0, 0, 0, 0, 0, 0, 0, [])), (102, (.aload_n 0, 1, 0, 0, 0, 0, 0, 0, 0, 0, [])), (103, (.getfield 26, 3, 2, 0, 0, 9, 12, 0, 0, 0, [])), (106, (.aload_n 0, 1, 0, 0, 0, 0, 0, 0, 0, 0, [])), (107, (.getfield 179, 3, 0, 0, 0, 9, 1, 0, 0, 0, [])), (110, (.iconst (-1), 1, 0, -1, 0, 0, 0, 0, 0, 0, [])), (111, (.iastore, 1, 0, 0, 0, 0, 0, 0, 0, 0, [])), (112, (.aload_n 0, 1, 0, 0, 0, 0, 0, 0, 0, 0, [])), (113, (.getfield 29, 3, 2, 0, 0, 9, 13, 0, 0, 0, [])), (116, (.aload_n 0, 1, 0, 0, 0, 0, 0, 0, 0, 0, [])), (117, (.getfield 179, 3, 0, 0, 0, 9, 1, 0, 0, 0, [])), (120, (.iconst 0, 1, 0, 0, 0, 0, 0, 0, 0, 0, [])), (121, (.iastore, 1, 0, 0, 0, 0, 0, 0, 0, 0, [])), (122, (.aload_n 0, 1, 0, 0, 0, 0, 0, 0, 0, 0, [])), (123, (.dup, 1, 0, 0, 0, 0, 0, 0, 0, 0, [])), (124, (.getfield 179, 3, 0, 0, 0, 9, 1, 0, 0, 0, [])), (127, (.iconst 1, 1, 0, 1, 0, 0, 0, 0, 0, 0, [])), (128, (.iadd, 1, 0, 0, 0, 0, 0, 0, 0, 0, [])), (129, (.putfield 179, 3, 0, 0, 0, 9, 1, 0, 0, 0, [])), (132, (.aload_n 0, 1, 0, 0, 0, 0, 0, 0, 0, 0, [])), (133, (.getfield 179, 3, 0, 0, 0, 9, 1, 0, 0, 0, [])), (136, (.iconst 1, 1, 0, 1, 0, 0, 0, 0, 0, 0, [])), (137, (.isub, 1, 0, 0, 0, 0, 0, 0, 0, 0, [])), (138, (.ireturn, 1, 0, 0, 0, 0, 0, 0, 0, 0, []))]
set_option maxRecDepth 100000 in
theorem ok_X9_body : tb_ok ctX9 m_X9_body t_X9_body = true := by decide +kernel
theorem i_X9_body_0 : tab t_X9_body 0 = some (.aload_n 0, 1, 0, 0, 0, 0, 0, 0, 0, 0, []) := rfl
theorem i_X9_body_1 : tab t_X9_body 1 = some (.getfield 179, 3, 0, 0, 0, 9, 1, 0, 0, 0, []) := rfl
theorem i_X9_body_4 : tab t_X9_body 4 = some (.bipush 12, 2, 0, 12, 0, 0, 0, 0, 0, 0, []) := rfl
theorem i_X9_body_6 : tab t_X9_body 6 = some (.if_icmp .eq 53, 3, 59, 0, 0, 0, 0, 0, 0, 0, []) := rfl
theorem i_X9_body_9 : tab t_X9_body 9 = some (.iload_n 1, 1, 1, 0, 0, 0, 0, 0, 0, 0, []) := rfl
theorem i_X9_body_10 : tab t_X9_body 10 = some (.iconst (-1), 1, 0, -1, 0, 0, 0, 0, 0, 0, []) := rfl
theorem i_X9_body_11 : tab t_X9_body 11 = some (.if_icmp .eq 11, 3, 22, 0, 0, 0, 0, 0, 0, 0, []) := rfl
theorem i_X9_body_14 : tab t_X9_body 14 = some (.aload_n 0, 1, 0, 0, 0, 0, 0, 0, 0, 0, []) := rfl
theorem i_X9_body_15 : tab t_X9_body 15 = some (.iload_n 1, 1, 1, 0, 0, 0, 0, 0, 0, 0, []) := rfl
theorem i_X9_body_16 : tab t_X9_body 16 = some (.invokevirtual 185, 3, 1, 0, 0, 0, 128, 10, 0, 0, []) := rfl
theorem i_X9_body_19 : tab t_X9_body 19 = some (.ifCond .eq 40, 3, 59, 0, 0, 0, 0, 0, 0, 0, []) := rfl
theorem i_X9_body_22 : tab t_X9_body 22 = some (.iload_n 2, 1, 2, 0, 0, 0, 0, 0, 0, 0, []) := rfl
theorem i_X9_body_23 : tab t_X9_body 23 = some (.i2l, 1, 0, 0, 0, 0, 0, 0, 0, 0, []) := rfl
theorem i_X9_body_24 : tab t_X9_body 24 = some (.lconst 0, 1, 0, 0, 0, 0, 0, 0, 0, 0, []) := rfl
theorem i_X9_body_25 : tab t_X9_body 25 = some (.ldc2_w 189, 3, 0, 0, 3, 0, 0, 0, 0, 0, []) := rfl
theorem i_X9_body_28 : tab t_X9_body 28 = some (.invokestatic 175, 3, 3, 0, 0, 0, 126, 0, 0, 0, []) := rfl
theorem i_X9_body_31 : tab t_X9_body 31 = some (.ifCond .eq 28, 3, 59, 0, 0, 0, 0, 0, 0, 0, []) := rfl
theorem i_X9_body_34 : tab t_X9_body 34 = some (.iload_n 3, 1, 3, 0, 0, 0, 0, 0, 0, 0, []) := rfl
theorem i_X9_body_35 : tab t_X9_body 35 = some (.i2l, 1, 0, 0, 0, 0, 0, 0, 0, 0, []) := rfl
theorem i_X9_body_36 : tab t_X9_body 36 = some (.lconst 0, 1, 0, 0, 0, 0, 0, 0, 0, 0, []) := rfl
theorem i_X9_body_37 : tab t_X9_body 37 = some (.ldc2_w 191, 3, 0, 0, 99, 0, 0, 0, 0, 0, []) := rfl
theorem i_X9_body_40 : tab t_X9_body 40 = some (.invokestatic 175, 3, 3, 0, 0, 0, 126, 0, 0, 0, []) := rfl
theorem i_X9_body_43 : tab t_X9_body 43 = some (.ifCond .eq 16, 3, 59, 0, 0, 0, 0, 0, 0, 0, []) := rfl
theorem i_X9_body_46 : tab t_X9_body 46 = some (.iload 4, 2, 4, 0, 0, 0, 0, 0, 0, 0, []) := rfl
theorem i_X9_body_48 : tab t_X9_body 48 = some (.i2l, 1, 0, 0, 0, 0, 0, 0, 0, 0, []) := rfl
theorem i_X9_body_49 : tab t_X9_body 49 = some (.lconst 0, 1, 0, 0, 0, 0, 0, 0, 0, 0, []) := rfl
theorem i_X9_body_50 : tab t_X9_body 50 = some (.ldc2_w 191, 3, 0, 0, 99, 0, 0, 0, 0, 0, []) := rfl
theorem i_X9_body_53 : tab t_X9_body 53 = some (.invokestatic 175, 3, 3, 0, 0, 0, 126, 0, 0, 0, []) := rfl
theorem i_X9_body_56 : tab t_X9_body 56 = some (.ifCond .ne 5, 3, 61, 0, 0, 0, 0, 0, 0, 0, []) := rfl
theorem i_X9_body_59 : tab t_X9_body 59 = some (.iconst (-1), 1, 0, -1, 0, 0, 0, 0, 0, 0, []) := rfl
theorem i_X9_body_60 : tab t_X9_body 60 = some (.ireturn, 1, 0, 0, 0, 0, 0, 0, 0, 0, []) := rfl
theorem i_X9_body_61 : tab t_X9_body 61 = some (.aload_n 0, 1, 0, 0, 0, 0, 0, 0, 0, 0, []) := rfl
theorem i_X9_body_62 : tab t_X9_body 62 = some (.getfield 13, 3, 2, 0, 0, 9, 8, 0, 0, 0, []) := rfl
theorem i_X9_body_65 : tab t_X9_body 65 = some (.aload_n 0, 1, 0, 0, 0, 0, 0, 0, 0, 0, []) := rfl
theorem i_X9_body_66 : tab t_X9_body 66 = some (.getfield 179, 3, 0, 0, 0, 9, 1, 0, 0, 0, []) := rfl
theorem i_X9_body_69 : tab t_X9_body 69 = some (.iload_n 1, 1, 1, 0, 0, 0, 0, 0, 0, 0, []) := rfl
theorem i_X9_body_70 : tab t_X9_body 70 = some (.iastore, 1, 0, 0, 0, 0, 0, 0, 0, 0, []) := rfl
theorem i_X9_body_71 : tab t_X9_body 71 = some (.aload_n 0, 1, 0, 0, 0, 0, 0, 0, 0, 0, []) := rfl
theorem i_X9_body_72 : tab t_X9_body 72 = some (.getfield 17, 3, 2, 0, 0, 9, 9, 0, 0, 0, []) := rfl
theorem i_X9_body_75 : tab t_X9_body 75 = some (.aload_n 0, 1, 0, 0, 0, 0, 0, 0, 0, 0, []) := rfl
theorem i_X9_body_76 : tab t_X9_body 76 = some (.getfield 179, 3, 0, 0, 0, 9, 1, 0, 0, 0, []) := rfl
theorem i_X9_body_79 : tab t_X9_body 79 = some (.iload_n 2, 1, 2, 0, 0, 0, 0, 0, 0, 0, []) := rfl
theorem i_X9_body_80 : tab t_X9_body 80 = some (.iastore, 1, 0, 0, 0, 0, 0, 0, 0, 0, []) := rfl
theorem i_X9_body_81 : tab t_X9_body 81 = some (.aload_n 0, 1, 0, 0, 0, 0, 0, 0, 0, 0, []) := rfl
theorem i_X9_body_82 : tab t_X9_body 82 = some (.getfield 20, 3, 2, 0, 0, 9, 10, 0, 0, 0, []) := rfl
theorem i_X9_body_85 : tab t_X9_body 85 = some (.aload_n 0, 1, 0, 0, 0, 0, 0, 0, 0, 0, []) := rfl
theorem i_X9_body_86 : tab t_X9_body 86 = some (.getfield 179, 3, 0, 0, 0, 9, 1, 0, 0, 0, []) := rfl
theorem i_X9_body_89 : tab t_X9_body 89 = some (.iload_n 3, 1, 3, 0, 0, 0, 0, 0, 0, 0, []) := rfl
theorem i_X9_body_90 : tab t_X9_body 90 = some (.iastore, 1, 0, 0, 0, 0, 0, 0, 0, 0, []) := rfl
theorem i_X9_body_91 : tab t_X9_body 91 = some (.aload_n 0, 1, 0, 0, 0, 0, 0, 0, 0, 0, []) := rfl
theorem i_X9_body_92 : tab t_X9_body 92 = some (.getfield 23, 3, 2, 0, 0, 9, 11, 0, 0, 0, []) := rfl
theorem i_X9_body_95 : tab t_X9_body 95 = some (.aload_n 0, 1, 0, 0, 0, 0, 0, 0, 0, 0, []) := rfl
theorem i_X9_body_96 : tab t_X9_body 96 = some (.getfield 179, 3, 0, 0, 0, 9, 1, 0, 0, 0, []) := rfl
theorem i_X9_body_99 : tab t_X9_body 99 = some (.iload 4, 2, 4, 0, 0, 0, 0, 0, 0, 0, []) := rfl
theorem i_X9_body_101 : tab t_X9_body 101 = some (.iastore, 1, 0, 0, 0, 0, 0, 0, 0, 0, []) := rfl
theorem i_X9_body_102 : tab t_X9_body 102 = some (.aload_n 0, 1, 0, 0, 0, 0, 0, 0, 0, 0, []) := rfl
theorem i_X9_body_103 : tab t_X9_body 103 = some (.getfield 26, 3, 2, 0, 0, 9, 12, 0, 0, 0, []) := rfl
theorem i_X9_body_106 : tab t_X9_body 106 = some (.aload_n 0, 1, 0, 0, 0, 0, 0, 0, 0, 0, []) := rfl
theorem i_X9_body_107 : tab t_X9_body 107 = some (.getfield 179, 3, 0, 0, 0, 9, 1, 0, 0, 0, []) := rfl
theorem i_X9_body_110 : tab t_X9_body 110 = some (.iconst (-1), 1, 0, -1, 0, 0, 0, 0, 0, 0, []) := rfl
theorem i_X9_body_111 : tab t_X9_body 111 = some (.iastore, 1, 0, 0, 0, 0, 0, 0, 0, 0, []) := rfl
theorem i_X9_body_112 : tab t_X9_body 112 = some (.aload_n 0, 1, 0, 0, 0, 0, 0, 0, 0, 0, []) := rfl
theorem i_X9_body_113 : tab t_X9_body 113 = some (.getfield 29, 3, 2, 0, 0, 9, 13, 0, 0, 0, []) := rfl
theorem i_X9_body_116 : tab t_X9_body 116 = some (.aload_n 0, 1, 0, 0, 0, 0, 0, 0, 0, 0, []) := rfl
theorem i_X9_body_117 : tab t_X9_body 117 = some (.getfield 179, 3, 0, 0, 0, 9, 1, 0, 0, 0, []) := rfl
theorem i_X9_body_120 : tab t_X9_body 120 = some (.iconst 0, 1, 0, 0, 0, 0, 0, 0, 0, 0, []) := rfl
theorem i_X9_body_121 : tab t_X9_body 121 = some (.iastore, 1, 0, 0, 0, 0, 0, 0, 0, 0, []) := rfl
theorem i_X9_body_122 : tab t_X9_body 122 = some (.aload_n 0, 1, 0, 0, 0, 0, 0, 0, 0, 0, []) := rfl
theorem i_X9_body_123 : tab t_X9_body 123 = some (.dup, 1, 0, 0, 0, 0, 0, 0, 0, 0, []) := rfl
theorem i_X9_body_124 : tab t_X9_body 124 = some (.getfield 179, 3, 0, 0, 0, 9, 1, 0, 0, 0, []) := rfl
theorem i_X9_body_127 : tab t_X9_body 127 = some (.iconst 1, 1, 0, 1, 0, 0, 0, 0, 0, 0, []) := rfl
theorem i_X9_body_128 : tab t_X9_body 128 = some (.iadd, 1, 0, 0, 0, 0, 0, 0, 0, 0, []) := rfl
theorem i_X9_body_129 : tab t_X9_body 129 = some (.putfield 179, 3, 0, 0, 0, 9, 1, 0, 0, 0, []) := rfl
theorem i_X9_body_132 : tab t_X9_body 132 = some (.aload_n 0, 1, 0, 0, 0, 0, 0, 0, 0, 0, []) := rfl
theorem i_X9_body_133 : tab t_X9_body 133 = some (.getfield 179, 3, 0, 0, 0, 9, 1, 0, 0, 0, []) := rfl
theorem i_X9_body_136 : tab t_X9_body 136 = some (.iconst 1, 1, 0, 1, 0, 0, 0, 0, 0, 0, []) := rfl
theorem i_X9_body_137 : tab t_X9_body 137 = some (.isub, 1, 0, 0, 0, 0, 0, 0, 0, 0, []) := rfl
theorem i_X9_body_138 : tab t_X9_body 138 = some (.ireturn, 1, 0, 0, 0, 0, 0, 0, 0, 0, []) := rfl
def t_X9_person : List (Nat × rw_) := [(0, (.aload_n 0, 1, 0, 0, 0, 0, 0, 0, 0, 0, [])), (1, (.getfield 182, 3, 0, 0, 0, 9, 2, 0, 0, 0, [])), (4, (.bipush 24, 2, 0, 24, 0, 0, 0, 0, 0, 0, [])), (6, (.if_icmp .eq 61, 3, 67, 0, 0, 0, 0, 0, 0, 0, [])), (9, (.iload_n 1, 1, 1, 0, 0, 0, 0, 0, 0, 0, [])), (10, (.i2l, 1, 0, 0, 0, 0, 0, 0, 0, 0, [])), (11, (.lconst 0, 1, 0, 0, 0, 0, 0, 0, 0, 0, [])), (12, (.ldc2_w 193, 3, 0, 0, 9, 0, 0, 0, 0, 0, [])), (15, (.invokestatic 175, 3, 3, 0, 0, 0, 126, 0, 0, 0, [])), (18, (.ifCond .eq 49, 3, 67, 0, 0, 0, 0, 0, 0, 0, [])), (21, (.iload_n 2, 1, 2, 0, 0, 0, 0, 0, 0, 0, [])), (22, (.i2l, 1, 0, 0, 0, 0, 0, 0, 0, 0, [])), (23, (.lconst 0, 1, 0, 0, 0, 0, 0, 0, 0, 0, [])), (24, (.ldc2_w 195, 3, 0, 0, 9999, 0, 0, 0, 0, 0, [])), (27, (.invokestatic 175, 3, 3, 0, 0, 0, 126, 0, 0, 0, [])), (30, (.ifCond .eq 37, 3, 67, 0, 0, 0, 0, 0, 0, 0, [])), (33, (.iload_n 3, 1, 3, 0, 0, 0, 0, 0, 0, 0, [])), (34, (.i2l, 1, 0, 0, 0, 0, 0, 0, 0, 0, [])), (35, (.lconst 0, 1, 0, 0, 0, 0, 0, 0, 0, 0, [])), (36, (.ldc2_w 189, 3, 0, 0, 3, 0, 0, 0, 0, 0, [])), (39, (.invokestatic 175, 3, 3, 0, 0, 0, 126, 0, 0, 0, [])), (42, (.ifCond .eq 25, 3, 67, 0, 0, 0, 0, 0, 0, 0, [])), (45, (.aload_n 0, 1, 0, 0, 0, 0, 0, 0, 0, 0, [])), (46, (.iload 4, 2, 4, 0, 0, 0, 0, 0, 0, 0, [])), (48, (.invokevirtual 185, 3, 1, 0, 0, 0, 128, 10, 0, 0, [])), (51, (.ifCond .eq 16, 3, 67, 0, 0, 0, 0, 0, 0, 0, [])), (54, (.iload 5, 2, 5, 0, 0, 0, 0, 0, 0, 0, [])), (56, (.i2l, 1, 0, 0, 0, 0, 0, 0, 0, 0, [])), (57, (.lconst 0, 1, 0, 0, 0, 0, 0, 0, 0, 0, [])), (58, (.ldc2_w 193, 3, 0, 0, 9, 0, 0, 0, 0, 0, [])), (61, (.invokestatic 175, 3, 3, 0, 0, 0, 126, 0, 0, 0, [])), (64, (.ifCond .ne 5, 3, 69, 0, 0, 0, 0, 0, 0, 0, [])), (67, (.iconst (-1), 1, 0, -1, 0, 0, 0, 0, 0, 0, [])), (68, (.ireturn, 1, 0, 0, 0, 0, 0, 0, 0, 0, [])), (69, (.aload_n 0, 1, 0, 0, 0, 0, 0, 0, 0, 0, [])), (70, (.getfield 35, 3, 2, 0, 0, 9, 15, 0, 0, 0, [])), (73, (.aload_n 0, 1, 0, 0, 0, 0, 0, 0, 0, 0, [])), (74, (.getfield 182, 3, 0, 0, 0, 9, 2, 0, 0, 0, [])), (77, (.iload_n 1, 1, 1, 0, 0, 0, 0, 0, 0, 0, [])), (78, (.iastore, 1, 0, 0, 0, 0, 0, 0, 0, 0, [])), (79, (.aload_n 0, 1, 0, 0, 0, 0, 0, 0, 0, 0, [])), (80, (.getfield 38, 3, 2, 0, 0, 9, 16, 0, 0, 0, [])), (83, (.aload_n 0, 1, 0, 0, 0, 0, 0, 0, 0, 0, [])), (84, (.getfield 182, 3, 0, 0, 0, 9, 2, 0, 0, 0, [])), (87, (.iload_n 2, 1, 2, 0, 0, 0, 0, 0, 0, 0, [])), (88, (.iastore, 1, 0, 0, 0, 0, 0, 0, 0, 0, [])), (89, (.aload_n 0, 1, 0, 0, 0, 0, 0, 0, 0, 0, [])), (90, (.getfield 41, 3, 2, 0, 0, 9, 17, 0, 0, 0, [])), (93, (.aload_n 0, 1, 0, 0, 0, 0, 0, 0, 0, 0, [])), (94, (.getfield 182, 3, 0, 0, 0, 9, 2, 0, 0, 0, [])), (97, (.iload_n 3, 1, 3, 0, 0, 0, 0, 0, 0, 0, [])), (98, (.iastore, 1, 0, 0, 0, 0, 0, 0, 0, 0, [])), (99, (.aload_n 0, 1, 0, 0, 0, 0, 0, 0, 0, 0, [])), (100, (.getfield 44, 3, 2, 0, 0, 9, 18, 0, 0, 0, [])), (103, (.aload_n 0, 1, 0, 0, 0, 0, 0, 0, 0, 0, [])), (104, (.getfield 182, 3, 0, 0, 0, 9, 2, 0, 0, 0, [])), (107, (.iload 4, 2, 4, 0, 0, 0, 0, 0, 0, 0, [])), (109, (.iastore, 1, 0, 0, 0, 0, 0, 0, 0, 0, [])), (110, (.aload_n 0, 1, 0, 0, 0, 0, 0, 0, 0, 0, [])), (111, (.getfield 47, 3, 2, 0, 0, 9, 19, 0, 0, 0, [])), (114, (.aload_n 0, 1, 0, 0, 0, 0, 0, 0, 0, 0, [])), (115, (.getfield 182, 3, 0, 0, 0, 9, 2, 0, 0, 0, [])), (118, (.iload 5, 2, 5, 0, 0, 0, 0, 0, 0, 0, [])), (120, (.iastore, 1, 0, 0, 0, 0, 0, 0, 0, 0, [])), (121, (.aload_n 0, 1, 0, 0, 0, 0, 0, 0, 0, 0, [])), (122, (.getfield 50, 3, 2, 0, 0, 9, 20, 0, 0, 0, [])), (125, (.aload_n 0, 1, 0, 0, 0, 0, 0, 0, 0, 0, [])), (126, (.getfield 182, 3, 0, 0, 0, 9, 2, 0, 0, 0, [])), (129, (.iconst (-1), 1, 0, -1, 0, 0, 0, 0, 0, 0, [])), (130, (.iastore, 1, 0, 0, 0, 0, 0, 0, 0, 0, [])), (131, (.aload_n 0, 1, 0, 0, 0, 0, 0, 0, 0, 0, [])), (132, (.dup, 1, 0, 0, 0, 0, 0, 0, 0, 0, [])), (133, (.getfield 182, 3, 0, 0, 0, 9, 2, 0, 0, 0, [])), (136, (.iconst 1, 1, 0, 1, 0, 0, 0, 0, 0, 0, [])), (137, (.iadd, 1, 0, 0, 0, 0, 0, 0, 0, 0, [])), (138, (.putfield 182, 3, 0, 0, 0, 9, 2, 0, 0, 0, [])), (141, (.aload_n 0, 1, 0, 0, 0, 0, 0, 0, 0, 0, [])), (142, (.getfield 182, 3, 0, 0, 0, 9, 2, 0, 0, 0, [])), (145, (.iconst 1, 1, 0, 1, 0, 0, 0, 0, 0, 0, [])), (146, (.isub, 1, 0, 0, 0, 0, 0, 0, 0, 0, [])), (147, (.ireturn, 1, 0, 0, 0, 0, 0, 0, 0, 0, []))]
set_option maxRecDepth 100000 in
theorem ok_X9_person : tb_ok ctX9 m_X9_person t_X9_person = true := by decide +kernel
theorem i_X9_person_0 : tab t_X9_person 0 = some (.aload_n 0, 1, 0, 0, 0, 0, 0, 0, 0, 0, []) := rfl
theorem i_X9_person_1 : tab t_X9_person 1 = some (.getfield 182, 3, 0, 0, 0, 9, 2, 0, 0, 0, []) := rfl
theorem i_X9_person_4 : tab t_X9_person 4 = some (.bipush 24, 2, 0, 24, 0, 0, 0, 0, 0, 0, []) := rfl
theorem i_X9_person_6 : tab t_X9_person 6 = some (.if_icmp .eq 61, 3, 67, 0, 0, 0, 0, 0, 0, 0, []) := rfl
theorem i_X9_person_9 : tab t_X9_person 9 = some (.iload_n 1, 1, 1, 0, 0, 0, 0, 0, 0, 0, []) := rfl
theorem i_X9_person_10 : tab t_X9_person 10 = some (.i2l, 1, 0, 0, 0, 0, 0, 0, 0, 0, []) := rfl
theorem i_X9_person_11 : tab t_X9_person 11 = some (.lconst 0, 1, 0, 0, 0, 0, 0, 0, 0, 0, []) := rfl
theorem i_X9_person_12 : tab t_X9_person 12 = some (.ldc2_w 193, 3, 0, 0, 9, 0, 0, 0, 0, 0, []) := rfl
theorem i_X9_person_15 : tab t_X9_person 15 = some (.invokestatic 175, 3, 3, 0, 0, 0, 126, 0, 0, 0, []) := rfl
theorem i_X9_person_18 : tab t_X9_person 18 = some (.ifCond .eq 49, 3, 67, 0, 0, 0, 0, 0, 0, 0, []) := rfl
theorem i_X9_person_21 : tab t_X9_person 21 = some (.iload_n 2, 1, 2, 0, 0, 0, 0, 0, 0, 0, []) := rfl
theorem i_X9_person_22 : tab t_X9_person 22 = some (.i2l, 1, 0, 0, 0, 0, 0, 0, 0, 0, []) := rfl
theorem i_X9_person_23 : tab t_X9_person 23 = some (.lconst 0, 1, 0, 0, 0, 0, 0, 0, 0, 0, []) := rfl
theorem i_X9_person_24 : tab t_X9_person 24 = some (.ldc2_w 195, 3, 0, 0, 9999, 0, 0, 0, 0, 0, []) := rfl
theorem i_X9_person_27 : tab t_X9_person 27 = some (.invokestatic 175, 3, 3, 0, 0, 0, 126, 0, 0, 0, []) := rfl
theorem i_X9_person_30 : tab t_X9_person 30 = some (.ifCond .eq 37, 3, 67, 0, 0, 0, 0, 0, 0, 0, []) := rfl
theorem i_X9_person_33 : tab t_X9_person 33 = some (.iload_n 3, 1, 3, 0, 0, 0, 0, 0, 0, 0, []) := rfl
theorem i_X9_person_34 : tab t_X9_person 34 = some (.i2l, 1, 0, 0, 0, 0, 0, 0, 0, 0, []) := rfl
theorem i_X9_person_35 : tab t_X9_person 35 = some (.lconst 0, 1, 0, 0, 0, 0, 0, 0, 0, 0, []) := rfl
theorem i_X9_person_36 : tab t_X9_person 36 = some (.ldc2_w 189, 3, 0, 0, 3, 0, 0, 0, 0, 0, []) := rfl
theorem i_X9_person_39 : tab t_X9_person 39 = some (.invokestatic 175, 3, 3, 0, 0, 0, 126, 0, 0, 0, []) := rfl
theorem i_X9_person_42 : tab t_X9_person 42 = some (.ifCond .eq 25, 3, 67, 0, 0, 0, 0, 0, 0, 0, []) := rfl
theorem i_X9_person_45 : tab t_X9_person 45 = some (.aload_n 0, 1, 0, 0, 0, 0, 0, 0, 0, 0, []) := rfl
theorem i_X9_person_46 : tab t_X9_person 46 = some (.iload 4, 2, 4, 0, 0, 0, 0, 0, 0, 0, []) := rfl
theorem i_X9_person_48 : tab t_X9_person 48 = some (.invokevirtual 185, 3, 1, 0, 0, 0, 128, 10, 0, 0, []) := rfl
theorem i_X9_person_51 : tab t_X9_person 51 = some (.ifCond .eq 16, 3, 67, 0, 0, 0, 0, 0, 0, 0, []) := rfl
theorem i_X9_person_54 : tab t_X9_person 54 = some (.iload 5, 2, 5, 0, 0, 0, 0, 0, 0, 0, []) := rfl
theorem i_X9_person_56 : tab t_X9_person 56 = some (.i2l, 1, 0, 0, 0, 0, 0, 0, 0, 0, []) := rfl
theorem i_X9_person_57 : tab t_X9_person 57 = some (.lconst 0, 1, 0, 0, 0, 0, 0, 0, 0, 0, []) := rfl
theorem i_X9_person_58 : tab t_X9_person 58 = some (.ldc2_w 193, 3, 0, 0, 9, 0, 0, 0, 0, 0, []) := rfl
theorem i_X9_person_61 : tab t_X9_person 61 = some (.invokestatic 175, 3, 3, 0, 0, 0, 126, 0, 0, 0, []) := rfl
theorem i_X9_person_64 : tab t_X9_person 64 = some (.ifCond .ne 5, 3, 69, 0, 0, 0, 0, 0, 0, 0, []) := rfl
theorem i_X9_person_67 : tab t_X9_person 67 = some (.iconst (-1), 1, 0, -1, 0, 0, 0, 0, 0, 0, []) := rfl
theorem i_X9_person_68 : tab t_X9_person 68 = some (.ireturn, 1, 0, 0, 0, 0, 0, 0, 0, 0, []) := rfl
theorem i_X9_person_69 : tab t_X9_person 69 = some (.aload_n 0, 1, 0, 0, 0, 0, 0, 0, 0, 0, []) := rfl
theorem i_X9_person_70 : tab t_X9_person 70 = some (.getfield 35, 3, 2, 0, 0, 9, 15, 0, 0, 0, []) := rfl
theorem i_X9_person_73 : tab t_X9_person 73 = some (.aload_n 0, 1, 0, 0, 0, 0, 0, 0, 0, 0, []) := rfl
theorem i_X9_person_74 : tab t_X9_person 74 = some (.getfield 182, 3, 0, 0, 0, 9, 2, 0, 0, 0, []) := rfl
theorem i_X9_person_77 : tab t_X9_person 77 = some (.iload_n 1, 1, 1, 0, 0, 0, 0, 0, 0, 0, []) := rfl
theorem i_X9_person_78 : tab t_X9_person 78 = some (.iastore, 1, 0, 0, 0, 0, 0, 0, 0, 0, []) := rfl
theorem i_X9_person_79 : tab t_X9_person 79 = some (.aload_n 0, 1, 0, 0, 0, 0, 0, 0, 0, 0, []) := rfl
theorem i_X9_person_80 : tab t_X9_person 80 = some (.getfield 38, 3, 2, 0, 0, 9, 16, 0, 0, 0, []) := rfl
theorem i_X9_person_83 : tab t_X9_person 83 = some (.aload_n 0, 1, 0, 0, 0, 0, 0, 0, 0, 0, []) := rfl
theorem i_X9_person_84 : tab t_X9_person 84 = some (.getfield 182, 3, 0, 0, 0, 9, 2, 0, 0, 0, []) := rfl
theorem i_X9_person_87 : tab t_X9_person 87 = some (.iload_n 2, 1, 2, 0, 0, 0, 0, 0, 0, 0, []) := rfl
theorem i_X9_person_88 : tab t_X9_person 88 = some (.iastore, 1, 0, 0, 0, 0, 0, 0, 0, 0, []) := rfl
theorem i_X9_person_89 : tab t_X9_person 89 = some (.aload_n 0, 1, 0, 0, 0, 0, 0, 0, 0, 0, []) := rfl
theorem i_X9_person_90 : tab t_X9_person 90 = some (.getfield 41, 3, 2, 0, 0, 9, 17, 0, 0, 0, []) := rfl
theorem i_X9_person_93 : tab t_X9_person 93 = some (.aload_n 0, 1, 0, 0, 0, 0, 0, 0, 0, 0, []) := rfl
theorem i_X9_person_94 : tab t_X9_person 94 = some (.getfield 182, 3, 0, 0, 0, 9, 2, 0, 0, 0, []) := rfl
theorem i_X9_person_97 : tab t_X9_person 97 = some (.iload_n 3, 1, 3, 0, 0, 0, 0, 0, 0, 0, []) := rfl
theorem i_X9_person_98 : tab t_X9_person 98 = some (.iastore, 1, 0, 0, 0, 0, 0, 0, 0, 0, []) := rfl
theorem i_X9_person_99 : tab t_X9_person 99 = some (.aload_n 0, 1, 0, 0, 0, 0, 0, 0, 0, 0, []) := rfl
theorem i_X9_person_100 : tab t_X9_person 100 = some (.getfield 44, 3, 2, 0, 0, 9, 18, 0, 0, 0, []) := rfl
theorem i_X9_person_103 : tab t_X9_person 103 = some (.aload_n 0, 1, 0, 0, 0, 0, 0, 0, 0, 0, []) := rfl
theorem i_X9_person_104 : tab t_X9_person 104 = some (.getfield 182, 3, 0, 0, 0, 9, 2, 0, 0, 0, []) := rfl
theorem i_X9_person_107 : tab t_X9_person 107 = some (.iload 4, 2, 4, 0, 0, 0, 0, 0, 0, 0, []) := rfl
theorem i_X9_person_109 : tab t_X9_person 109 = some (.iastore, 1, 0, 0, 0, 0, 0, 0, 0, 0, []) := rfl
theorem i_X9_person_110 : tab t_X9_person 110 = some (.aload_n 0, 1, 0, 0, 0, 0, 0, 0, 0, 0, []) := rfl
theorem i_X9_person_111 : tab t_X9_person 111 = some (.getfield 47, 3, 2, 0, 0, 9, 19, 0, 0, 0, []) := rfl
theorem i_X9_person_114 : tab t_X9_person 114 = some (.aload_n 0, 1, 0, 0, 0, 0, 0, 0, 0, 0, []) := rfl
theorem i_X9_person_115 : tab t_X9_person 115 = some (.getfield 182, 3, 0, 0, 0, 9, 2, 0, 0, 0, []) := rfl
theorem i_X9_person_118 : tab t_X9_person 118 = some (.iload 5, 2, 5, 0, 0, 0, 0, 0, 0, 0, []) := rfl
theorem i_X9_person_120 : tab t_X9_person 120 = some (.iastore, 1, 0, 0, 0, 0, 0, 0, 0, 0, []) := rfl
theorem i_X9_person_121 : tab t_X9_person 121 = some (.aload_n 0, 1, 0, 0, 0, 0, 0, 0, 0, 0, []) := rfl
theorem i_X9_person_122 : tab t_X9_person 122 = some (.getfield 50, 3, 2, 0, 0, 9, 20, 0, 0, 0, []) := rfl
theorem i_X9_person_125 : tab t_X9_person 125 = some (.aload_n 0, 1, 0, 0, 0, 0, 0, 0, 0, 0, []) := rfl
theorem i_X9_person_126 : tab t_X9_person 126 = some (.getfield 182, 3, 0, 0, 0, 9, 2, 0, 0, 0, []) := rfl
theorem i_X9_person_129 : tab t_X9_person 129 = some (.iconst (-1), 1, 0, -1, 0, 0, 0, 0, 0, 0, []) := rfl
theorem i_X9_person_130 : tab t_X9_person 130 = some (.iastore, 1, 0, 0, 0, 0, 0, 0, 0, 0, []) := rfl
theorem i_X9_person_131 : tab t_X9_person 131 = some (.aload_n 0, 1, 0, 0, 0, 0, 0, 0, 0, 0, []) := rfl
theorem i_X9_person_132 : tab t_X9_person 132 = some (.dup, 1, 0, 0, 0, 0, 0, 0, 0, 0, []) := rfl
theorem i_X9_person_133 : tab t_X9_person 133 = some (.getfield 182, 3, 0, 0, 0, 9, 2, 0, 0, 0, []) := rfl
theorem i_X9_person_136 : tab t_X9_person 136 = some (.iconst 1, 1, 0, 1, 0, 0, 0, 0, 0, 0, []) := rfl
theorem i_X9_person_137 : tab t_X9_person 137 = some (.iadd, 1, 0, 0, 0, 0, 0, 0, 0, 0, []) := rfl
theorem i_X9_person_138 : tab t_X9_person 138 = some (.putfield 182, 3, 0, 0, 0, 9, 2, 0, 0, 0, []) := rfl
theorem i_X9_person_141 : tab t_X9_person 141 = some (.aload_n 0, 1, 0, 0, 0, 0, 0, 0, 0, 0, []) := rfl
theorem i_X9_person_142 : tab t_X9_person 142 = some (.getfield 182, 3, 0, 0, 0, 9, 2, 0, 0, 0, []) := rfl
theorem i_X9_person_145 : tab t_X9_person 145 = some (.iconst 1, 1, 0, 1, 0, 0, 0, 0, 0, 0, []) := rfl
theorem i_X9_person_146 : tab t_X9_person 146 = some (.isub, 1, 0, 0, 0, 0, 0, 0, 0, 0, []) := rfl
theorem i_X9_person_147 : tab t_X9_person 147 = some (.ireturn, 1, 0, 0, 0, 0, 0, 0, 0, 0, []) := rfl
def t_X9_step : List (Nat × rw_) := [(0, (.aload_n 0, 1, 0, 0, 0, 0, 0, 0, 0, 0, [])), (1, (.getfield 197, 3, 0, 0, 0, 9, 3, 0, 0, 0, [])), (4, (.sipush 200, 3, 0, 200, 0, 0, 0, 0, 0, 0, [])), (7, (.if_icmp .eq 43, 3, 50, 0, 0, 0, 0, 0, 0, 0, [])), (10, (.aload_n 0, 1, 0, 0, 0, 0, 0, 0, 0, 0, [])), (11, (.iload_n 1, 1, 1, 0, 0, 0, 0, 0, 0, 0, [])), (12, (.invokevirtual 200, 3, 1, 0, 0, 0, 129, 10, 0, 0, [])), (15, (.ifCond .eq 35, 3, 50, 0, 0, 0, 0, 0, 0, 0, [])), (18, (.iload_n 2, 1, 2, 0, 0, 0, 0, 0, 0, 0, [])), (19, (.invokestatic 203, 3, 1, 0, 0, 0, 127, 0, 0, 0, [])), (22, (.ifCond .eq 28, 3, 50, 0, 0, 0, 0, 0, 0, 0, [])), (25, (.iload_n 3, 1, 3, 0, 0, 0, 0, 0, 0, 0, [])), (26, (.i2l, 1, 0, 0, 0, 0, 0, 0, 0, 0, [])), (27, (.lconst 0, 1, 0, 0, 0, 0, 0, 0, 0, 0, [])), (28, (.ldc2_w 191, 3, 0, 0, 99, 0, 0, 0, 0, 0, [])), (31, (.invokestatic 175, 3, 3, 0, 0, 0, 126, 0, 0, 0, [])), (34, (.ifCond .eq 16, 3, 50, 0, 0, 0, 0, 0, 0, 0, [])), (37, (.iload 4, 2, 4, 0, 0, 0, 0, 0, 0, 0, [])), (39, (.i2l, 1, 0, 0, 0, 0, 0, 0, 0, 0, [])), (40, (.lconst 0, 1, 0, 0, 0, 0, 0, 0, 0, 0, [])), (41, (.ldc2_w 191, 3, 0, 0, 99, 0, 0, 0, 0, 0, [])), (44, (.invokestatic 175, 3, 3, 0, 0, 0, 126, 0, 0, 0, [])), (47, (.ifCond .ne 5, 3, 52, 0, 0, 0, 0, 0, 0, 0, [])), (50, (.iconst (-1), 1, 0, -1, 0, 0, 0, 0, 0, 0, [])), (51, (.ireturn, 1, 0, 0, 0, 0, 0, 0, 0, 0, [])), (52, (.aload_n 0, 1, 0, 0, 0, 0, 0, 0, 0, 0, [])), (53, (.getfield 53, 3, 2, 0, 0, 9, 21, 0, 0, 0, [])), (56, (.aload_n 0, 1, 0, 0, 0, 0, 0, 0, 0, 0, [])), (57, (.getfield 197, 3, 0, 0, 0, 9, 3, 0, 0, 0, [])), (60, (.iload_n 1, 1, 1, 0, 0, 0, 0, 0, 0, 0, [])), (61, (.iastore, 1, 0, 0, 0, 0, 0, 0, 0, 0, [])), (62, (.aload_n 0, 1, 0, 0, 0, 0, 0, 0, 0, 0, [])), (63, (.getfield 56, 3, 2, 0, 0, 9, 22, 0, 0, 0, [])), (66, (.aload_n 0, 1, 0, 0, 0, 0, 0, 0, 0, 0, [])), (67, (.getfield 197, 3, 0, 0, 0, 9, 3, 0, 0, 0, [])), (70, (.iload_n 2, 1, 2, 0, 0, 0, 0, 0, 0, 0, [])), (71, (.iastore, 1, 0, 0, 0, 0, 0, 0, 0, 0, [])), (72, (.aload_n 0, 1, 0, 0, 0, 0, 0, 0, 0, 0, [])), (73, (.getfield 59, 3, 2, 0, 0, 9, 23, 0, 0, 0, [])), (76, (.aload_n 0, 1, 0, 0, 0, 0, 0, 0, 0, 0, [])), (77, (.getfield 197, 3, 0, 0, 0, 9, 3, 0, 0, 0, [])), (80, (.iload_n 3, 1, 3, 0, 0, 0, 0, 0, 0, 0, [])), (81, (.iastore, 1, 0, 0, 0, 0, 0, 0, 0, 0, [])), (82, (.aload_n 0, 1, 0, 0, 0, 0, 0, 0, 0, 0, [])), (83, (.getfield 62, 3, 2, 0, 0, 9, 24, 0, 0, 0, [])), (86, (.aload_n 0, 1, 0, 0, 0, 0, 0, 0, 0, 0, [])), (87, (.getfield 197, 3, 0, 0, 0, 9, 3, 0, 0, 0, [])), (90, (.iload 4, 2, 4, 0, 0, 0, 0, 0, 0, 0, [])), (92, (.iastore, 1, 0, 0, 0, 0, 0, 0, 0, 0, [])), (93, (.aload_n 0, 1, 0, 0, 0, 0, 0, 0, 0, 0, [])), (94, (.dup, 1, 0, 0, 0, 0, 0, 0, 0, 0, [])), (95, (.getfield 197, 3, 0, 0, 0, 9, 3, 0, 0, 0, [])), (98, (.iconst 1, 1, 0, 1, 0, 0, 0, 0, 0, 0, [])), (99, (.iadd, 1, 0, 0, 0, 0, 0, 0, 0, 0, [])), (100, (.putfield 197, 3, 0, 0, 0, 9, 3, 0, 0, 0, [])), (103, (.aload_n 0, 1, 0, 0, 0, 0, 0, 0, 0, 0, [])), (104, (.getfield 197, 3, 0, 0, 0, 9, 3, 0, 0, 0, [])), (107, (.ireturn, 1, 0, 0, 0, 0, 0, 0, 0, 0, []))]
set_option maxRecDepth 100000 in
theorem ok_X9_step : tb_ok ctX9 m_X9_step t_X9_step = true := by decide +kernel
theorem i_X9_step_0 : tab t_X9_step 0 = some (.aload_n 0, 1, 0, 0, 0, 0, 0, 0, 0, 0, []) := rfl
theorem i_X9_step_1 : tab t_X9_step 1 = some (.getfield 197, 3, 0, 0, 0, 9, 3, 0, 0, 0, []) := rfl
theorem i_X9_step_4 : tab t_X9_step 4 = some (.sipush 200, 3, 0, 200, 0, 0, 0, 0, 0, 0, []) := rfl
theorem i_X9_step_7 : tab t_X9_step 7 = some (.if_icmp .eq 43, 3, 50, 0, 0, 0, 0, 0, 0, 0, []) := rfl
theorem i_X9_step_10 : tab t_X9_step 10 = some (.aload_n 0, 1, 0, 0, 0, 0, 0, 0, 0, 0, []) := rfl
theorem i_X9_step_11 : tab t_X9_step 11 = some (.iload_n 1, 1, 1, 0, 0, 0, 0, 0, 0, 0, []) := rfl
theorem i_X9_step_12 : tab t_X9_step 12 = some (.invokevirtual 200, 3, 1, 0, 0, 0, 129, 10, 0, 0, []) := rfl
theorem i_X9_step_15 : tab t_X9_step 15 = some (.ifCond .eq 35, 3, 50, 0, 0, 0, 0, 0, 0, 0, []) := rfl
theorem i_X9_step_18 : tab t_X9_step 18 = some (.iload_n 2, 1, 2, 0, 0, 0, 0, 0, 0, 0, []) := rfl
theorem i_X9_step_19 : tab t_X9_step 19 = some (.invokestatic 203, 3, 1, 0, 0, 0, 127, 0, 0, 0, []) := rfl
theorem i_X9_step_22 : tab t_X9_step 22 = some (.ifCond .eq 28, 3, 50, 0, 0, 0, 0, 0, 0, 0, []) := rfl
theorem i_X9_step_25 : tab t_X9_step 25 = some (.iload_n 3, 1, 3, 0, 0, 0, 0, 0, 0, 0, []) := rfl
theorem i_X9_step_26 : tab t_X9_step 26 = some (.i2l, 1, 0, 0, 0, 0, 0, 0, 0, 0, []) := rfl
theorem i_X9_step_27 : tab t_X9_step 27 = some (.lconst 0, 1, 0, 0, 0, 0, 0, 0, 0, 0, []) := rfl
theorem i_X9_step_28 : tab t_X9_step 28 = some (.ldc2_w 191, 3, 0, 0, 99, 0, 0, 0, 0, 0, []) := rfl
theorem i_X9_step_31 : tab t_X9_step 31 = some (.invokestatic 175, 3, 3, 0, 0, 0, 126, 0, 0, 0, []) := rfl
theorem i_X9_step_34 : tab t_X9_step 34 = some (.ifCond .eq 16, 3, 50, 0, 0, 0, 0, 0, 0, 0, []) := rfl
theorem i_X9_step_37 : tab t_X9_step 37 = some (.iload 4, 2, 4, 0, 0, 0, 0, 0, 0, 0, []) := rfl
theorem i_X9_step_39 : tab t_X9_step 39 = some (.i2l, 1, 0, 0, 0, 0, 0, 0, 0, 0, []) := rfl
theorem i_X9_step_40 : tab t_X9_step 40 = some (.lconst 0, 1, 0, 0, 0, 0, 0, 0, 0, 0, []) := rfl
theorem i_X9_step_41 : tab t_X9_step 41 = some (.ldc2_w 191, 3, 0, 0, 99, 0, 0, 0, 0, 0, []) := rfl
theorem i_X9_step_44 : tab t_X9_step 44 = some (.invokestatic 175, 3, 3, 0, 0, 0, 126, 0, 0, 0, []) := rfl
theorem i_X9_step_47 : tab t_X9_step 47 = some (.ifCond .ne 5, 3, 52, 0, 0, 0, 0, 0, 0, 0, []) := rfl
theorem i_X9_step_50 : tab t_X9_step 50 = some (.iconst (-1), 1, 0, -1, 0, 0, 0, 0, 0, 0, []) := rfl
theorem i_X9_step_51 : tab t_X9_step 51 = some (.ireturn, 1, 0, 0, 0, 0, 0, 0, 0, 0, []) := rfl
theorem i_X9_step_52 : tab t_X9_step 52 = some (.aload_n 0, 1, 0, 0, 0, 0, 0, 0, 0, 0, []) := rfl
theorem i_X9_step_53 : tab t_X9_step 53 = some (.getfield 53, 3, 2, 0, 0, 9, 21, 0, 0, 0, []) := rfl
theorem i_X9_step_56 : tab t_X9_step 56 = some (.aload_n 0, 1, 0, 0, 0, 0, 0, 0, 0, 0, []) := rfl
theorem i_X9_step_57 : tab t_X9_step 57 = some (.getfield 197, 3, 0, 0, 0, 9, 3, 0, 0, 0, []) := rfl
theorem i_X9_step_60 : tab t_X9_step 60 = some (.iload_n 1, 1, 1, 0, 0, 0, 0, 0, 0, 0, []) := rfl
theorem i_X9_step_61 : tab t_X9_step 61 = some (.iastore, 1, 0, 0, 0, 0, 0, 0, 0, 0, []) := rfl
theorem i_X9_step_62 : tab t_X9_step 62 = some (.aload_n 0, 1, 0, 0, 0, 0, 0, 0, 0, 0, []) := rfl
theorem i_X9_step_63 : tab t_X9_step 63 = some (.getfield 56, 3, 2, 0, 0, 9, 22, 0, 0, 0, []) := rfl
theorem i_X9_step_66 : tab t_X9_step 66 = some (.aload_n 0, 1, 0, 0, 0, 0, 0, 0, 0, 0, []) := rfl
theorem i_X9_step_67 : tab t_X9_step 67 = some (.getfield 197, 3, 0, 0, 0, 9, 3, 0, 0, 0, []) := rfl
theorem i_X9_step_70 : tab t_X9_step 70 = some (.iload_n 2, 1, 2, 0, 0, 0, 0, 0, 0, 0, []) := rfl
theorem i_X9_step_71 : tab t_X9_step 71 = some (.iastore, 1, 0, 0, 0, 0, 0, 0, 0, 0, []) := rfl
theorem i_X9_step_72 : tab t_X9_step 72 = some (.aload_n 0, 1, 0, 0, 0, 0, 0, 0, 0, 0, []) := rfl
theorem i_X9_step_73 : tab t_X9_step 73 = some (.getfield 59, 3, 2, 0, 0, 9, 23, 0, 0, 0, []) := rfl
theorem i_X9_step_76 : tab t_X9_step 76 = some (.aload_n 0, 1, 0, 0, 0, 0, 0, 0, 0, 0, []) := rfl
theorem i_X9_step_77 : tab t_X9_step 77 = some (.getfield 197, 3, 0, 0, 0, 9, 3, 0, 0, 0, []) := rfl
theorem i_X9_step_80 : tab t_X9_step 80 = some (.iload_n 3, 1, 3, 0, 0, 0, 0, 0, 0, 0, []) := rfl
theorem i_X9_step_81 : tab t_X9_step 81 = some (.iastore, 1, 0, 0, 0, 0, 0, 0, 0, 0, []) := rfl
theorem i_X9_step_82 : tab t_X9_step 82 = some (.aload_n 0, 1, 0, 0, 0, 0, 0, 0, 0, 0, []) := rfl
theorem i_X9_step_83 : tab t_X9_step 83 = some (.getfield 62, 3, 2, 0, 0, 9, 24, 0, 0, 0, []) := rfl
theorem i_X9_step_86 : tab t_X9_step 86 = some (.aload_n 0, 1, 0, 0, 0, 0, 0, 0, 0, 0, []) := rfl
theorem i_X9_step_87 : tab t_X9_step 87 = some (.getfield 197, 3, 0, 0, 0, 9, 3, 0, 0, 0, []) := rfl
theorem i_X9_step_90 : tab t_X9_step 90 = some (.iload 4, 2, 4, 0, 0, 0, 0, 0, 0, 0, []) := rfl
theorem i_X9_step_92 : tab t_X9_step 92 = some (.iastore, 1, 0, 0, 0, 0, 0, 0, 0, 0, []) := rfl
theorem i_X9_step_93 : tab t_X9_step 93 = some (.aload_n 0, 1, 0, 0, 0, 0, 0, 0, 0, 0, []) := rfl
theorem i_X9_step_94 : tab t_X9_step 94 = some (.dup, 1, 0, 0, 0, 0, 0, 0, 0, 0, []) := rfl
theorem i_X9_step_95 : tab t_X9_step 95 = some (.getfield 197, 3, 0, 0, 0, 9, 3, 0, 0, 0, []) := rfl
theorem i_X9_step_98 : tab t_X9_step 98 = some (.iconst 1, 1, 0, 1, 0, 0, 0, 0, 0, 0, []) := rfl
theorem i_X9_step_99 : tab t_X9_step 99 = some (.iadd, 1, 0, 0, 0, 0, 0, 0, 0, 0, []) := rfl
theorem i_X9_step_100 : tab t_X9_step 100 = some (.putfield 197, 3, 0, 0, 0, 9, 3, 0, 0, 0, []) := rfl
theorem i_X9_step_103 : tab t_X9_step 103 = some (.aload_n 0, 1, 0, 0, 0, 0, 0, 0, 0, 0, []) := rfl
theorem i_X9_step_104 : tab t_X9_step 104 = some (.getfield 197, 3, 0, 0, 0, 9, 3, 0, 0, 0, []) := rfl
theorem i_X9_step_107 : tab t_X9_step 107 = some (.ireturn, 1, 0, 0, 0, 0, 0, 0, 0, 0, []) := rfl
def t_X9_stepAt : List (Nat × rw_) := [(0, (.iconst (-1), 1, 0, -1, 0, 0, 0, 0, 0, 0, [])), (1, (.istore_n 3, 1, 3, 0, 0, 0, 0, 0, 0, 0, [])), (2, (.iconst 0, 1, 0, 0, 0, 0, 0, 0, 0, 0, [])), (3, (.istore 4, 2, 4, 0, 0, 0, 0, 0, 0, 0, [])), (5, (.iload 4, 2, 4, 0, 0, 0, 0, 0, 0, 0, [])), (7, (.aload_n 0, 1, 0, 0, 0, 0, 0, 0, 0, 0, [])), (8, (.getfield 197, 3, 0, 0, 0, 9, 3, 0, 0, 0, [])), (11, (.if_icmp .ge 55, 3, 66, 0, 0, 0, 0, 0, 0, 0, [])), (14, (.aload_n 0, 1, 0, 0, 0, 0, 0, 0, 0, 0, [])), (15, (.getfield 53, 3, 2, 0, 0, 9, 21, 0, 0, 0, [])), (18, (.iload 4, 2, 4, 0, 0, 0, 0, 0, 0, 0, [])), (20, (.iaload, 1, 0, 0, 0, 0, 0, 0, 0, 0, [])), (21, (.iload_n 1, 1, 1, 0, 0, 0, 0, 0, 0, 0, [])), (22, (.if_icmp .ne 38, 3, 60, 0, 0, 0, 0, 0, 0, 0, [])), (25, (.aload_n 0, 1, 0, 0, 0, 0, 0, 0, 0, 0, [])), (26, (.getfield 56, 3, 2, 0, 0, 9, 22, 0, 0, 0, [])), (29, (.iload 4, 2, 4, 0, 0, 0, 0, 0, 0, 0, [])), (31, (.iaload, 1, 0, 0, 0, 0, 0, 0, 0, 0, [])), (32, (.iload_n 2, 1, 2, 0, 0, 0, 0, 0, 0, 0, [])), (33, (.if_icmp .gt 27, 3, 60, 0, 0, 0, 0, 0, 0, 0, [])), (36, (.iload_n 3, 1, 3, 0, 0, 0, 0, 0, 0, 0, [])), (37, (.iconst (-1), 1, 0, -1, 0, 0, 0, 0, 0, 0, [])), (38, (.if_icmp .eq 19, 3, 57, 0, 0, 0, 0, 0, 0, 0, [])), (41, (.aload_n 0, 1, 0, 0, 0, 0, 0, 0, 0, 0, [])), (42, (.getfield 56, 3, 2, 0, 0, 9, 22, 0, 0, 0, [])), (45, (.iload 4, 2, 4, 0, 0, 0, 0, 0, 0, 0, [])), (47, (.iaload, 1, 0, 0, 0, 0, 0, 0, 0, 0, [])), (48, (.aload_n 0, 1, 0, 0, 0, 0, 0, 0, 0, 0, [])), (49, (.getfield 56, 3, 2, 0, 0, 9, 22, 0, 0, 0, [])), (52, (.iload_n 3, 1, 3, 0, 0, 0, 0, 0, 0, 0, [])), (53, (.iaload, 1, 0, 0, 0, 0, 0, 0, 0, 0, [])), (54, (.if_icmp .lt 6, 3, 60, 0, 0, 0, 0, 0, 0, 0, [])), (57, (.iload 4, 2, 4, 0, 0, 0, 0, 0, 0, 0, [])), (59, (.istore_n 3, 1, 3, 0, 0, 0, 0, 0, 0, 0, [])), (60, (.iinc 4 1, 3, 4, 1, 0, 0, 0, 0, 0, 0, [])), (63, (.goto (-58), 3, 5, 0, 0, 0, 0, 0, 0, 0, [])), (66, (.iload_n 3, 1, 3, 0, 0, 0, 0, 0, 0, 0, [])), (67, (.ireturn, 1, 0, 0, 0, 0, 0, 0, 0, 0, []))]
set_option maxRecDepth 100000 in
theorem ok_X9_stepAt : tb_ok ctX9 m_X9_stepAt t_X9_stepAt = true := by decide +kernel
theorem i_X9_stepAt_0 : tab t_X9_stepAt 0 = some (.iconst (-1), 1, 0, -1, 0, 0, 0, 0, 0, 0, []) := rfl
theorem i_X9_stepAt_1 : tab t_X9_stepAt 1 = some (.istore_n 3, 1, 3, 0, 0, 0, 0, 0, 0, 0, []) := rfl
theorem i_X9_stepAt_2 : tab t_X9_stepAt 2 = some (.iconst 0, 1, 0, 0, 0, 0, 0, 0, 0, 0, []) := rfl
theorem i_X9_stepAt_3 : tab t_X9_stepAt 3 = some (.istore 4, 2, 4, 0, 0, 0, 0, 0, 0, 0, []) := rfl
theorem i_X9_stepAt_5 : tab t_X9_stepAt 5 = some (.iload 4, 2, 4, 0, 0, 0, 0, 0, 0, 0, []) := rfl
theorem i_X9_stepAt_7 : tab t_X9_stepAt 7 = some (.aload_n 0, 1, 0, 0, 0, 0, 0, 0, 0, 0, []) := rfl
theorem i_X9_stepAt_8 : tab t_X9_stepAt 8 = some (.getfield 197, 3, 0, 0, 0, 9, 3, 0, 0, 0, []) := rfl
theorem i_X9_stepAt_11 : tab t_X9_stepAt 11 = some (.if_icmp .ge 55, 3, 66, 0, 0, 0, 0, 0, 0, 0, []) := rfl
theorem i_X9_stepAt_14 : tab t_X9_stepAt 14 = some (.aload_n 0, 1, 0, 0, 0, 0, 0, 0, 0, 0, []) := rfl
theorem i_X9_stepAt_15 : tab t_X9_stepAt 15 = some (.getfield 53, 3, 2, 0, 0, 9, 21, 0, 0, 0, []) := rfl
theorem i_X9_stepAt_18 : tab t_X9_stepAt 18 = some (.iload 4, 2, 4, 0, 0, 0, 0, 0, 0, 0, []) := rfl
theorem i_X9_stepAt_20 : tab t_X9_stepAt 20 = some (.iaload, 1, 0, 0, 0, 0, 0, 0, 0, 0, []) := rfl
theorem i_X9_stepAt_21 : tab t_X9_stepAt 21 = some (.iload_n 1, 1, 1, 0, 0, 0, 0, 0, 0, 0, []) := rfl
theorem i_X9_stepAt_22 : tab t_X9_stepAt 22 = some (.if_icmp .ne 38, 3, 60, 0, 0, 0, 0, 0, 0, 0, []) := rfl
theorem i_X9_stepAt_25 : tab t_X9_stepAt 25 = some (.aload_n 0, 1, 0, 0, 0, 0, 0, 0, 0, 0, []) := rfl
theorem i_X9_stepAt_26 : tab t_X9_stepAt 26 = some (.getfield 56, 3, 2, 0, 0, 9, 22, 0, 0, 0, []) := rfl
theorem i_X9_stepAt_29 : tab t_X9_stepAt 29 = some (.iload 4, 2, 4, 0, 0, 0, 0, 0, 0, 0, []) := rfl
theorem i_X9_stepAt_31 : tab t_X9_stepAt 31 = some (.iaload, 1, 0, 0, 0, 0, 0, 0, 0, 0, []) := rfl
theorem i_X9_stepAt_32 : tab t_X9_stepAt 32 = some (.iload_n 2, 1, 2, 0, 0, 0, 0, 0, 0, 0, []) := rfl
theorem i_X9_stepAt_33 : tab t_X9_stepAt 33 = some (.if_icmp .gt 27, 3, 60, 0, 0, 0, 0, 0, 0, 0, []) := rfl
theorem i_X9_stepAt_36 : tab t_X9_stepAt 36 = some (.iload_n 3, 1, 3, 0, 0, 0, 0, 0, 0, 0, []) := rfl
theorem i_X9_stepAt_37 : tab t_X9_stepAt 37 = some (.iconst (-1), 1, 0, -1, 0, 0, 0, 0, 0, 0, []) := rfl
theorem i_X9_stepAt_38 : tab t_X9_stepAt 38 = some (.if_icmp .eq 19, 3, 57, 0, 0, 0, 0, 0, 0, 0, []) := rfl
theorem i_X9_stepAt_41 : tab t_X9_stepAt 41 = some (.aload_n 0, 1, 0, 0, 0, 0, 0, 0, 0, 0, []) := rfl
theorem i_X9_stepAt_42 : tab t_X9_stepAt 42 = some (.getfield 56, 3, 2, 0, 0, 9, 22, 0, 0, 0, []) := rfl
theorem i_X9_stepAt_45 : tab t_X9_stepAt 45 = some (.iload 4, 2, 4, 0, 0, 0, 0, 0, 0, 0, []) := rfl
theorem i_X9_stepAt_47 : tab t_X9_stepAt 47 = some (.iaload, 1, 0, 0, 0, 0, 0, 0, 0, 0, []) := rfl
theorem i_X9_stepAt_48 : tab t_X9_stepAt 48 = some (.aload_n 0, 1, 0, 0, 0, 0, 0, 0, 0, 0, []) := rfl
theorem i_X9_stepAt_49 : tab t_X9_stepAt 49 = some (.getfield 56, 3, 2, 0, 0, 9, 22, 0, 0, 0, []) := rfl
theorem i_X9_stepAt_52 : tab t_X9_stepAt 52 = some (.iload_n 3, 1, 3, 0, 0, 0, 0, 0, 0, 0, []) := rfl
theorem i_X9_stepAt_53 : tab t_X9_stepAt 53 = some (.iaload, 1, 0, 0, 0, 0, 0, 0, 0, 0, []) := rfl
theorem i_X9_stepAt_54 : tab t_X9_stepAt 54 = some (.if_icmp .lt 6, 3, 60, 0, 0, 0, 0, 0, 0, 0, []) := rfl
theorem i_X9_stepAt_57 : tab t_X9_stepAt 57 = some (.iload 4, 2, 4, 0, 0, 0, 0, 0, 0, 0, []) := rfl
theorem i_X9_stepAt_59 : tab t_X9_stepAt 59 = some (.istore_n 3, 1, 3, 0, 0, 0, 0, 0, 0, 0, []) := rfl
theorem i_X9_stepAt_60 : tab t_X9_stepAt 60 = some (.iinc 4 1, 3, 4, 1, 0, 0, 0, 0, 0, 0, []) := rfl
theorem i_X9_stepAt_63 : tab t_X9_stepAt 63 = some (.goto (-58), 3, 5, 0, 0, 0, 0, 0, 0, 0, []) := rfl
theorem i_X9_stepAt_66 : tab t_X9_stepAt 66 = some (.iload_n 3, 1, 3, 0, 0, 0, 0, 0, 0, 0, []) := rfl
theorem i_X9_stepAt_67 : tab t_X9_stepAt 67 = some (.ireturn, 1, 0, 0, 0, 0, 0, 0, 0, 0, []) := rfl
def t_X9_placeX : List (Nat × rw_) := [(0, (.aload_n 0, 1, 0, 0, 0, 0, 0, 0, 0, 0, [])), (1, (.iload_n 1, 1, 1, 0, 0, 0, 0, 0, 0, 0, [])), (2, (.iload_n 2, 1, 2, 0, 0, 0, 0, 0, 0, 0, [])), (3, (.invokevirtual 206, 3, 2, 0, 0, 0, 133, 10, 0, 0, [])), (6, (.istore_n 3, 1, 3, 0, 0, 0, 0, 0, 0, 0, [])), (7, (.iload_n 3, 1, 3, 0, 0, 0, 0, 0, 0, 0, [])), (8, (.iconst (-1), 1, 0, -1, 0, 0, 0, 0, 0, 0, [])), (9, (.if_icmp .ne 17, 3, 26, 0, 0, 0, 0, 0, 0, 0, [])), (12, (.aload_n 0, 1, 0, 0, 0, 0, 0, 0, 0, 0, [])), (13, (.getfield 20, 3, 2, 0, 0, 9, 10, 0, 0, 0, [])), (16, (.aload_n 0, 1, 0, 0, 0, 0, 0, 0, 0, 0, [])), (17, (.getfield 44, 3, 2, 0, 0, 9, 18, 0, 0, 0, [])), (20, (.iload_n 1, 1, 1, 0, 0, 0, 0, 0, 0, 0, [])), (21, (.iaload, 1, 0, 0, 0, 0, 0, 0, 0, 0, [])), (22, (.iaload, 1, 0, 0, 0, 0, 0, 0, 0, 0, [])), (23, (.goto 9, 3, 32, 0, 0, 0, 0, 0, 0, 0, [])), (26, (.aload_n 0, 1, 0, 0, 0, 0, 0, 0, 0, 0, [])), (27, (.getfield 59, 3, 2, 0, 0, 9, 23, 0, 0, 0, [])), (30, (.iload_n 3, 1, 3, 0, 0, 0, 0, 0, 0, 0, [])), (31, (.iaload, 1, 0, 0, 0, 0, 0, 0, 0, 0, [])), (32, (.ireturn, 1, 0, 0, 0, 0, 0, 0, 0, 0, []))]
set_option maxRecDepth 100000 in
theorem ok_X9_placeX : tb_ok ctX9 m_X9_placeX t_X9_placeX = true := by decide +kernel
theorem i_X9_placeX_0 : tab t_X9_placeX 0 = some (.aload_n 0, 1, 0, 0, 0, 0, 0, 0, 0, 0, []) := rfl
theorem i_X9_placeX_1 : tab t_X9_placeX 1 = some (.iload_n 1, 1, 1, 0, 0, 0, 0, 0, 0, 0, []) := rfl
theorem i_X9_placeX_2 : tab t_X9_placeX 2 = some (.iload_n 2, 1, 2, 0, 0, 0, 0, 0, 0, 0, []) := rfl
theorem i_X9_placeX_3 : tab t_X9_placeX 3 = some (.invokevirtual 206, 3, 2, 0, 0, 0, 133, 10, 0, 0, []) := rfl
theorem i_X9_placeX_6 : tab t_X9_placeX 6 = some (.istore_n 3, 1, 3, 0, 0, 0, 0, 0, 0, 0, []) := rfl
theorem i_X9_placeX_7 : tab t_X9_placeX 7 = some (.iload_n 3, 1, 3, 0, 0, 0, 0, 0, 0, 0, []) := rfl
theorem i_X9_placeX_8 : tab t_X9_placeX 8 = some (.iconst (-1), 1, 0, -1, 0, 0, 0, 0, 0, 0, []) := rfl
theorem i_X9_placeX_9 : tab t_X9_placeX 9 = some (.if_icmp .ne 17, 3, 26, 0, 0, 0, 0, 0, 0, 0, []) := rfl
theorem i_X9_placeX_12 : tab t_X9_placeX 12 = some (.aload_n 0, 1, 0, 0, 0, 0, 0, 0, 0, 0, []) := rfl
theorem i_X9_placeX_13 : tab t_X9_placeX 13 = some (.getfield 20, 3, 2, 0, 0, 9, 10, 0, 0, 0, []) := rfl
theorem i_X9_placeX_16 : tab t_X9_placeX 16 = some (.aload_n 0, 1, 0, 0, 0, 0, 0, 0, 0, 0, []) := rfl
theorem i_X9_placeX_17 : tab t_X9_placeX 17 = some (.getfield 44, 3, 2, 0, 0, 9, 18, 0, 0, 0, []) := rfl
theorem i_X9_placeX_20 : tab t_X9_placeX 20 = some (.iload_n 1, 1, 1, 0, 0, 0, 0, 0, 0, 0, []) := rfl
theorem i_X9_placeX_21 : tab t_X9_placeX 21 = some (.iaload, 1, 0, 0, 0, 0, 0, 0, 0, 0, []) := rfl
theorem i_X9_placeX_22 : tab t_X9_placeX 22 = some (.iaload, 1, 0, 0, 0, 0, 0, 0, 0, 0, []) := rfl
theorem i_X9_placeX_23 : tab t_X9_placeX 23 = some (.goto 9, 3, 32, 0, 0, 0, 0, 0, 0, 0, []) := rfl
theorem i_X9_placeX_26 : tab t_X9_placeX 26 = some (.aload_n 0, 1, 0, 0, 0, 0, 0, 0, 0, 0, []) := rfl
theorem i_X9_placeX_27 : tab t_X9_placeX 27 = some (.getfield 59, 3, 2, 0, 0, 9, 23, 0, 0, 0, []) := rfl
theorem i_X9_placeX_30 : tab t_X9_placeX 30 = some (.iload_n 3, 1, 3, 0, 0, 0, 0, 0, 0, 0, []) := rfl
theorem i_X9_placeX_31 : tab t_X9_placeX 31 = some (.iaload, 1, 0, 0, 0, 0, 0, 0, 0, 0, []) := rfl
theorem i_X9_placeX_32 : tab t_X9_placeX 32 = some (.ireturn, 1, 0, 0, 0, 0, 0, 0, 0, 0, []) := rfl
def t_X9_placeY : List (Nat × rw_) := [(0, (.aload_n 0, 1, 0, 0, 0, 0, 0, 0, 0, 0, [])), (1, (.iload_n 1, 1, 1, 0, 0, 0, 0, 0, 0, 0, [])), (2, (.iload_n 2, 1, 2, 0, 0, 0, 0, 0, 0, 0, [])), (3, (.invokevirtual 206, 3, 2, 0, 0, 0, 133, 10, 0, 0, [])), (6, (.istore_n 3, 1, 3, 0, 0, 0, 0, 0, 0, 0, [])), (7, (.iload_n 3, 1, 3, 0, 0, 0, 0, 0, 0, 0, [])), (8, (.iconst (-1), 1, 0, -1, 0, 0, 0, 0, 0, 0, [])), (9, (.if_icmp .ne 17, 3, 26, 0, 0, 0, 0, 0, 0, 0, [])), (12, (.aload_n 0, 1, 0, 0, 0, 0, 0, 0, 0, 0, [])), (13, (.getfield 23, 3, 2, 0, 0, 9, 11, 0, 0, 0, [])), (16, (.aload_n 0, 1, 0, 0, 0, 0, 0, 0, 0, 0, [])), (17, (.getfield 44, 3, 2, 0, 0, 9, 18, 0, 0, 0, [])), (20, (.iload_n 1, 1, 1, 0, 0, 0, 0, 0, 0, 0, [])), (21, (.iaload, 1, 0, 0, 0, 0, 0, 0, 0, 0, [])), (22, (.iaload, 1, 0, 0, 0, 0, 0, 0, 0, 0, [])), (23, (.goto 9, 3, 32, 0, 0, 0, 0, 0, 0, 0, [])), (26, (.aload_n 0, 1, 0, 0, 0, 0, 0, 0, 0, 0, [])), (27, (.getfield 62, 3, 2, 0, 0, 9, 24, 0, 0, 0, [])), (30, (.iload_n 3, 1, 3, 0, 0, 0, 0, 0, 0, 0, [])), (31, (.iaload, 1, 0, 0, 0, 0, 0, 0, 0, 0, [])), (32, (.ireturn, 1, 0, 0, 0, 0, 0, 0, 0, 0, []))]
set_option maxRecDepth 100000 in
theorem ok_X9_placeY : tb_ok ctX9 m_X9_placeY t_X9_placeY = true := by decide +kernel
theorem i_X9_placeY_0 : tab t_X9_placeY 0 = some (.aload_n 0, 1, 0, 0, 0, 0, 0, 0, 0, 0, []) := rfl
theorem i_X9_placeY_1 : tab t_X9_placeY 1 = some (.iload_n 1, 1, 1, 0, 0, 0, 0, 0, 0, 0, []) := rfl
theorem i_X9_placeY_2 : tab t_X9_placeY 2 = some (.iload_n 2, 1, 2, 0, 0, 0, 0, 0, 0, 0, []) := rfl
theorem i_X9_placeY_3 : tab t_X9_placeY 3 = some (.invokevirtual 206, 3, 2, 0, 0, 0, 133, 10, 0, 0, []) := rfl
theorem i_X9_placeY_6 : tab t_X9_placeY 6 = some (.istore_n 3, 1, 3, 0, 0, 0, 0, 0, 0, 0, []) := rfl
theorem i_X9_placeY_7 : tab t_X9_placeY 7 = some (.iload_n 3, 1, 3, 0, 0, 0, 0, 0, 0, 0, []) := rfl
theorem i_X9_placeY_8 : tab t_X9_placeY 8 = some (.iconst (-1), 1, 0, -1, 0, 0, 0, 0, 0, 0, []) := rfl
theorem i_X9_placeY_9 : tab t_X9_placeY 9 = some (.if_icmp .ne 17, 3, 26, 0, 0, 0, 0, 0, 0, 0, []) := rfl
theorem i_X9_placeY_12 : tab t_X9_placeY 12 = some (.aload_n 0, 1, 0, 0, 0, 0, 0, 0, 0, 0, []) := rfl
theorem i_X9_placeY_13 : tab t_X9_placeY 13 = some (.getfield 23, 3, 2, 0, 0, 9, 11, 0, 0, 0, []) := rfl
theorem i_X9_placeY_16 : tab t_X9_placeY 16 = some (.aload_n 0, 1, 0, 0, 0, 0, 0, 0, 0, 0, []) := rfl
theorem i_X9_placeY_17 : tab t_X9_placeY 17 = some (.getfield 44, 3, 2, 0, 0, 9, 18, 0, 0, 0, []) := rfl
theorem i_X9_placeY_20 : tab t_X9_placeY 20 = some (.iload_n 1, 1, 1, 0, 0, 0, 0, 0, 0, 0, []) := rfl
theorem i_X9_placeY_21 : tab t_X9_placeY 21 = some (.iaload, 1, 0, 0, 0, 0, 0, 0, 0, 0, []) := rfl
theorem i_X9_placeY_22 : tab t_X9_placeY 22 = some (.iaload, 1, 0, 0, 0, 0, 0, 0, 0, 0, []) := rfl
theorem i_X9_placeY_23 : tab t_X9_placeY 23 = some (.goto 9, 3, 32, 0, 0, 0, 0, 0, 0, 0, []) := rfl
theorem i_X9_placeY_26 : tab t_X9_placeY 26 = some (.aload_n 0, 1, 0, 0, 0, 0, 0, 0, 0, 0, []) := rfl
theorem i_X9_placeY_27 : tab t_X9_placeY 27 = some (.getfield 62, 3, 2, 0, 0, 9, 24, 0, 0, 0, []) := rfl
theorem i_X9_placeY_30 : tab t_X9_placeY 30 = some (.iload_n 3, 1, 3, 0, 0, 0, 0, 0, 0, 0, []) := rfl
theorem i_X9_placeY_31 : tab t_X9_placeY 31 = some (.iaload, 1, 0, 0, 0, 0, 0, 0, 0, 0, []) := rfl
theorem i_X9_placeY_32 : tab t_X9_placeY 32 = some (.ireturn, 1, 0, 0, 0, 0, 0, 0, 0, 0, []) := rfl
def t_X9_apart : List (Nat × rw_) := [(0, (.iload_n 0, 1, 0, 0, 0, 0, 0, 0, 0, 0, [])), (1, (.iload_n 1, 1, 1, 0, 0, 0, 0, 0, 0, 0, [])), (2, (.if_icmp .le 9, 3, 11, 0, 0, 0, 0, 0, 0, 0, [])), (5, (.iload_n 0, 1, 0, 0, 0, 0, 0, 0, 0, 0, [])), (6, (.iload_n 1, 1, 1, 0, 0, 0, 0, 0, 0, 0, [])), (7, (.isub, 1, 0, 0, 0, 0, 0, 0, 0, 0, [])), (8, (.goto 6, 3, 14, 0, 0, 0, 0, 0, 0, 0, [])), (11, (.iload_n 1, 1, 1, 0, 0, 0, 0, 0, 0, 0, [])), (12, (.iload_n 0, 1, 0, 0, 0, 0, 0, 0, 0, 0, [])), (13, (.isub, 1, 0, 0, 0, 0, 0, 0, 0, 0, [])), (14, (.ireturn, 1, 0, 0, 0, 0, 0, 0, 0, 0, []))]
set_option maxRecDepth 100000 in
theorem ok_X9_apart : tb_ok ctX9 m_X9_apart t_X9_apart = true := by decide +kernel
theorem i_X9_apart_0 : tab t_X9_apart 0 = some (.iload_n 0, 1, 0, 0, 0, 0, 0, 0, 0, 0, []) := rfl
theorem i_X9_apart_1 : tab t_X9_apart 1 = some (.iload_n 1, 1, 1, 0, 0, 0, 0, 0, 0, 0, []) := rfl
theorem i_X9_apart_2 : tab t_X9_apart 2 = some (.if_icmp .le 9, 3, 11, 0, 0, 0, 0, 0, 0, 0, []) := rfl
theorem i_X9_apart_5 : tab t_X9_apart 5 = some (.iload_n 0, 1, 0, 0, 0, 0, 0, 0, 0, 0, []) := rfl
theorem i_X9_apart_6 : tab t_X9_apart 6 = some (.iload_n 1, 1, 1, 0, 0, 0, 0, 0, 0, 0, []) := rfl
theorem i_X9_apart_7 : tab t_X9_apart 7 = some (.isub, 1, 0, 0, 0, 0, 0, 0, 0, 0, []) := rfl
theorem i_X9_apart_8 : tab t_X9_apart 8 = some (.goto 6, 3, 14, 0, 0, 0, 0, 0, 0, 0, []) := rfl
theorem i_X9_apart_11 : tab t_X9_apart 11 = some (.iload_n 1, 1, 1, 0, 0, 0, 0, 0, 0, 0, []) := rfl
theorem i_X9_apart_12 : tab t_X9_apart 12 = some (.iload_n 0, 1, 0, 0, 0, 0, 0, 0, 0, 0, []) := rfl
theorem i_X9_apart_13 : tab t_X9_apart 13 = some (.isub, 1, 0, 0, 0, 0, 0, 0, 0, 0, []) := rfl
theorem i_X9_apart_14 : tab t_X9_apart 14 = some (.ireturn, 1, 0, 0, 0, 0, 0, 0, 0, 0, []) := rfl
def t_X9_nearTo : List (Nat × rw_) := [(0, (.aload_n 0, 1, 0, 0, 0, 0, 0, 0, 0, 0, [])), (1, (.iload_n 1, 1, 1, 0, 0, 0, 0, 0, 0, 0, [])), (2, (.iload_n 3, 1, 3, 0, 0, 0, 0, 0, 0, 0, [])), (3, (.invokevirtual 210, 3, 2, 0, 0, 0, 134, 10, 0, 0, [])), (6, (.aload_n 0, 1, 0, 0, 0, 0, 0, 0, 0, 0, [])), (7, (.getfield 20, 3, 2, 0, 0, 9, 10, 0, 0, 0, [])), (10, (.iload_n 2, 1, 2, 0, 0, 0, 0, 0, 0, 0, [])), (11, (.iaload, 1, 0, 0, 0, 0, 0, 0, 0, 0, [])), (12, (.invokestatic 213, 3, 2, 0, 0, 0, 136, 0, 0, 0, [])), (15, (.aload_n 0, 1, 0, 0, 0, 0, 0, 0, 0, 0, [])), (16, (.iload_n 1, 1, 1, 0, 0, 0, 0, 0, 0, 0, [])), (17, (.iload_n 3, 1, 3, 0, 0, 0, 0, 0, 0, 0, [])), (18, (.invokevirtual 216, 3, 2, 0, 0, 0, 135, 10, 0, 0, [])), (21, (.aload_n 0, 1, 0, 0, 0, 0, 0, 0, 0, 0, [])), (22, (.getfield 23, 3, 2, 0, 0, 9, 11, 0, 0, 0, [])), (25, (.iload_n 2, 1, 2, 0, 0, 0, 0, 0, 0, 0, [])), (26, (.iaload, 1, 0, 0, 0, 0, 0, 0, 0, 0, [])), (27, (.invokestatic 213, 3, 2, 0, 0, 0, 136, 0, 0, 0, [])), (30, (.iadd, 1, 0, 0, 0, 0, 0, 0, 0, 0, [])), (31, (.ireturn, 1, 0, 0, 0, 0, 0, 0, 0, 0, []))]
set_option maxRecDepth 100000 in
theorem ok_X9_nearTo : tb_ok ctX9 m_X9_nearTo t_X9_nearTo = true := by decide +kernel
theorem i_X9_nearTo_0 : tab t_X9_nearTo 0 = some (.aload_n 0, 1, 0, 0, 0, 0, 0, 0, 0, 0, []) := rfl
theorem i_X9_nearTo_1 : tab t_X9_nearTo 1 = some (.iload_n 1, 1, 1, 0, 0, 0, 0, 0, 0, 0, []) := rfl
theorem i_X9_nearTo_2 : tab t_X9_nearTo 2 = some (.iload_n 3, 1, 3, 0, 0, 0, 0, 0, 0, 0, []) := rfl
theorem i_X9_nearTo_3 : tab t_X9_nearTo 3 = some (.invokevirtual 210, 3, 2, 0, 0, 0, 134, 10, 0, 0, []) := rfl
theorem i_X9_nearTo_6 : tab t_X9_nearTo 6 = some (.aload_n 0, 1, 0, 0, 0, 0, 0, 0, 0, 0, []) := rfl
theorem i_X9_nearTo_7 : tab t_X9_nearTo 7 = some (.getfield 20, 3, 2, 0, 0, 9, 10, 0, 0, 0, []) := rfl
theorem i_X9_nearTo_10 : tab t_X9_nearTo 10 = some (.iload_n 2, 1, 2, 0, 0, 0, 0, 0, 0, 0, []) := rfl
theorem i_X9_nearTo_11 : tab t_X9_nearTo 11 = some (.iaload, 1, 0, 0, 0, 0, 0, 0, 0, 0, []) := rfl
theorem i_X9_nearTo_12 : tab t_X9_nearTo 12 = some (.invokestatic 213, 3, 2, 0, 0, 0, 136, 0, 0, 0, []) := rfl
theorem i_X9_nearTo_15 : tab t_X9_nearTo 15 = some (.aload_n 0, 1, 0, 0, 0, 0, 0, 0, 0, 0, []) := rfl
theorem i_X9_nearTo_16 : tab t_X9_nearTo 16 = some (.iload_n 1, 1, 1, 0, 0, 0, 0, 0, 0, 0, []) := rfl
theorem i_X9_nearTo_17 : tab t_X9_nearTo 17 = some (.iload_n 3, 1, 3, 0, 0, 0, 0, 0, 0, 0, []) := rfl
theorem i_X9_nearTo_18 : tab t_X9_nearTo 18 = some (.invokevirtual 216, 3, 2, 0, 0, 0, 135, 10, 0, 0, []) := rfl
theorem i_X9_nearTo_21 : tab t_X9_nearTo 21 = some (.aload_n 0, 1, 0, 0, 0, 0, 0, 0, 0, 0, []) := rfl
theorem i_X9_nearTo_22 : tab t_X9_nearTo 22 = some (.getfield 23, 3, 2, 0, 0, 9, 11, 0, 0, 0, []) := rfl
theorem i_X9_nearTo_25 : tab t_X9_nearTo 25 = some (.iload_n 2, 1, 2, 0, 0, 0, 0, 0, 0, 0, []) := rfl
theorem i_X9_nearTo_26 : tab t_X9_nearTo 26 = some (.iaload, 1, 0, 0, 0, 0, 0, 0, 0, 0, []) := rfl
theorem i_X9_nearTo_27 : tab t_X9_nearTo 27 = some (.invokestatic 213, 3, 2, 0, 0, 0, 136, 0, 0, 0, []) := rfl
theorem i_X9_nearTo_30 : tab t_X9_nearTo 30 = some (.iadd, 1, 0, 0, 0, 0, 0, 0, 0, 0, []) := rfl
theorem i_X9_nearTo_31 : tab t_X9_nearTo 31 = some (.ireturn, 1, 0, 0, 0, 0, 0, 0, 0, 0, []) := rfl
def t_X9_near : List (Nat × rw_) := [(0, (.aload_n 0, 1, 0, 0, 0, 0, 0, 0, 0, 0, [])), (1, (.iload_n 1, 1, 1, 0, 0, 0, 0, 0, 0, 0, [])), (2, (.invokevirtual 200, 3, 1, 0, 0, 0, 129, 10, 0, 0, [])), (5, (.ifCond .eq 28, 3, 33, 0, 0, 0, 0, 0, 0, 0, [])), (8, (.aload_n 0, 1, 0, 0, 0, 0, 0, 0, 0, 0, [])), (9, (.iload_n 2, 1, 2, 0, 0, 0, 0, 0, 0, 0, [])), (10, (.invokevirtual 185, 3, 1, 0, 0, 0, 128, 10, 0, 0, [])), (13, (.ifCond .eq 20, 3, 33, 0, 0, 0, 0, 0, 0, 0, [])), (16, (.iload_n 3, 1, 3, 0, 0, 0, 0, 0, 0, 0, [])), (17, (.invokestatic 203, 3, 1, 0, 0, 0, 127, 0, 0, 0, [])), (20, (.ifCond .eq 13, 3, 33, 0, 0, 0, 0, 0, 0, 0, [])), (23, (.aload_n 0, 1, 0, 0, 0, 0, 0, 0, 0, 0, [])), (24, (.iload_n 1, 1, 1, 0, 0, 0, 0, 0, 0, 0, [])), (25, (.iload_n 2, 1, 2, 0, 0, 0, 0, 0, 0, 0, [])), (26, (.iload_n 3, 1, 3, 0, 0, 0, 0, 0, 0, 0, [])), (27, (.invokevirtual 219, 3, 3, 0, 0, 0, 137, 10, 0, 0, [])), (30, (.goto 4, 3, 34, 0, 0, 0, 0, 0, 0, 0, [])), (33, (.iconst (-1), 1, 0, -1, 0, 0, 0, 0, 0, 0, [])), (34, (.ireturn, 1, 0, 0, 0, 0, 0, 0, 0, 0, []))]
set_option maxRecDepth 100000 in
theorem ok_X9_near : tb_ok ctX9 m_X9_near t_X9_near = true := by decide +kernel
theorem i_X9_near_0 : tab t_X9_near 0 = some (.aload_n 0, 1, 0, 0, 0, 0, 0, 0, 0, 0, []) := rfl
theorem i_X9_near_1 : tab t_X9_near 1 = some (.iload_n 1, 1, 1, 0, 0, 0, 0, 0, 0, 0, []) := rfl
theorem i_X9_near_2 : tab t_X9_near 2 = some (.invokevirtual 200, 3, 1, 0, 0, 0, 129, 10, 0, 0, []) := rfl
theorem i_X9_near_5 : tab t_X9_near 5 = some (.ifCond .eq 28, 3, 33, 0, 0, 0, 0, 0, 0, 0, []) := rfl
theorem i_X9_near_8 : tab t_X9_near 8 = some (.aload_n 0, 1, 0, 0, 0, 0, 0, 0, 0, 0, []) := rfl
theorem i_X9_near_9 : tab t_X9_near 9 = some (.iload_n 2, 1, 2, 0, 0, 0, 0, 0, 0, 0, []) := rfl
theorem i_X9_near_10 : tab t_X9_near 10 = some (.invokevirtual 185, 3, 1, 0, 0, 0, 128, 10, 0, 0, []) := rfl
theorem i_X9_near_13 : tab t_X9_near 13 = some (.ifCond .eq 20, 3, 33, 0, 0, 0, 0, 0, 0, 0, []) := rfl
theorem i_X9_near_16 : tab t_X9_near 16 = some (.iload_n 3, 1, 3, 0, 0, 0, 0, 0, 0, 0, []) := rfl
theorem i_X9_near_17 : tab t_X9_near 17 = some (.invokestatic 203, 3, 1, 0, 0, 0, 127, 0, 0, 0, []) := rfl
theorem i_X9_near_20 : tab t_X9_near 20 = some (.ifCond .eq 13, 3, 33, 0, 0, 0, 0, 0, 0, 0, []) := rfl
theorem i_X9_near_23 : tab t_X9_near 23 = some (.aload_n 0, 1, 0, 0, 0, 0, 0, 0, 0, 0, []) := rfl
theorem i_X9_near_24 : tab t_X9_near 24 = some (.iload_n 1, 1, 1, 0, 0, 0, 0, 0, 0, 0, []) := rfl
theorem i_X9_near_25 : tab t_X9_near 25 = some (.iload_n 2, 1, 2, 0, 0, 0, 0, 0, 0, 0, []) := rfl
theorem i_X9_near_26 : tab t_X9_near 26 = some (.iload_n 3, 1, 3, 0, 0, 0, 0, 0, 0, 0, []) := rfl
theorem i_X9_near_27 : tab t_X9_near 27 = some (.invokevirtual 219, 3, 3, 0, 0, 0, 137, 10, 0, 0, []) := rfl
theorem i_X9_near_30 : tab t_X9_near 30 = some (.goto 4, 3, 34, 0, 0, 0, 0, 0, 0, 0, []) := rfl
theorem i_X9_near_33 : tab t_X9_near 33 = some (.iconst (-1), 1, 0, -1, 0, 0, 0, 0, 0, 0, []) := rfl
theorem i_X9_near_34 : tab t_X9_near 34 = some (.ireturn, 1, 0, 0, 0, 0, 0, 0, 0, 0, []) := rfl
def t_X9_paper : List (Nat × rw_) := [(0, (.aload_n 0, 1, 0, 0, 0, 0, 0, 0, 0, 0, [])), (1, (.getfield 223, 3, 0, 0, 0, 9, 4, 0, 0, 0, [])), (4, (.bipush 24, 2, 0, 24, 0, 0, 0, 0, 0, 0, [])), (6, (.if_icmp .eq 42, 3, 48, 0, 0, 0, 0, 0, 0, 0, [])), (9, (.aload_n 0, 1, 0, 0, 0, 0, 0, 0, 0, 0, [])), (10, (.iload_n 1, 1, 1, 0, 0, 0, 0, 0, 0, 0, [])), (11, (.invokevirtual 200, 3, 1, 0, 0, 0, 129, 10, 0, 0, [])), (14, (.ifCond .eq 34, 3, 48, 0, 0, 0, 0, 0, 0, 0, [])), (17, (.aload_n 0, 1, 0, 0, 0, 0, 0, 0, 0, 0, [])), (18, (.iload_n 2, 1, 2, 0, 0, 0, 0, 0, 0, 0, [])), (19, (.invokevirtual 185, 3, 1, 0, 0, 0, 128, 10, 0, 0, [])), (22, (.ifCond .eq 26, 3, 48, 0, 0, 0, 0, 0, 0, 0, [])), (25, (.iload_n 3, 1, 3, 0, 0, 0, 0, 0, 0, 0, [])), (26, (.invokestatic 203, 3, 1, 0, 0, 0, 127, 0, 0, 0, [])), (29, (.ifCond .eq 19, 3, 48, 0, 0, 0, 0, 0, 0, 0, [])), (32, (.iload 4, 2, 4, 0, 0, 0, 0, 0, 0, 0, [])), (34, (.i2l, 1, 0, 0, 0, 0, 0, 0, 0, 0, [])), (35, (.iload_n 3, 1, 3, 0, 0, 0, 0, 0, 0, 0, [])), (36, (.iconst 1, 1, 0, 1, 0, 0, 0, 0, 0, 0, [])), (37, (.iadd, 1, 0, 0, 0, 0, 0, 0, 0, 0, [])), (38, (.i2l, 1, 0, 0, 0, 0, 0, 0, 0, 0, [])), (39, (.ldc2_w 173, 3, 0, 0, 2879, 0, 0, 0, 0, 0, [])), (42, (.invokestatic 175, 3, 3, 0, 0, 0, 126, 0, 0, 0, [])), (45, (.ifCond .ne 5, 3, 50, 0, 0, 0, 0, 0, 0, 0, [])), (48, (.iconst (-1), 1, 0, -1, 0, 0, 0, 0, 0, 0, [])), (49, (.ireturn, 1, 0, 0, 0, 0, 0, 0, 0, 0, [])), (50, (.aload_n 0, 1, 0, 0, 0, 0, 0, 0, 0, 0, [])), (51, (.getfield 65, 3, 2, 0, 0, 9, 25, 0, 0, 0, [])), (54, (.aload_n 0, 1, 0, 0, 0, 0, 0, 0, 0, 0, [])), (55, (.getfield 223, 3, 0, 0, 0, 9, 4, 0, 0, 0, [])), (58, (.iload_n 1, 1, 1, 0, 0, 0, 0, 0, 0, 0, [])), (59, (.iastore, 1, 0, 0, 0, 0, 0, 0, 0, 0, [])), (60, (.aload_n 0, 1, 0, 0, 0, 0, 0, 0, 0, 0, [])), (61, (.getfield 68, 3, 2, 0, 0, 9, 26, 0, 0, 0, [])), (64, (.aload_n 0, 1, 0, 0, 0, 0, 0, 0, 0, 0, [])), (65, (.getfield 223, 3, 0, 0, 0, 9, 4, 0, 0, 0, [])), (68, (.iload_n 2, 1, 2, 0, 0, 0, 0, 0, 0, 0, [])), (69, (.iastore, 1, 0, 0, 0, 0, 0, 0, 0, 0, [])), (70, (.aload_n 0, 1, 0, 0, 0, 0, 0, 0, 0, 0, [])), (71, (.getfield 71, 3, 2, 0, 0, 9, 27, 0, 0, 0, [])), (74, (.aload_n 0, 1, 0, 0, 0, 0, 0, 0, 0, 0, [])), (75, (.getfield 223, 3, 0, 0, 0, 9, 4, 0, 0, 0, [])), (78, (.iload_n 3, 1, 3, 0, 0, 0, 0, 0, 0, 0, [])), (79, (.iastore, 1, 0, 0, 0, 0, 0, 0, 0, 0, [])), (80, (.aload_n 0, 1, 0, 0, 0, 0, 0, 0, 0, 0, [])), (81, (.getfield 74, 3, 2, 0, 0, 9, 28, 0, 0, 0, [])), (84, (.aload_n 0, 1, 0, 0, 0, 0, 0, 0, 0, 0, [])), (85, (.getfield 223, 3, 0, 0, 0, 9, 4, 0, 0, 0, [])), (88, (.iload 4, 2, 4, 0, 0, 0, 0, 0, 0, 0, [])), (90, (.iastore, 1, 0, 0, 0, 0, 0, 0, 0, 0, [])), (91, (.aload_n 0, 1, 0, 0, 0, 0, 0, 0, 0, 0, [])), (92, (.dup, 1, 0, 0, 0, 0, 0, 0, 0, 0, [])), (93, (.getfield 223, 3, 0, 0, 0, 9, 4, 0, 0, 0, [])), (96, (.iconst 1, 1, 0, 1, 0, 0, 0, 0, 0, 0, [])), (97, (.iadd, 1, 0, 0, 0, 0, 0, 0, 0, 0, [])), (98, (.putfield 223, 3, 0, 0, 0, 9, 4, 0, 0, 0, [])), (101, (.aload_n 0, 1, 0, 0, 0, 0, 0, 0, 0, 0, [])), (102, (.getfield 223, 3, 0, 0, 0, 9, 4, 0, 0, 0, [])), (105, (.iconst 1, 1, 0, 1, 0, 0, 0, 0, 0, 0, [])), (106, (.isub, 1, 0, 0, 0, 0, 0, 0, 0, 0, [])), (107, (.ireturn, 1, 0, 0, 0, 0, 0, 0, 0, 0, []))]
set_option maxRecDepth 100000 in
theorem ok_X9_paper : tb_ok ctX9 m_X9_paper t_X9_paper = true := by decide +kernel
theorem i_X9_paper_0 : tab t_X9_paper 0 = some (.aload_n 0, 1, 0, 0, 0, 0, 0, 0, 0, 0, []) := rfl
theorem i_X9_paper_1 : tab t_X9_paper 1 = some (.getfield 223, 3, 0, 0, 0, 9, 4, 0, 0, 0, []) := rfl
theorem i_X9_paper_4 : tab t_X9_paper 4 = some (.bipush 24, 2, 0, 24, 0, 0, 0, 0, 0, 0, []) := rfl
theorem i_X9_paper_6 : tab t_X9_paper 6 = some (.if_icmp .eq 42, 3, 48, 0, 0, 0, 0, 0, 0, 0, []) := rfl
theorem i_X9_paper_9 : tab t_X9_paper 9 = some (.aload_n 0, 1, 0, 0, 0, 0, 0, 0, 0, 0, []) := rfl
theorem i_X9_paper_10 : tab t_X9_paper 10 = some (.iload_n 1, 1, 1, 0, 0, 0, 0, 0, 0, 0, []) := rfl
theorem i_X9_paper_11 : tab t_X9_paper 11 = some (.invokevirtual 200, 3, 1, 0, 0, 0, 129, 10, 0, 0, []) := rfl
theorem i_X9_paper_14 : tab t_X9_paper 14 = some (.ifCond .eq 34, 3, 48, 0, 0, 0, 0, 0, 0, 0, []) := rfl
theorem i_X9_paper_17 : tab t_X9_paper 17 = some (.aload_n 0, 1, 0, 0, 0, 0, 0, 0, 0, 0, []) := rfl
theorem i_X9_paper_18 : tab t_X9_paper 18 = some (.iload_n 2, 1, 2, 0, 0, 0, 0, 0, 0, 0, []) := rfl
theorem i_X9_paper_19 : tab t_X9_paper 19 = some (.invokevirtual 185, 3, 1, 0, 0, 0, 128, 10, 0, 0, []) := rfl
theorem i_X9_paper_22 : tab t_X9_paper 22 = some (.ifCond .eq 26, 3, 48, 0, 0, 0, 0, 0, 0, 0, []) := rfl
theorem i_X9_paper_25 : tab t_X9_paper 25 = some (.iload_n 3, 1, 3, 0, 0, 0, 0, 0, 0, 0, []) := rfl
theorem i_X9_paper_26 : tab t_X9_paper 26 = some (.invokestatic 203, 3, 1, 0, 0, 0, 127, 0, 0, 0, []) := rfl
theorem i_X9_paper_29 : tab t_X9_paper 29 = some (.ifCond .eq 19, 3, 48, 0, 0, 0, 0, 0, 0, 0, []) := rfl
theorem i_X9_paper_32 : tab t_X9_paper 32 = some (.iload 4, 2, 4, 0, 0, 0, 0, 0, 0, 0, []) := rfl
theorem i_X9_paper_34 : tab t_X9_paper 34 = some (.i2l, 1, 0, 0, 0, 0, 0, 0, 0, 0, []) := rfl
theorem i_X9_paper_35 : tab t_X9_paper 35 = some (.iload_n 3, 1, 3, 0, 0, 0, 0, 0, 0, 0, []) := rfl
theorem i_X9_paper_36 : tab t_X9_paper 36 = some (.iconst 1, 1, 0, 1, 0, 0, 0, 0, 0, 0, []) := rfl
theorem i_X9_paper_37 : tab t_X9_paper 37 = some (.iadd, 1, 0, 0, 0, 0, 0, 0, 0, 0, []) := rfl
theorem i_X9_paper_38 : tab t_X9_paper 38 = some (.i2l, 1, 0, 0, 0, 0, 0, 0, 0, 0, []) := rfl
theorem i_X9_paper_39 : tab t_X9_paper 39 = some (.ldc2_w 173, 3, 0, 0, 2879, 0, 0, 0, 0, 0, []) := rfl
theorem i_X9_paper_42 : tab t_X9_paper 42 = some (.invokestatic 175, 3, 3, 0, 0, 0, 126, 0, 0, 0, []) := rfl
theorem i_X9_paper_45 : tab t_X9_paper 45 = some (.ifCond .ne 5, 3, 50, 0, 0, 0, 0, 0, 0, 0, []) := rfl
theorem i_X9_paper_48 : tab t_X9_paper 48 = some (.iconst (-1), 1, 0, -1, 0, 0, 0, 0, 0, 0, []) := rfl
theorem i_X9_paper_49 : tab t_X9_paper 49 = some (.ireturn, 1, 0, 0, 0, 0, 0, 0, 0, 0, []) := rfl
theorem i_X9_paper_50 : tab t_X9_paper 50 = some (.aload_n 0, 1, 0, 0, 0, 0, 0, 0, 0, 0, []) := rfl
theorem i_X9_paper_51 : tab t_X9_paper 51 = some (.getfield 65, 3, 2, 0, 0, 9, 25, 0, 0, 0, []) := rfl
theorem i_X9_paper_54 : tab t_X9_paper 54 = some (.aload_n 0, 1, 0, 0, 0, 0, 0, 0, 0, 0, []) := rfl
theorem i_X9_paper_55 : tab t_X9_paper 55 = some (.getfield 223, 3, 0, 0, 0, 9, 4, 0, 0, 0, []) := rfl
theorem i_X9_paper_58 : tab t_X9_paper 58 = some (.iload_n 1, 1, 1, 0, 0, 0, 0, 0, 0, 0, []) := rfl
theorem i_X9_paper_59 : tab t_X9_paper 59 = some (.iastore, 1, 0, 0, 0, 0, 0, 0, 0, 0, []) := rfl
theorem i_X9_paper_60 : tab t_X9_paper 60 = some (.aload_n 0, 1, 0, 0, 0, 0, 0, 0, 0, 0, []) := rfl
theorem i_X9_paper_61 : tab t_X9_paper 61 = some (.getfield 68, 3, 2, 0, 0, 9, 26, 0, 0, 0, []) := rfl
theorem i_X9_paper_64 : tab t_X9_paper 64 = some (.aload_n 0, 1, 0, 0, 0, 0, 0, 0, 0, 0, []) := rfl
theorem i_X9_paper_65 : tab t_X9_paper 65 = some (.getfield 223, 3, 0, 0, 0, 9, 4, 0, 0, 0, []) := rfl
theorem i_X9_paper_68 : tab t_X9_paper 68 = some (.iload_n 2, 1, 2, 0, 0, 0, 0, 0, 0, 0, []) := rfl
theorem i_X9_paper_69 : tab t_X9_paper 69 = some (.iastore, 1, 0, 0, 0, 0, 0, 0, 0, 0, []) := rfl
theorem i_X9_paper_70 : tab t_X9_paper 70 = some (.aload_n 0, 1, 0, 0, 0, 0, 0, 0, 0, 0, []) := rfl
theorem i_X9_paper_71 : tab t_X9_paper 71 = some (.getfield 71, 3, 2, 0, 0, 9, 27, 0, 0, 0, []) := rfl
theorem i_X9_paper_74 : tab t_X9_paper 74 = some (.aload_n 0, 1, 0, 0, 0, 0, 0, 0, 0, 0, []) := rfl
theorem i_X9_paper_75 : tab t_X9_paper 75 = some (.getfield 223, 3, 0, 0, 0, 9, 4, 0, 0, 0, []) := rfl
theorem i_X9_paper_78 : tab t_X9_paper 78 = some (.iload_n 3, 1, 3, 0, 0, 0, 0, 0, 0, 0, []) := rfl
theorem i_X9_paper_79 : tab t_X9_paper 79 = some (.iastore, 1, 0, 0, 0, 0, 0, 0, 0, 0, []) := rfl
theorem i_X9_paper_80 : tab t_X9_paper 80 = some (.aload_n 0, 1, 0, 0, 0, 0, 0, 0, 0, 0, []) := rfl
theorem i_X9_paper_81 : tab t_X9_paper 81 = some (.getfield 74, 3, 2, 0, 0, 9, 28, 0, 0, 0, []) := rfl
theorem i_X9_paper_84 : tab t_X9_paper 84 = some (.aload_n 0, 1, 0, 0, 0, 0, 0, 0, 0, 0, []) := rfl
theorem i_X9_paper_85 : tab t_X9_paper 85 = some (.getfield 223, 3, 0, 0, 0, 9, 4, 0, 0, 0, []) := rfl
theorem i_X9_paper_88 : tab t_X9_paper 88 = some (.iload 4, 2, 4, 0, 0, 0, 0, 0, 0, 0, []) := rfl
theorem i_X9_paper_90 : tab t_X9_paper 90 = some (.iastore, 1, 0, 0, 0, 0, 0, 0, 0, 0, []) := rfl
theorem i_X9_paper_91 : tab t_X9_paper 91 = some (.aload_n 0, 1, 0, 0, 0, 0, 0, 0, 0, 0, []) := rfl
theorem i_X9_paper_92 : tab t_X9_paper 92 = some (.dup, 1, 0, 0, 0, 0, 0, 0, 0, 0, []) := rfl
theorem i_X9_paper_93 : tab t_X9_paper 93 = some (.getfield 223, 3, 0, 0, 0, 9, 4, 0, 0, 0, []) := rfl
theorem i_X9_paper_96 : tab t_X9_paper 96 = some (.iconst 1, 1, 0, 1, 0, 0, 0, 0, 0, 0, []) := rfl
theorem i_X9_paper_97 : tab t_X9_paper 97 = some (.iadd, 1, 0, 0, 0, 0, 0, 0, 0, 0, []) := rfl
theorem i_X9_paper_98 : tab t_X9_paper 98 = some (.putfield 223, 3, 0, 0, 0, 9, 4, 0, 0, 0, []) := rfl
theorem i_X9_paper_101 : tab t_X9_paper 101 = some (.aload_n 0, 1, 0, 0, 0, 0, 0, 0, 0, 0, []) := rfl
theorem i_X9_paper_102 : tab t_X9_paper 102 = some (.getfield 223, 3, 0, 0, 0, 9, 4, 0, 0, 0, []) := rfl
theorem i_X9_paper_105 : tab t_X9_paper 105 = some (.iconst 1, 1, 0, 1, 0, 0, 0, 0, 0, 0, []) := rfl
theorem i_X9_paper_106 : tab t_X9_paper 106 = some (.isub, 1, 0, 0, 0, 0, 0, 0, 0, 0, []) := rfl
theorem i_X9_paper_107 : tab t_X9_paper 107 = some (.ireturn, 1, 0, 0, 0, 0, 0, 0, 0, 0, []) := rfl
def t_X9_placeIn : List (Nat × rw_) := [(0, (.iconst 0, 1, 0, 0, 0, 0, 0, 0, 0, 0, [])), (1, (.istore_n 3, 1, 3, 0, 0, 0, 0, 0, 0, 0, [])), (2, (.iconst 0, 1, 0, 0, 0, 0, 0, 0, 0, 0, [])), (3, (.istore 4, 2, 4, 0, 0, 0, 0, 0, 0, 0, [])), (5, (.iload 4, 2, 4, 0, 0, 0, 0, 0, 0, 0, [])), (7, (.aload_n 0, 1, 0, 0, 0, 0, 0, 0, 0, 0, [])), (8, (.getfield 29, 3, 2, 0, 0, 9, 13, 0, 0, 0, [])), (11, (.iload_n 1, 1, 1, 0, 0, 0, 0, 0, 0, 0, [])), (12, (.iaload, 1, 0, 0, 0, 0, 0, 0, 0, 0, [])), (13, (.if_icmp .ge 34, 3, 47, 0, 0, 0, 0, 0, 0, 0, [])), (16, (.aload_n 0, 1, 0, 0, 0, 0, 0, 0, 0, 0, [])), (17, (.getfield 32, 3, 2, 0, 0, 9, 14, 0, 0, 0, [])), (20, (.bipush 8, 2, 0, 8, 0, 0, 0, 0, 0, 0, [])), (22, (.iload_n 1, 1, 1, 0, 0, 0, 0, 0, 0, 0, [])), (23, (.imul, 1, 0, 0, 0, 0, 0, 0, 0, 0, [])), (24, (.iload 4, 2, 4, 0, 0, 0, 0, 0, 0, 0, [])), (26, (.iadd, 1, 0, 0, 0, 0, 0, 0, 0, 0, [])), (27, (.iaload, 1, 0, 0, 0, 0, 0, 0, 0, 0, [])), (28, (.iload_n 2, 1, 2, 0, 0, 0, 0, 0, 0, 0, [])), (29, (.if_icmp .ne 10, 3, 39, 0, 0, 0, 0, 0, 0, 0, [])), (32, (.iload 4, 2, 4, 0, 0, 0, 0, 0, 0, 0, [])), (34, (.iconst 1, 1, 0, 1, 0, 0, 0, 0, 0, 0, [])), (35, (.iadd, 1, 0, 0, 0, 0, 0, 0, 0, 0, [])), (36, (.goto 4, 3, 40, 0, 0, 0, 0, 0, 0, 0, [])), (39, (.iload_n 3, 1, 3, 0, 0, 0, 0, 0, 0, 0, [])), (40, (.istore_n 3, 1, 3, 0, 0, 0, 0, 0, 0, 0, [])), (41, (.iinc 4 1, 3, 4, 1, 0, 0, 0, 0, 0, 0, [])), (44, (.goto (-39), 3, 5, 0, 0, 0, 0, 0, 0, 0, [])), (47, (.iload_n 3, 1, 3, 0, 0, 0, 0, 0, 0, 0, [])), (48, (.ireturn, 1, 0, 0, 0, 0, 0, 0, 0, 0, []))]
set_option maxRecDepth 100000 in
theorem ok_X9_placeIn : tb_ok ctX9 m_X9_placeIn t_X9_placeIn = true := by decide +kernel
theorem i_X9_placeIn_0 : tab t_X9_placeIn 0 = some (.iconst 0, 1, 0, 0, 0, 0, 0, 0, 0, 0, []) := rfl
theorem i_X9_placeIn_1 : tab t_X9_placeIn 1 = some (.istore_n 3, 1, 3, 0, 0, 0, 0, 0, 0, 0, []) := rfl
theorem i_X9_placeIn_2 : tab t_X9_placeIn 2 = some (.iconst 0, 1, 0, 0, 0, 0, 0, 0, 0, 0, []) := rfl
theorem i_X9_placeIn_3 : tab t_X9_placeIn 3 = some (.istore 4, 2, 4, 0, 0, 0, 0, 0, 0, 0, []) := rfl
theorem i_X9_placeIn_5 : tab t_X9_placeIn 5 = some (.iload 4, 2, 4, 0, 0, 0, 0, 0, 0, 0, []) := rfl
theorem i_X9_placeIn_7 : tab t_X9_placeIn 7 = some (.aload_n 0, 1, 0, 0, 0, 0, 0, 0, 0, 0, []) := rfl
theorem i_X9_placeIn_8 : tab t_X9_placeIn 8 = some (.getfield 29, 3, 2, 0, 0, 9, 13, 0, 0, 0, []) := rfl
theorem i_X9_placeIn_11 : tab t_X9_placeIn 11 = some (.iload_n 1, 1, 1, 0, 0, 0, 0, 0, 0, 0, []) := rfl
theorem i_X9_placeIn_12 : tab t_X9_placeIn 12 = some (.iaload, 1, 0, 0, 0, 0, 0, 0, 0, 0, []) := rfl
theorem i_X9_placeIn_13 : tab t_X9_placeIn 13 = some (.if_icmp .ge 34, 3, 47, 0, 0, 0, 0, 0, 0, 0, []) := rfl
theorem i_X9_placeIn_16 : tab t_X9_placeIn 16 = some (.aload_n 0, 1, 0, 0, 0, 0, 0, 0, 0, 0, []) := rfl
theorem i_X9_placeIn_17 : tab t_X9_placeIn 17 = some (.getfield 32, 3, 2, 0, 0, 9, 14, 0, 0, 0, []) := rfl
theorem i_X9_placeIn_20 : tab t_X9_placeIn 20 = some (.bipush 8, 2, 0, 8, 0, 0, 0, 0, 0, 0, []) := rfl
theorem i_X9_placeIn_22 : tab t_X9_placeIn 22 = some (.iload_n 1, 1, 1, 0, 0, 0, 0, 0, 0, 0, []) := rfl
theorem i_X9_placeIn_23 : tab t_X9_placeIn 23 = some (.imul, 1, 0, 0, 0, 0, 0, 0, 0, 0, []) := rfl
theorem i_X9_placeIn_24 : tab t_X9_placeIn 24 = some (.iload 4, 2, 4, 0, 0, 0, 0, 0, 0, 0, []) := rfl
theorem i_X9_placeIn_26 : tab t_X9_placeIn 26 = some (.iadd, 1, 0, 0, 0, 0, 0, 0, 0, 0, []) := rfl
theorem i_X9_placeIn_27 : tab t_X9_placeIn 27 = some (.iaload, 1, 0, 0, 0, 0, 0, 0, 0, 0, []) := rfl
theorem i_X9_placeIn_28 : tab t_X9_placeIn 28 = some (.iload_n 2, 1, 2, 0, 0, 0, 0, 0, 0, 0, []) := rfl
theorem i_X9_placeIn_29 : tab t_X9_placeIn 29 = some (.if_icmp .ne 10, 3, 39, 0, 0, 0, 0, 0, 0, 0, []) := rfl
theorem i_X9_placeIn_32 : tab t_X9_placeIn 32 = some (.iload 4, 2, 4, 0, 0, 0, 0, 0, 0, 0, []) := rfl
theorem i_X9_placeIn_34 : tab t_X9_placeIn 34 = some (.iconst 1, 1, 0, 1, 0, 0, 0, 0, 0, 0, []) := rfl
theorem i_X9_placeIn_35 : tab t_X9_placeIn 35 = some (.iadd, 1, 0, 0, 0, 0, 0, 0, 0, 0, []) := rfl
theorem i_X9_placeIn_36 : tab t_X9_placeIn 36 = some (.goto 4, 3, 40, 0, 0, 0, 0, 0, 0, 0, []) := rfl
theorem i_X9_placeIn_39 : tab t_X9_placeIn 39 = some (.iload_n 3, 1, 3, 0, 0, 0, 0, 0, 0, 0, []) := rfl
theorem i_X9_placeIn_40 : tab t_X9_placeIn 40 = some (.istore_n 3, 1, 3, 0, 0, 0, 0, 0, 0, 0, []) := rfl
theorem i_X9_placeIn_41 : tab t_X9_placeIn 41 = some (.iinc 4 1, 3, 4, 1, 0, 0, 0, 0, 0, 0, []) := rfl
theorem i_X9_placeIn_44 : tab t_X9_placeIn 44 = some (.goto (-39), 3, 5, 0, 0, 0, 0, 0, 0, 0, []) := rfl
theorem i_X9_placeIn_47 : tab t_X9_placeIn 47 = some (.iload_n 3, 1, 3, 0, 0, 0, 0, 0, 0, 0, []) := rfl
theorem i_X9_placeIn_48 : tab t_X9_placeIn 48 = some (.ireturn, 1, 0, 0, 0, 0, 0, 0, 0, 0, []) := rfl
def t_X9_list : List (Nat × rw_) := [(0, (.aload_n 0, 1, 0, 0, 0, 0, 0, 0, 0, 0, [])), (1, (.iload_n 1, 1, 1, 0, 0, 0, 0, 0, 0, 0, [])), (2, (.invokevirtual 185, 3, 1, 0, 0, 0, 128, 10, 0, 0, [])), (5, (.ifCond .eq 31, 3, 36, 0, 0, 0, 0, 0, 0, 0, [])), (8, (.aload_n 0, 1, 0, 0, 0, 0, 0, 0, 0, 0, [])), (9, (.iload_n 2, 1, 2, 0, 0, 0, 0, 0, 0, 0, [])), (10, (.invokevirtual 200, 3, 1, 0, 0, 0, 129, 10, 0, 0, [])), (13, (.ifCond .eq 23, 3, 36, 0, 0, 0, 0, 0, 0, 0, [])), (16, (.aload_n 0, 1, 0, 0, 0, 0, 0, 0, 0, 0, [])), (17, (.getfield 29, 3, 2, 0, 0, 9, 13, 0, 0, 0, [])), (20, (.iload_n 1, 1, 1, 0, 0, 0, 0, 0, 0, 0, [])), (21, (.iaload, 1, 0, 0, 0, 0, 0, 0, 0, 0, [])), (22, (.bipush 8, 2, 0, 8, 0, 0, 0, 0, 0, 0, [])), (24, (.if_icmp .eq 12, 3, 36, 0, 0, 0, 0, 0, 0, 0, [])), (27, (.aload_n 0, 1, 0, 0, 0, 0, 0, 0, 0, 0, [])), (28, (.iload_n 1, 1, 1, 0, 0, 0, 0, 0, 0, 0, [])), (29, (.iload_n 2, 1, 2, 0, 0, 0, 0, 0, 0, 0, [])), (30, (.invokevirtual 226, 3, 2, 0, 0, 0, 140, 10, 0, 0, [])), (33, (.ifCond .le 5, 3, 38, 0, 0, 0, 0, 0, 0, 0, [])), (36, (.iconst (-1), 1, 0, -1, 0, 0, 0, 0, 0, 0, [])), (37, (.ireturn, 1, 0, 0, 0, 0, 0, 0, 0, 0, [])), (38, (.aload_n 0, 1, 0, 0, 0, 0, 0, 0, 0, 0, [])), (39, (.getfield 32, 3, 2, 0, 0, 9, 14, 0, 0, 0, [])), (42, (.bipush 8, 2, 0, 8, 0, 0, 0, 0, 0, 0, [])), (44, (.iload_n 1, 1, 1, 0, 0, 0, 0, 0, 0, 0, [])), (45, (.imul, 1, 0, 0, 0, 0, 0, 0, 0, 0, [])), (46, (.aload_n 0, 1, 0, 0, 0, 0, 0, 0, 0, 0, [])), (47, (.getfield 29, 3, 2, 0, 0, 9, 13, 0, 0, 0, [])), (50, (.iload_n 1, 1, 1, 0, 0, 0, 0, 0, 0, 0, [])), (51, (.iaload, 1, 0, 0, 0, 0, 0, 0, 0, 0, [])), (52, (.iadd, 1, 0, 0, 0, 0, 0, 0, 0, 0, [])), (53, (.iload_n 2, 1, 2, 0, 0, 0, 0, 0, 0, 0, [])), (54, (.iastore, 1, 0, 0, 0, 0, 0, 0, 0, 0, [])), (55, (.aload_n 0, 1, 0, 0, 0, 0, 0, 0, 0, 0, [])), (56, (.getfield 29, 3, 2, 0, 0, 9, 13, 0, 0, 0, [])), (59, (.iload_n 1, 1, 1, 0, 0, 0, 0, 0, 0, 0, [])), (60, (.dup2, 1, 0, 0, 0, 0, 0, 0, 0, 0, [])), (61, (.iaload, 1, 0, 0, 0, 0, 0, 0, 0, 0, [])), (62, (.iconst 1, 1, 0, 1, 0, 0, 0, 0, 0, 0, [])), (63, (.iadd, 1, 0, 0, 0, 0, 0, 0, 0, 0, [])), (64, (.iastore, 1, 0, 0, 0, 0, 0, 0, 0, 0, [])), (65, (.aload_n 0, 1, 0, 0, 0, 0, 0, 0, 0, 0, [])), (66, (.getfield 29, 3, 2, 0, 0, 9, 13, 0, 0, 0, [])), (69, (.iload_n 1, 1, 1, 0, 0, 0, 0, 0, 0, 0, [])), (70, (.iaload, 1, 0, 0, 0, 0, 0, 0, 0, 0, [])), (71, (.ireturn, 1, 0, 0, 0, 0, 0, 0, 0, 0, []))]
set_option maxRecDepth 100000 in
theorem ok_X9_list : tb_ok ctX9 m_X9_list t_X9_list = true := by decide +kernel
theorem i_X9_list_0 : tab t_X9_list 0 = some (.aload_n 0, 1, 0, 0, 0, 0, 0, 0, 0, 0, []) := rfl
theorem i_X9_list_1 : tab t_X9_list 1 = some (.iload_n 1, 1, 1, 0, 0, 0, 0, 0, 0, 0, []) := rfl
theorem i_X9_list_2 : tab t_X9_list 2 = some (.invokevirtual 185, 3, 1, 0, 0, 0, 128, 10, 0, 0, []) := rfl
theorem i_X9_list_5 : tab t_X9_list 5 = some (.ifCond .eq 31, 3, 36, 0, 0, 0, 0, 0, 0, 0, []) := rfl
theorem i_X9_list_8 : tab t_X9_list 8 = some (.aload_n 0, 1, 0, 0, 0, 0, 0, 0, 0, 0, []) := rfl
theorem i_X9_list_9 : tab t_X9_list 9 = some (.iload_n 2, 1, 2, 0, 0, 0, 0, 0, 0, 0, []) := rfl
theorem i_X9_list_10 : tab t_X9_list 10 = some (.invokevirtual 200, 3, 1, 0, 0, 0, 129, 10, 0, 0, []) := rfl
theorem i_X9_list_13 : tab t_X9_list 13 = some (.ifCond .eq 23, 3, 36, 0, 0, 0, 0, 0, 0, 0, []) := rfl
theorem i_X9_list_16 : tab t_X9_list 16 = some (.aload_n 0, 1, 0, 0, 0, 0, 0, 0, 0, 0, []) := rfl
theorem i_X9_list_17 : tab t_X9_list 17 = some (.getfield 29, 3, 2, 0, 0, 9, 13, 0, 0, 0, []) := rfl
theorem i_X9_list_20 : tab t_X9_list 20 = some (.iload_n 1, 1, 1, 0, 0, 0, 0, 0, 0, 0, []) := rfl
theorem i_X9_list_21 : tab t_X9_list 21 = some (.iaload, 1, 0, 0, 0, 0, 0, 0, 0, 0, []) := rfl
theorem i_X9_list_22 : tab t_X9_list 22 = some (.bipush 8, 2, 0, 8, 0, 0, 0, 0, 0, 0, []) := rfl
theorem i_X9_list_24 : tab t_X9_list 24 = some (.if_icmp .eq 12, 3, 36, 0, 0, 0, 0, 0, 0, 0, []) := rfl
theorem i_X9_list_27 : tab t_X9_list 27 = some (.aload_n 0, 1, 0, 0, 0, 0, 0, 0, 0, 0, []) := rfl
theorem i_X9_list_28 : tab t_X9_list 28 = some (.iload_n 1, 1, 1, 0, 0, 0, 0, 0, 0, 0, []) := rfl
theorem i_X9_list_29 : tab t_X9_list 29 = some (.iload_n 2, 1, 2, 0, 0, 0, 0, 0, 0, 0, []) := rfl
theorem i_X9_list_30 : tab t_X9_list 30 = some (.invokevirtual 226, 3, 2, 0, 0, 0, 140, 10, 0, 0, []) := rfl
theorem i_X9_list_33 : tab t_X9_list 33 = some (.ifCond .le 5, 3, 38, 0, 0, 0, 0, 0, 0, 0, []) := rfl
theorem i_X9_list_36 : tab t_X9_list 36 = some (.iconst (-1), 1, 0, -1, 0, 0, 0, 0, 0, 0, []) := rfl
theorem i_X9_list_37 : tab t_X9_list 37 = some (.ireturn, 1, 0, 0, 0, 0, 0, 0, 0, 0, []) := rfl
theorem i_X9_list_38 : tab t_X9_list 38 = some (.aload_n 0, 1, 0, 0, 0, 0, 0, 0, 0, 0, []) := rfl
theorem i_X9_list_39 : tab t_X9_list 39 = some (.getfield 32, 3, 2, 0, 0, 9, 14, 0, 0, 0, []) := rfl
theorem i_X9_list_42 : tab t_X9_list 42 = some (.bipush 8, 2, 0, 8, 0, 0, 0, 0, 0, 0, []) := rfl
theorem i_X9_list_44 : tab t_X9_list 44 = some (.iload_n 1, 1, 1, 0, 0, 0, 0, 0, 0, 0, []) := rfl
theorem i_X9_list_45 : tab t_X9_list 45 = some (.imul, 1, 0, 0, 0, 0, 0, 0, 0, 0, []) := rfl
theorem i_X9_list_46 : tab t_X9_list 46 = some (.aload_n 0, 1, 0, 0, 0, 0, 0, 0, 0, 0, []) := rfl
theorem i_X9_list_47 : tab t_X9_list 47 = some (.getfield 29, 3, 2, 0, 0, 9, 13, 0, 0, 0, []) := rfl
theorem i_X9_list_50 : tab t_X9_list 50 = some (.iload_n 1, 1, 1, 0, 0, 0, 0, 0, 0, 0, []) := rfl
theorem i_X9_list_51 : tab t_X9_list 51 = some (.iaload, 1, 0, 0, 0, 0, 0, 0, 0, 0, []) := rfl
theorem i_X9_list_52 : tab t_X9_list 52 = some (.iadd, 1, 0, 0, 0, 0, 0, 0, 0, 0, []) := rfl
theorem i_X9_list_53 : tab t_X9_list 53 = some (.iload_n 2, 1, 2, 0, 0, 0, 0, 0, 0, 0, []) := rfl
theorem i_X9_list_54 : tab t_X9_list 54 = some (.iastore, 1, 0, 0, 0, 0, 0, 0, 0, 0, []) := rfl
theorem i_X9_list_55 : tab t_X9_list 55 = some (.aload_n 0, 1, 0, 0, 0, 0, 0, 0, 0, 0, []) := rfl
theorem i_X9_list_56 : tab t_X9_list 56 = some (.getfield 29, 3, 2, 0, 0, 9, 13, 0, 0, 0, []) := rfl
theorem i_X9_list_59 : tab t_X9_list 59 = some (.iload_n 1, 1, 1, 0, 0, 0, 0, 0, 0, 0, []) := rfl
theorem i_X9_list_60 : tab t_X9_list 60 = some (.dup2, 1, 0, 0, 0, 0, 0, 0, 0, 0, []) := rfl
theorem i_X9_list_61 : tab t_X9_list 61 = some (.iaload, 1, 0, 0, 0, 0, 0, 0, 0, 0, []) := rfl
theorem i_X9_list_62 : tab t_X9_list 62 = some (.iconst 1, 1, 0, 1, 0, 0, 0, 0, 0, 0, []) := rfl
theorem i_X9_list_63 : tab t_X9_list 63 = some (.iadd, 1, 0, 0, 0, 0, 0, 0, 0, 0, []) := rfl
theorem i_X9_list_64 : tab t_X9_list 64 = some (.iastore, 1, 0, 0, 0, 0, 0, 0, 0, 0, []) := rfl
theorem i_X9_list_65 : tab t_X9_list 65 = some (.aload_n 0, 1, 0, 0, 0, 0, 0, 0, 0, 0, []) := rfl
theorem i_X9_list_66 : tab t_X9_list 66 = some (.getfield 29, 3, 2, 0, 0, 9, 13, 0, 0, 0, []) := rfl
theorem i_X9_list_69 : tab t_X9_list 69 = some (.iload_n 1, 1, 1, 0, 0, 0, 0, 0, 0, 0, []) := rfl
theorem i_X9_list_70 : tab t_X9_list 70 = some (.iaload, 1, 0, 0, 0, 0, 0, 0, 0, 0, []) := rfl
theorem i_X9_list_71 : tab t_X9_list 71 = some (.ireturn, 1, 0, 0, 0, 0, 0, 0, 0, 0, []) := rfl
def t_X9_falls : List (Nat × rw_) := [(0, (.aload_n 0, 1, 0, 0, 0, 0, 0, 0, 0, 0, [])), (1, (.iload_n 1, 1, 1, 0, 0, 0, 0, 0, 0, 0, [])), (2, (.invokevirtual 200, 3, 1, 0, 0, 0, 129, 10, 0, 0, [])), (5, (.ifCond .eq 20, 3, 25, 0, 0, 0, 0, 0, 0, 0, [])), (8, (.iload_n 2, 1, 2, 0, 0, 0, 0, 0, 0, 0, [])), (9, (.invokestatic 203, 3, 1, 0, 0, 0, 127, 0, 0, 0, [])), (12, (.ifCond .eq 13, 3, 25, 0, 0, 0, 0, 0, 0, 0, [])), (15, (.aload_n 0, 1, 0, 0, 0, 0, 0, 0, 0, 0, [])), (16, (.getfield 50, 3, 2, 0, 0, 9, 20, 0, 0, 0, [])), (19, (.iload_n 1, 1, 1, 0, 0, 0, 0, 0, 0, 0, [])), (20, (.iaload, 1, 0, 0, 0, 0, 0, 0, 0, 0, [])), (21, (.iconst (-1), 1, 0, -1, 0, 0, 0, 0, 0, 0, [])), (22, (.if_icmp .eq 5, 3, 27, 0, 0, 0, 0, 0, 0, 0, [])), (25, (.iconst 0, 1, 0, 0, 0, 0, 0, 0, 0, 0, [])), (26, (.ireturn, 1, 0, 0, 0, 1, 0, 0, 0, 0, [])), (27, (.aload_n 0, 1, 0, 0, 0, 0, 0, 0, 0, 0, [])), (28, (.getfield 50, 3, 2, 0, 0, 9, 20, 0, 0, 0, [])), (31, (.iload_n 1, 1, 1, 0, 0, 0, 0, 0, 0, 0, [])), (32, (.iload_n 2, 1, 2, 0, 0, 0, 0, 0, 0, 0, [])), (33, (.iastore, 1, 0, 0, 0, 0, 0, 0, 0, 0, [])), (34, (.iconst 1, 1, 0, 1, 0, 0, 0, 0, 0, 0, [])), (35, (.ireturn, 1, 0, 0, 0, 1, 0, 0, 0, 0, []))]
set_option maxRecDepth 100000 in
theorem ok_X9_falls : tb_ok ctX9 m_X9_falls t_X9_falls = true := by decide +kernel
theorem i_X9_falls_0 : tab t_X9_falls 0 = some (.aload_n 0, 1, 0, 0, 0, 0, 0, 0, 0, 0, []) := rfl
theorem i_X9_falls_1 : tab t_X9_falls 1 = some (.iload_n 1, 1, 1, 0, 0, 0, 0, 0, 0, 0, []) := rfl
theorem i_X9_falls_2 : tab t_X9_falls 2 = some (.invokevirtual 200, 3, 1, 0, 0, 0, 129, 10, 0, 0, []) := rfl
theorem i_X9_falls_5 : tab t_X9_falls 5 = some (.ifCond .eq 20, 3, 25, 0, 0, 0, 0, 0, 0, 0, []) := rfl
theorem i_X9_falls_8 : tab t_X9_falls 8 = some (.iload_n 2, 1, 2, 0, 0, 0, 0, 0, 0, 0, []) := rfl
theorem i_X9_falls_9 : tab t_X9_falls 9 = some (.invokestatic 203, 3, 1, 0, 0, 0, 127, 0, 0, 0, []) := rfl
theorem i_X9_falls_12 : tab t_X9_falls 12 = some (.ifCond .eq 13, 3, 25, 0, 0, 0, 0, 0, 0, 0, []) := rfl
theorem i_X9_falls_15 : tab t_X9_falls 15 = some (.aload_n 0, 1, 0, 0, 0, 0, 0, 0, 0, 0, []) := rfl
theorem i_X9_falls_16 : tab t_X9_falls 16 = some (.getfield 50, 3, 2, 0, 0, 9, 20, 0, 0, 0, []) := rfl
theorem i_X9_falls_19 : tab t_X9_falls 19 = some (.iload_n 1, 1, 1, 0, 0, 0, 0, 0, 0, 0, []) := rfl
theorem i_X9_falls_20 : tab t_X9_falls 20 = some (.iaload, 1, 0, 0, 0, 0, 0, 0, 0, 0, []) := rfl
theorem i_X9_falls_21 : tab t_X9_falls 21 = some (.iconst (-1), 1, 0, -1, 0, 0, 0, 0, 0, 0, []) := rfl
theorem i_X9_falls_22 : tab t_X9_falls 22 = some (.if_icmp .eq 5, 3, 27, 0, 0, 0, 0, 0, 0, 0, []) := rfl
theorem i_X9_falls_25 : tab t_X9_falls 25 = some (.iconst 0, 1, 0, 0, 0, 0, 0, 0, 0, 0, []) := rfl
theorem i_X9_falls_26 : tab t_X9_falls 26 = some (.ireturn, 1, 0, 0, 0, 1, 0, 0, 0, 0, []) := rfl
theorem i_X9_falls_27 : tab t_X9_falls 27 = some (.aload_n 0, 1, 0, 0, 0, 0, 0, 0, 0, 0, []) := rfl
theorem i_X9_falls_28 : tab t_X9_falls 28 = some (.getfield 50, 3, 2, 0, 0, 9, 20, 0, 0, 0, []) := rfl
theorem i_X9_falls_31 : tab t_X9_falls 31 = some (.iload_n 1, 1, 1, 0, 0, 0, 0, 0, 0, 0, []) := rfl
theorem i_X9_falls_32 : tab t_X9_falls 32 = some (.iload_n 2, 1, 2, 0, 0, 0, 0, 0, 0, 0, []) := rfl
theorem i_X9_falls_33 : tab t_X9_falls 33 = some (.iastore, 1, 0, 0, 0, 0, 0, 0, 0, 0, []) := rfl
theorem i_X9_falls_34 : tab t_X9_falls 34 = some (.iconst 1, 1, 0, 1, 0, 0, 0, 0, 0, 0, []) := rfl
theorem i_X9_falls_35 : tab t_X9_falls 35 = some (.ireturn, 1, 0, 0, 0, 1, 0, 0, 0, 0, []) := rfl
def t_X9_feed : List (Nat × rw_) := [(0, (.aload_n 0, 1, 0, 0, 0, 0, 0, 0, 0, 0, [])), (1, (.getfield 229, 3, 0, 0, 0, 9, 29, 0, 0, 0, [])), (4, (.bipush 20, 2, 0, 20, 0, 0, 0, 0, 0, 0, [])), (6, (.iadd, 1, 0, 0, 0, 0, 0, 0, 0, 0, [])), (7, (.sipush 400, 3, 0, 400, 0, 0, 0, 0, 0, 0, [])), (10, (.if_icmp .le 5, 3, 15, 0, 0, 0, 0, 0, 0, 0, [])), (13, (.iconst (-1), 1, 0, -1, 0, 0, 0, 0, 0, 0, [])), (14, (.ireturn, 1, 0, 0, 0, 0, 0, 0, 0, 0, [])), (15, (.aload_n 0, 1, 0, 0, 0, 0, 0, 0, 0, 0, [])), (16, (.iload_n 1, 1, 1, 0, 0, 0, 0, 0, 0, 0, [])), (17, (.invokevirtual 232, 3, 1, 0, 0, 0, 144, 10, 0, 0, [])), (20, (.aload_n 0, 1, 0, 0, 0, 0, 0, 0, 0, 0, [])), (21, (.iload_n 2, 1, 2, 0, 0, 0, 0, 0, 0, 0, [])), (22, (.invokevirtual 232, 3, 1, 0, 0, 0, 144, 10, 0, 0, [])), (25, (.aload_n 0, 1, 0, 0, 0, 0, 0, 0, 0, 0, [])), (26, (.iload_n 3, 1, 3, 0, 0, 0, 0, 0, 0, 0, [])), (27, (.invokevirtual 232, 3, 1, 0, 0, 0, 144, 10, 0, 0, [])), (30, (.aload_n 0, 1, 0, 0, 0, 0, 0, 0, 0, 0, [])), (31, (.iload 4, 2, 4, 0, 0, 0, 0, 0, 0, 0, [])), (33, (.invokevirtual 232, 3, 1, 0, 0, 0, 144, 10, 0, 0, [])), (36, (.aload_n 0, 1, 0, 0, 0, 0, 0, 0, 0, 0, [])), (37, (.iload 5, 2, 5, 0, 0, 0, 0, 0, 0, 0, [])), (39, (.invokevirtual 232, 3, 1, 0, 0, 0, 144, 10, 0, 0, [])), (42, (.aload_n 0, 1, 0, 0, 0, 0, 0, 0, 0, 0, [])), (43, (.getfield 229, 3, 0, 0, 0, 9, 29, 0, 0, 0, [])), (46, (.ireturn, 1, 0, 0, 0, 0, 0, 0, 0, 0, []))]
set_option maxRecDepth 100000 in
theorem ok_X9_feed : tb_ok ctX9 m_X9_feed t_X9_feed = true := by decide +kernel
theorem i_X9_feed_0 : tab t_X9_feed 0 = some (.aload_n 0, 1, 0, 0, 0, 0, 0, 0, 0, 0, []) := rfl
theorem i_X9_feed_1 : tab t_X9_feed 1 = some (.getfield 229, 3, 0, 0, 0, 9, 29, 0, 0, 0, []) := rfl
theorem i_X9_feed_4 : tab t_X9_feed 4 = some (.bipush 20, 2, 0, 20, 0, 0, 0, 0, 0, 0, []) := rfl
theorem i_X9_feed_6 : tab t_X9_feed 6 = some (.iadd, 1, 0, 0, 0, 0, 0, 0, 0, 0, []) := rfl
theorem i_X9_feed_7 : tab t_X9_feed 7 = some (.sipush 400, 3, 0, 400, 0, 0, 0, 0, 0, 0, []) := rfl
theorem i_X9_feed_10 : tab t_X9_feed 10 = some (.if_icmp .le 5, 3, 15, 0, 0, 0, 0, 0, 0, 0, []) := rfl
theorem i_X9_feed_13 : tab t_X9_feed 13 = some (.iconst (-1), 1, 0, -1, 0, 0, 0, 0, 0, 0, []) := rfl
theorem i_X9_feed_14 : tab t_X9_feed 14 = some (.ireturn, 1, 0, 0, 0, 0, 0, 0, 0, 0, []) := rfl
theorem i_X9_feed_15 : tab t_X9_feed 15 = some (.aload_n 0, 1, 0, 0, 0, 0, 0, 0, 0, 0, []) := rfl
theorem i_X9_feed_16 : tab t_X9_feed 16 = some (.iload_n 1, 1, 1, 0, 0, 0, 0, 0, 0, 0, []) := rfl
theorem i_X9_feed_17 : tab t_X9_feed 17 = some (.invokevirtual 232, 3, 1, 0, 0, 0, 144, 10, 0, 0, []) := rfl
theorem i_X9_feed_20 : tab t_X9_feed 20 = some (.aload_n 0, 1, 0, 0, 0, 0, 0, 0, 0, 0, []) := rfl
theorem i_X9_feed_21 : tab t_X9_feed 21 = some (.iload_n 2, 1, 2, 0, 0, 0, 0, 0, 0, 0, []) := rfl
theorem i_X9_feed_22 : tab t_X9_feed 22 = some (.invokevirtual 232, 3, 1, 0, 0, 0, 144, 10, 0, 0, []) := rfl
theorem i_X9_feed_25 : tab t_X9_feed 25 = some (.aload_n 0, 1, 0, 0, 0, 0, 0, 0, 0, 0, []) := rfl
theorem i_X9_feed_26 : tab t_X9_feed 26 = some (.iload_n 3, 1, 3, 0, 0, 0, 0, 0, 0, 0, []) := rfl
theorem i_X9_feed_27 : tab t_X9_feed 27 = some (.invokevirtual 232, 3, 1, 0, 0, 0, 144, 10, 0, 0, []) := rfl
theorem i_X9_feed_30 : tab t_X9_feed 30 = some (.aload_n 0, 1, 0, 0, 0, 0, 0, 0, 0, 0, []) := rfl
theorem i_X9_feed_31 : tab t_X9_feed 31 = some (.iload 4, 2, 4, 0, 0, 0, 0, 0, 0, 0, []) := rfl
theorem i_X9_feed_33 : tab t_X9_feed 33 = some (.invokevirtual 232, 3, 1, 0, 0, 0, 144, 10, 0, 0, []) := rfl
theorem i_X9_feed_36 : tab t_X9_feed 36 = some (.aload_n 0, 1, 0, 0, 0, 0, 0, 0, 0, 0, []) := rfl
theorem i_X9_feed_37 : tab t_X9_feed 37 = some (.iload 5, 2, 5, 0, 0, 0, 0, 0, 0, 0, []) := rfl
theorem i_X9_feed_39 : tab t_X9_feed 39 = some (.invokevirtual 232, 3, 1, 0, 0, 0, 144, 10, 0, 0, []) := rfl
theorem i_X9_feed_42 : tab t_X9_feed 42 = some (.aload_n 0, 1, 0, 0, 0, 0, 0, 0, 0, 0, []) := rfl
theorem i_X9_feed_43 : tab t_X9_feed 43 = some (.getfield 229, 3, 0, 0, 0, 9, 29, 0, 0, 0, []) := rfl
theorem i_X9_feed_46 : tab t_X9_feed 46 = some (.ireturn, 1, 0, 0, 0, 0, 0, 0, 0, 0, []) := rfl
def t_X9_put : List (Nat × rw_) := [(0, (.bipush 24, 2, 0, 24, 0, 0, 0, 0, 0, 0, [])), (2, (.istore_n 2, 1, 2, 0, 0, 0, 0, 0, 0, 0, [])), (3, (.iload_n 2, 1, 2, 0, 0, 0, 0, 0, 0, 0, [])), (4, (.ifCond .lt 32, 3, 36, 0, 0, 0, 0, 0, 0, 0, [])), (7, (.aload_n 0, 1, 0, 0, 0, 0, 0, 0, 0, 0, [])), (8, (.getfield 77, 3, 2, 0, 0, 9, 37, 0, 0, 0, [])), (11, (.aload_n 0, 1, 0, 0, 0, 0, 0, 0, 0, 0, [])), (12, (.getfield 229, 3, 0, 0, 0, 9, 29, 0, 0, 0, [])), (15, (.iload_n 1, 1, 1, 0, 0, 0, 0, 0, 0, 0, [])), (16, (.iload_n 2, 1, 2, 0, 0, 0, 0, 0, 0, 0, [])), (17, (.ishr, 1, 0, 0, 0, 0, 0, 0, 0, 0, [])), (18, (.i2b, 1, 0, 0, 0, 0, 0, 0, 0, 0, [])), (19, (.bastore, 1, 0, 0, 0, 1, 0, 0, 0, 0, [])), (20, (.aload_n 0, 1, 0, 0, 0, 0, 0, 0, 0, 0, [])), (21, (.dup, 1, 0, 0, 0, 0, 0, 0, 0, 0, [])), (22, (.getfield 229, 3, 0, 0, 0, 9, 29, 0, 0, 0, [])), (25, (.iconst 1, 1, 0, 1, 0, 0, 0, 0, 0, 0, [])), (26, (.iadd, 1, 0, 0, 0, 0, 0, 0, 0, 0, [])), (27, (.putfield 229, 3, 0, 0, 0, 9, 29, 0, 0, 0, [])), (30, (.iinc 2 (-8), 3, 2, -8, 0, 0, 0, 0, 0, 0, [])), (33, (.goto (-30), 3, 3, 0, 0, 0, 0, 0, 0, 0, [])), (36, (.return_, 1, 0, 0, 0, 0, 0, 0, 0, 0, []))]
set_option maxRecDepth 100000 in
theorem ok_X9_put : tb_ok ctX9 m_X9_put t_X9_put = true := by decide +kernel
theorem i_X9_put_0 : tab t_X9_put 0 = some (.bipush 24, 2, 0, 24, 0, 0, 0, 0, 0, 0, []) := rfl
theorem i_X9_put_2 : tab t_X9_put 2 = some (.istore_n 2, 1, 2, 0, 0, 0, 0, 0, 0, 0, []) := rfl
theorem i_X9_put_3 : tab t_X9_put 3 = some (.iload_n 2, 1, 2, 0, 0, 0, 0, 0, 0, 0, []) := rfl
theorem i_X9_put_4 : tab t_X9_put 4 = some (.ifCond .lt 32, 3, 36, 0, 0, 0, 0, 0, 0, 0, []) := rfl
theorem i_X9_put_7 : tab t_X9_put 7 = some (.aload_n 0, 1, 0, 0, 0, 0, 0, 0, 0, 0, []) := rfl
theorem i_X9_put_8 : tab t_X9_put 8 = some (.getfield 77, 3, 2, 0, 0, 9, 37, 0, 0, 0, []) := rfl
theorem i_X9_put_11 : tab t_X9_put 11 = some (.aload_n 0, 1, 0, 0, 0, 0, 0, 0, 0, 0, []) := rfl
theorem i_X9_put_12 : tab t_X9_put 12 = some (.getfield 229, 3, 0, 0, 0, 9, 29, 0, 0, 0, []) := rfl
theorem i_X9_put_15 : tab t_X9_put 15 = some (.iload_n 1, 1, 1, 0, 0, 0, 0, 0, 0, 0, []) := rfl
theorem i_X9_put_16 : tab t_X9_put 16 = some (.iload_n 2, 1, 2, 0, 0, 0, 0, 0, 0, 0, []) := rfl
theorem i_X9_put_17 : tab t_X9_put 17 = some (.ishr, 1, 0, 0, 0, 0, 0, 0, 0, 0, []) := rfl
theorem i_X9_put_18 : tab t_X9_put 18 = some (.i2b, 1, 0, 0, 0, 0, 0, 0, 0, 0, []) := rfl
theorem i_X9_put_19 : tab t_X9_put 19 = some (.bastore, 1, 0, 0, 0, 1, 0, 0, 0, 0, []) := rfl
theorem i_X9_put_20 : tab t_X9_put 20 = some (.aload_n 0, 1, 0, 0, 0, 0, 0, 0, 0, 0, []) := rfl
theorem i_X9_put_21 : tab t_X9_put 21 = some (.dup, 1, 0, 0, 0, 0, 0, 0, 0, 0, []) := rfl
theorem i_X9_put_22 : tab t_X9_put 22 = some (.getfield 229, 3, 0, 0, 0, 9, 29, 0, 0, 0, []) := rfl
theorem i_X9_put_25 : tab t_X9_put 25 = some (.iconst 1, 1, 0, 1, 0, 0, 0, 0, 0, 0, []) := rfl
theorem i_X9_put_26 : tab t_X9_put 26 = some (.iadd, 1, 0, 0, 0, 0, 0, 0, 0, 0, []) := rfl
theorem i_X9_put_27 : tab t_X9_put 27 = some (.putfield 229, 3, 0, 0, 0, 9, 29, 0, 0, 0, []) := rfl
theorem i_X9_put_30 : tab t_X9_put 30 = some (.iinc 2 (-8), 3, 2, -8, 0, 0, 0, 0, 0, 0, []) := rfl
theorem i_X9_put_33 : tab t_X9_put 33 = some (.goto (-30), 3, 3, 0, 0, 0, 0, 0, 0, 0, []) := rfl
theorem i_X9_put_36 : tab t_X9_put 36 = some (.return_, 1, 0, 0, 0, 0, 0, 0, 0, 0, []) := rfl
def t_X9_end : List (Nat × rw_) := [(0, (.iload_n 1, 1, 1, 0, 0, 0, 0, 0, 0, 0, [])), (1, (.ifCond .lt 11, 3, 12, 0, 0, 0, 0, 0, 0, 0, [])), (4, (.iload_n 1, 1, 1, 0, 0, 0, 0, 0, 0, 0, [])), (5, (.aload_n 0, 1, 0, 0, 0, 0, 0, 0, 0, 0, [])), (6, (.getfield 229, 3, 0, 0, 0, 9, 29, 0, 0, 0, [])), (9, (.if_icmp .le 5, 3, 14, 0, 0, 0, 0, 0, 0, 0, [])), (12, (.iconst (-1), 1, 0, -1, 0, 0, 0, 0, 0, 0, [])), (13, (.ireturn, 1, 0, 0, 0, 0, 0, 0, 0, 0, [])), (14, (.aload_n 0, 1, 0, 0, 0, 0, 0, 0, 0, 0, [])), (15, (.iload_n 1, 1, 1, 0, 0, 0, 0, 0, 0, 0, [])), (16, (.putfield 229, 3, 0, 0, 0, 9, 29, 0, 0, 0, [])), (19, (.iload_n 1, 1, 1, 0, 0, 0, 0, 0, 0, 0, [])), (20, (.ireturn, 1, 0, 0, 0, 0, 0, 0, 0, 0, []))]
set_option maxRecDepth 100000 in
theorem ok_X9_end : tb_ok ctX9 m_X9_end t_X9_end = true := by decide +kernel
theorem i_X9_end_0 : tab t_X9_end 0 = some (.iload_n 1, 1, 1, 0, 0, 0, 0, 0, 0, 0, []) := rfl
theorem i_X9_end_1 : tab t_X9_end 1 = some (.ifCond .lt 11, 3, 12, 0, 0, 0, 0, 0, 0, 0, []) := rfl
theorem i_X9_end_4 : tab t_X9_end 4 = some (.iload_n 1, 1, 1, 0, 0, 0, 0, 0, 0, 0, []) := rfl
theorem i_X9_end_5 : tab t_X9_end 5 = some (.aload_n 0, 1, 0, 0, 0, 0, 0, 0, 0, 0, []) := rfl
theorem i_X9_end_6 : tab t_X9_end 6 = some (.getfield 229, 3, 0, 0, 0, 9, 29, 0, 0, 0, []) := rfl
theorem i_X9_end_9 : tab t_X9_end 9 = some (.if_icmp .le 5, 3, 14, 0, 0, 0, 0, 0, 0, 0, []) := rfl
theorem i_X9_end_12 : tab t_X9_end 12 = some (.iconst (-1), 1, 0, -1, 0, 0, 0, 0, 0, 0, []) := rfl
theorem i_X9_end_13 : tab t_X9_end 13 = some (.ireturn, 1, 0, 0, 0, 0, 0, 0, 0, 0, []) := rfl
theorem i_X9_end_14 : tab t_X9_end 14 = some (.aload_n 0, 1, 0, 0, 0, 0, 0, 0, 0, 0, []) := rfl
theorem i_X9_end_15 : tab t_X9_end 15 = some (.iload_n 1, 1, 1, 0, 0, 0, 0, 0, 0, 0, []) := rfl
theorem i_X9_end_16 : tab t_X9_end 16 = some (.putfield 229, 3, 0, 0, 0, 9, 29, 0, 0, 0, []) := rfl
theorem i_X9_end_19 : tab t_X9_end 19 = some (.iload_n 1, 1, 1, 0, 0, 0, 0, 0, 0, 0, []) := rfl
theorem i_X9_end_20 : tab t_X9_end 20 = some (.ireturn, 1, 0, 0, 0, 0, 0, 0, 0, 0, []) := rfl
def t_X9_wordOf : List (Nat × rw_) := [(0, (.iload_n 0, 1, 0, 0, 0, 0, 0, 0, 0, 0, [])), (1, (.tableswitch 99 0 11 #[63, 66, 69, 72, 75, 78, 81, 84, 87, 90, 93, 96], 63, 100, 0, 0, 0, 0, 0, 0, 0, [(0, 64), (1, 67), (2, 70), (3, 73), (4, 76), (5, 79), (6, 82), (7, 85), (8, 88), (9, 91), (10, 94), (11, 97)])), (64, (.ldc 236, 2, 0, 0, 0, 1, 1, 0, 0, 0, [])), (66, (.areturn, 1, 0, 0, 0, 0, 0, 0, 0, 0, [])), (67, (.ldc 238, 2, 0, 0, 0, 1, 2, 0, 0, 0, [])), (69, (.areturn, 1, 0, 0, 0, 0, 0, 0, 0, 0, [])), (70, (.ldc 239, 2, 0, 0, 0, 1, 3, 0, 0, 0, [])), (72, (.areturn, 1, 0, 0, 0, 0, 0, 0, 0, 0, [])), (73, (.ldc 240, 2, 0, 0, 0, 1, 4, 0, 0, 0, [])), (75, (.areturn, 1, 0, 0, 0, 0, 0, 0, 0, 0, [])), (76, (.ldc 241, 2, 0, 0, 0, 1, 5, 0, 0, 0, [])), (78, (.areturn, 1, 0, 0, 0, 0, 0, 0, 0, 0, [])), (79, (.ldc 242, 2, 0, 0, 0, 1, 6, 0, 0, 0, [])), (81, (.areturn, 1, 0, 0, 0, 0, 0, 0, 0, 0, [])), (82, (.ldc 244, 2, 0, 0, 0, 1, 7, 0, 0, 0, [])), (84, (.areturn, 1, 0, 0, 0, 0, 0, 0, 0, 0, [])), (85, (.ldc 246, 2, 0, 0, 0, 1, 8, 0, 0, 0, [])), (87, (.areturn, 1, 0, 0, 0, 0, 0, 0, 0, 0, [])), (88, (.ldc 247, 2, 0, 0, 0, 1, 9, 0, 0, 0, [])), (90, (.areturn, 1, 0, 0, 0, 0, 0, 0, 0, 0, [])), (91, (.ldc 249, 2, 0, 0, 0, 1, 10, 0, 0, 0, [])), (93, (.areturn, 1, 0, 0, 0, 0, 0, 0, 0, 0, [])), (94, (.ldc 251, 2, 0, 0, 0, 1, 11, 0, 0, 0, [])), (96, (.areturn, 1, 0, 0, 0, 0, 0, 0, 0, 0, [])), (97, (.ldc 253, 2, 0, 0, 0, 1, 12, 0, 0, 0, [])), (99, (.areturn, 1, 0, 0, 0, 0, 0, 0, 0, 0, [])), (100, (.ldc 255, 2, 0, 0, 0, 1, 13, 0, 0, 0, [])), (102, (.areturn, 1, 0, 0, 0, 0, 0, 0, 0, 0, []))]
set_option maxRecDepth 100000 in
theorem ok_X9_wordOf : tb_ok ctX9 m_X9_wordOf t_X9_wordOf = true := by decide +kernel
theorem i_X9_wordOf_0 : tab t_X9_wordOf 0 = some (.iload_n 0, 1, 0, 0, 0, 0, 0, 0, 0, 0, []) := rfl
theorem i_X9_wordOf_1 : tab t_X9_wordOf 1 = some (.tableswitch 99 0 11 #[63, 66, 69, 72, 75, 78, 81, 84, 87, 90, 93, 96], 63, 100, 0, 0, 0, 0, 0, 0, 0, [(0, 64), (1, 67), (2, 70), (3, 73), (4, 76), (5, 79), (6, 82), (7, 85), (8, 88), (9, 91), (10, 94), (11, 97)]) := rfl
theorem i_X9_wordOf_64 : tab t_X9_wordOf 64 = some (.ldc 236, 2, 0, 0, 0, 1, 1, 0, 0, 0, []) := rfl
theorem i_X9_wordOf_66 : tab t_X9_wordOf 66 = some (.areturn, 1, 0, 0, 0, 0, 0, 0, 0, 0, []) := rfl
theorem i_X9_wordOf_67 : tab t_X9_wordOf 67 = some (.ldc 238, 2, 0, 0, 0, 1, 2, 0, 0, 0, []) := rfl
theorem i_X9_wordOf_69 : tab t_X9_wordOf 69 = some (.areturn, 1, 0, 0, 0, 0, 0, 0, 0, 0, []) := rfl
theorem i_X9_wordOf_70 : tab t_X9_wordOf 70 = some (.ldc 239, 2, 0, 0, 0, 1, 3, 0, 0, 0, []) := rfl
theorem i_X9_wordOf_72 : tab t_X9_wordOf 72 = some (.areturn, 1, 0, 0, 0, 0, 0, 0, 0, 0, []) := rfl
theorem i_X9_wordOf_73 : tab t_X9_wordOf 73 = some (.ldc 240, 2, 0, 0, 0, 1, 4, 0, 0, 0, []) := rfl
theorem i_X9_wordOf_75 : tab t_X9_wordOf 75 = some (.areturn, 1, 0, 0, 0, 0, 0, 0, 0, 0, []) := rfl
theorem i_X9_wordOf_76 : tab t_X9_wordOf 76 = some (.ldc 241, 2, 0, 0, 0, 1, 5, 0, 0, 0, []) := rfl
theorem i_X9_wordOf_78 : tab t_X9_wordOf 78 = some (.areturn, 1, 0, 0, 0, 0, 0, 0, 0, 0, []) := rfl
theorem i_X9_wordOf_79 : tab t_X9_wordOf 79 = some (.ldc 242, 2, 0, 0, 0, 1, 6, 0, 0, 0, []) := rfl
theorem i_X9_wordOf_81 : tab t_X9_wordOf 81 = some (.areturn, 1, 0, 0, 0, 0, 0, 0, 0, 0, []) := rfl
theorem i_X9_wordOf_82 : tab t_X9_wordOf 82 = some (.ldc 244, 2, 0, 0, 0, 1, 7, 0, 0, 0, []) := rfl
theorem i_X9_wordOf_84 : tab t_X9_wordOf 84 = some (.areturn, 1, 0, 0, 0, 0, 0, 0, 0, 0, []) := rfl
theorem i_X9_wordOf_85 : tab t_X9_wordOf 85 = some (.ldc 246, 2, 0, 0, 0, 1, 8, 0, 0, 0, []) := rfl
theorem i_X9_wordOf_87 : tab t_X9_wordOf 87 = some (.areturn, 1, 0, 0, 0, 0, 0, 0, 0, 0, []) := rfl
theorem i_X9_wordOf_88 : tab t_X9_wordOf 88 = some (.ldc 247, 2, 0, 0, 0, 1, 9, 0, 0, 0, []) := rfl
theorem i_X9_wordOf_90 : tab t_X9_wordOf 90 = some (.areturn, 1, 0, 0, 0, 0, 0, 0, 0, 0, []) := rfl
theorem i_X9_wordOf_91 : tab t_X9_wordOf 91 = some (.ldc 249, 2, 0, 0, 0, 1, 10, 0, 0, 0, []) := rfl
theorem i_X9_wordOf_93 : tab t_X9_wordOf 93 = some (.areturn, 1, 0, 0, 0, 0, 0, 0, 0, 0, []) := rfl
theorem i_X9_wordOf_94 : tab t_X9_wordOf 94 = some (.ldc 251, 2, 0, 0, 0, 1, 11, 0, 0, 0, []) := rfl
theorem i_X9_wordOf_96 : tab t_X9_wordOf 96 = some (.areturn, 1, 0, 0, 0, 0, 0, 0, 0, 0, []) := rfl
theorem i_X9_wordOf_97 : tab t_X9_wordOf 97 = some (.ldc 253, 2, 0, 0, 0, 1, 12, 0, 0, 0, []) := rfl
theorem i_X9_wordOf_99 : tab t_X9_wordOf 99 = some (.areturn, 1, 0, 0, 0, 0, 0, 0, 0, 0, []) := rfl
theorem i_X9_wordOf_100 : tab t_X9_wordOf 100 = some (.ldc 255, 2, 0, 0, 0, 1, 13, 0, 0, 0, []) := rfl
theorem i_X9_wordOf_102 : tab t_X9_wordOf 102 = some (.areturn, 1, 0, 0, 0, 0, 0, 0, 0, 0, []) := rfl
def t_X9_clauseOf : List (Nat × rw_) := [(0, (.iload_n 0, 1, 0, 0, 0, 0, 0, 0, 0, 0, [])), (1, (.ifCond .ne 9, 3, 10, 0, 0, 0, 0, 0, 0, 0, [])), (7, (.goto 17, 3, 24, 0, 0, 0, 0, 0, 0, 0, [])), (10, (.iload_n 0, 1, 0, 0, 0, 0, 0, 0, 0, 0, [])), (11, (.iconst 1, 1, 0, 1, 0, 0, 0, 0, 0, 0, [])), (12, (.if_icmp .ne 9, 3, 21, 0, 0, 0, 0, 0, 0, 0, [])), (18, (.goto 6, 3, 24, 0, 0, 0, 0, 0, 0, 0, [])), (24, (.areturn, 1, 0, 0, 0, 0, 0, 0, 0, 0, []))]
set_option maxRecDepth 100000 in
theorem ok_X9_clauseOf : tb_ok ctX9 m_X9_clauseOf t_X9_clauseOf = true := by decide +kernel
theorem i_X9_clauseOf_0 : tab t_X9_clauseOf 0 = some (.iload_n 0, 1, 0, 0, 0, 0, 0, 0, 0, 0, []) := rfl
theorem i_X9_clauseOf_1 : tab t_X9_clauseOf 1 = some (.ifCond .ne 9, 3, 10, 0, 0, 0, 0, 0, 0, 0, []) := rfl
theorem i_X9_clauseOf_7 : tab t_X9_clauseOf 7 = some (.goto 17, 3, 24, 0, 0, 0, 0, 0, 0, 0, []) := rfl
theorem i_X9_clauseOf_10 : tab t_X9_clauseOf 10 = some (.iload_n 0, 1, 0, 0, 0, 0, 0, 0, 0, 0, []) := rfl
theorem i_X9_clauseOf_11 : tab t_X9_clauseOf 11 = some (.iconst 1, 1, 0, 1, 0, 0, 0, 0, 0, 0, []) := rfl
theorem i_X9_clauseOf_12 : tab t_X9_clauseOf 12 = some (.if_icmp .ne 9, 3, 21, 0, 0, 0, 0, 0, 0, 0, []) := rfl
theorem i_X9_clauseOf_18 : tab t_X9_clauseOf 18 = some (.goto 6, 3, 24, 0, 0, 0, 0, 0, 0, 0, []) := rfl
theorem i_X9_clauseOf_24 : tab t_X9_clauseOf 24 = some (.areturn, 1, 0, 0, 0, 0, 0, 0, 0, 0, []) := rfl
def t_X9_keyName : List (Nat × rw_) := [(0, (.iload_n 0, 1, 0, 0, 0, 0, 0, 0, 0, 0, [])), (1, (.tableswitch 58 0 5 #[39, 42, 46, 49, 52, 55], 39, 59, 0, 0, 0, 0, 0, 0, 0, [(0, 40), (1, 43), (2, 47), (3, 50), (4, 53), (5, 56)])), (40, (.ldc 244, 2, 0, 0, 0, 1, 7, 0, 0, 0, [])), (42, (.areturn, 1, 0, 0, 0, 0, 0, 0, 0, 0, [])), (46, (.areturn, 1, 0, 0, 0, 0, 0, 0, 0, 0, [])), (47, (.ldc 241, 2, 0, 0, 0, 1, 5, 0, 0, 0, [])), (49, (.areturn, 1, 0, 0, 0, 0, 0, 0, 0, 0, [])), (50, (.ldc 238, 2, 0, 0, 0, 1, 2, 0, 0, 0, [])), (52, (.areturn, 1, 0, 0, 0, 0, 0, 0, 0, 0, [])), (53, (.ldc 239, 2, 0, 0, 0, 1, 3, 0, 0, 0, [])), (55, (.areturn, 1, 0, 0, 0, 0, 0, 0, 0, 0, [])), (56, (.ldc 242, 2, 0, 0, 0, 1, 6, 0, 0, 0, [])), (58, (.areturn, 1, 0, 0, 0, 0, 0, 0, 0, 0, [])), (59, (.ldc 247, 2, 0, 0, 0, 1, 9, 0, 0, 0, [])), (61, (.areturn, 1, 0, 0, 0, 0, 0, 0, 0, 0, []))]
set_option maxRecDepth 100000 in
theorem ok_X9_keyName : tb_ok ctX9 m_X9_keyName t_X9_keyName = true := by decide +kernel
theorem i_X9_keyName_0 : tab t_X9_keyName 0 = some (.iload_n 0, 1, 0, 0, 0, 0, 0, 0, 0, 0, []) := rfl
theorem i_X9_keyName_1 : tab t_X9_keyName 1 = some (.tableswitch 58 0 5 #[39, 42, 46, 49, 52, 55], 39, 59, 0, 0, 0, 0, 0, 0, 0, [(0, 40), (1, 43), (2, 47), (3, 50), (4, 53), (5, 56)]) := rfl
theorem i_X9_keyName_40 : tab t_X9_keyName 40 = some (.ldc 244, 2, 0, 0, 0, 1, 7, 0, 0, 0, []) := rfl
theorem i_X9_keyName_42 : tab t_X9_keyName 42 = some (.areturn, 1, 0, 0, 0, 0, 0, 0, 0, 0, []) := rfl
theorem i_X9_keyName_46 : tab t_X9_keyName 46 = some (.areturn, 1, 0, 0, 0, 0, 0, 0, 0, 0, []) := rfl
theorem i_X9_keyName_47 : tab t_X9_keyName 47 = some (.ldc 241, 2, 0, 0, 0, 1, 5, 0, 0, 0, []) := rfl
theorem i_X9_keyName_49 : tab t_X9_keyName 49 = some (.areturn, 1, 0, 0, 0, 0, 0, 0, 0, 0, []) := rfl
theorem i_X9_keyName_50 : tab t_X9_keyName 50 = some (.ldc 238, 2, 0, 0, 0, 1, 2, 0, 0, 0, []) := rfl
theorem i_X9_keyName_52 : tab t_X9_keyName 52 = some (.areturn, 1, 0, 0, 0, 0, 0, 0, 0, 0, []) := rfl
theorem i_X9_keyName_53 : tab t_X9_keyName 53 = some (.ldc 239, 2, 0, 0, 0, 1, 3, 0, 0, 0, []) := rfl
theorem i_X9_keyName_55 : tab t_X9_keyName 55 = some (.areturn, 1, 0, 0, 0, 0, 0, 0, 0, 0, []) := rfl
theorem i_X9_keyName_56 : tab t_X9_keyName 56 = some (.ldc 242, 2, 0, 0, 0, 1, 6, 0, 0, 0, []) := rfl
theorem i_X9_keyName_58 : tab t_X9_keyName 58 = some (.areturn, 1, 0, 0, 0, 0, 0, 0, 0, 0, []) := rfl
theorem i_X9_keyName_59 : tab t_X9_keyName 59 = some (.ldc 247, 2, 0, 0, 0, 1, 9, 0, 0, 0, []) := rfl
theorem i_X9_keyName_61 : tab t_X9_keyName 61 = some (.areturn, 1, 0, 0, 0, 0, 0, 0, 0, 0, []) := rfl
def t_X9_fails : List (Nat × rw_) := [(0, (.aload_n 0, 1, 0, 0, 0, 0, 0, 0, 0, 0, [])), (1, (.aload_n 0, 1, 0, 0, 0, 0, 0, 0, 0, 0, [])), (2, (.getfield 264, 3, 0, 0, 0, 9, 31, 0, 0, 0, [])), (5, (.ifCond .ne 14, 3, 19, 0, 0, 0, 0, 0, 0, 0, [])), (8, (.iconst 1, 1, 0, 1, 0, 0, 0, 0, 0, 0, [])), (9, (.bipush 8, 2, 0, 8, 0, 0, 0, 0, 0, 0, [])), (11, (.iload_n 2, 1, 2, 0, 0, 0, 0, 0, 0, 0, [])), (12, (.imul, 1, 0, 0, 0, 0, 0, 0, 0, 0, [])), (13, (.iadd, 1, 0, 0, 0, 0, 0, 0, 0, 0, [])), (14, (.iload_n 1, 1, 1, 0, 0, 0, 0, 0, 0, 0, [])), (15, (.iadd, 1, 0, 0, 0, 0, 0, 0, 0, 0, [])), (16, (.goto 7, 3, 23, 0, 0, 0, 0, 0, 0, 0, [])), (19, (.aload_n 0, 1, 0, 0, 0, 0, 0, 0, 0, 0, [])), (20, (.getfield 264, 3, 0, 0, 0, 9, 31, 0, 0, 0, [])), (23, (.putfield 264, 3, 0, 0, 0, 9, 31, 0, 0, 0, [])), (26, (.return_, 1, 0, 0, 0, 0, 0, 0, 0, 0, []))]
set_option maxRecDepth 100000 in
theorem ok_X9_fails : tb_ok ctX9 m_X9_fails t_X9_fails = true := by decide +kernel
theorem i_X9_fails_0 : tab t_X9_fails 0 = some (.aload_n 0, 1, 0, 0, 0, 0, 0, 0, 0, 0, []) := rfl
theorem i_X9_fails_1 : tab t_X9_fails 1 = some (.aload_n 0, 1, 0, 0, 0, 0, 0, 0, 0, 0, []) := rfl
theorem i_X9_fails_2 : tab t_X9_fails 2 = some (.getfield 264, 3, 0, 0, 0, 9, 31, 0, 0, 0, []) := rfl
theorem i_X9_fails_5 : tab t_X9_fails 5 = some (.ifCond .ne 14, 3, 19, 0, 0, 0, 0, 0, 0, 0, []) := rfl
theorem i_X9_fails_8 : tab t_X9_fails 8 = some (.iconst 1, 1, 0, 1, 0, 0, 0, 0, 0, 0, []) := rfl
theorem i_X9_fails_9 : tab t_X9_fails 9 = some (.bipush 8, 2, 0, 8, 0, 0, 0, 0, 0, 0, []) := rfl
theorem i_X9_fails_11 : tab t_X9_fails 11 = some (.iload_n 2, 1, 2, 0, 0, 0, 0, 0, 0, 0, []) := rfl
theorem i_X9_fails_12 : tab t_X9_fails 12 = some (.imul, 1, 0, 0, 0, 0, 0, 0, 0, 0, []) := rfl
theorem i_X9_fails_13 : tab t_X9_fails 13 = some (.iadd, 1, 0, 0, 0, 0, 0, 0, 0, 0, []) := rfl
theorem i_X9_fails_14 : tab t_X9_fails 14 = some (.iload_n 1, 1, 1, 0, 0, 0, 0, 0, 0, 0, []) := rfl
theorem i_X9_fails_15 : tab t_X9_fails 15 = some (.iadd, 1, 0, 0, 0, 0, 0, 0, 0, 0, []) := rfl
theorem i_X9_fails_16 : tab t_X9_fails 16 = some (.goto 7, 3, 23, 0, 0, 0, 0, 0, 0, 0, []) := rfl
theorem i_X9_fails_19 : tab t_X9_fails 19 = some (.aload_n 0, 1, 0, 0, 0, 0, 0, 0, 0, 0, []) := rfl
theorem i_X9_fails_20 : tab t_X9_fails 20 = some (.getfield 264, 3, 0, 0, 0, 9, 31, 0, 0, 0, []) := rfl
theorem i_X9_fails_23 : tab t_X9_fails 23 = some (.putfield 264, 3, 0, 0, 0, 9, 31, 0, 0, 0, []) := rfl
theorem i_X9_fails_26 : tab t_X9_fails 26 = some (.return_, 1, 0, 0, 0, 0, 0, 0, 0, 0, []) := rfl
def t_X9_sign : List (Nat × rw_) := [(0, (.aload_n 0, 1, 0, 0, 0, 0, 0, 0, 0, 0, [])), (1, (.getfield 267, 3, 0, 0, 0, 9, 30, 0, 0, 0, [])), (4, (.aload_n 0, 1, 0, 0, 0, 0, 0, 0, 0, 0, [])), (5, (.getfield 229, 3, 0, 0, 0, 9, 29, 0, 0, 0, [])), (8, (.if_icmp .ge 19, 3, 27, 0, 0, 0, 0, 0, 0, 0, [])), (11, (.aload_n 0, 1, 0, 0, 0, 0, 0, 0, 0, 0, [])), (12, (.getfield 77, 3, 2, 0, 0, 9, 37, 0, 0, 0, [])), (15, (.aload_n 0, 1, 0, 0, 0, 0, 0, 0, 0, 0, [])), (16, (.getfield 267, 3, 0, 0, 0, 9, 30, 0, 0, 0, [])), (19, (.baload, 1, 0, 0, 0, 0, 0, 0, 0, 0, [])), (20, (.sipush 255, 3, 0, 255, 0, 0, 0, 0, 0, 0, [])), (23, (.iand, 1, 0, 0, 0, 0, 0, 0, 0, 0, [])), (24, (.goto 4, 3, 28, 0, 0, 0, 0, 0, 0, 0, [])), (27, (.iconst (-1), 1, 0, -1, 0, 0, 0, 0, 0, 0, [])), (28, (.ireturn, 1, 0, 0, 0, 0, 0, 0, 0, 0, []))]
set_option maxRecDepth 100000 in
theorem ok_X9_sign : tb_ok ctX9 m_X9_sign t_X9_sign = true := by decide +kernel
theorem i_X9_sign_0 : tab t_X9_sign 0 = some (.aload_n 0, 1, 0, 0, 0, 0, 0, 0, 0, 0, []) := rfl
theorem i_X9_sign_1 : tab t_X9_sign 1 = some (.getfield 267, 3, 0, 0, 0, 9, 30, 0, 0, 0, []) := rfl
theorem i_X9_sign_4 : tab t_X9_sign 4 = some (.aload_n 0, 1, 0, 0, 0, 0, 0, 0, 0, 0, []) := rfl
theorem i_X9_sign_5 : tab t_X9_sign 5 = some (.getfield 229, 3, 0, 0, 0, 9, 29, 0, 0, 0, []) := rfl
theorem i_X9_sign_8 : tab t_X9_sign 8 = some (.if_icmp .ge 19, 3, 27, 0, 0, 0, 0, 0, 0, 0, []) := rfl
theorem i_X9_sign_11 : tab t_X9_sign 11 = some (.aload_n 0, 1, 0, 0, 0, 0, 0, 0, 0, 0, []) := rfl
theorem i_X9_sign_12 : tab t_X9_sign 12 = some (.getfield 77, 3, 2, 0, 0, 9, 37, 0, 0, 0, []) := rfl
theorem i_X9_sign_15 : tab t_X9_sign 15 = some (.aload_n 0, 1, 0, 0, 0, 0, 0, 0, 0, 0, []) := rfl
theorem i_X9_sign_16 : tab t_X9_sign 16 = some (.getfield 267, 3, 0, 0, 0, 9, 30, 0, 0, 0, []) := rfl
theorem i_X9_sign_19 : tab t_X9_sign 19 = some (.baload, 1, 0, 0, 0, 0, 0, 0, 0, 0, []) := rfl
theorem i_X9_sign_20 : tab t_X9_sign 20 = some (.sipush 255, 3, 0, 255, 0, 0, 0, 0, 0, 0, []) := rfl
theorem i_X9_sign_23 : tab t_X9_sign 23 = some (.iand, 1, 0, 0, 0, 0, 0, 0, 0, 0, []) := rfl
theorem i_X9_sign_24 : tab t_X9_sign 24 = some (.goto 4, 3, 28, 0, 0, 0, 0, 0, 0, 0, []) := rfl
theorem i_X9_sign_27 : tab t_X9_sign 27 = some (.iconst (-1), 1, 0, -1, 0, 0, 0, 0, 0, 0, []) := rfl
theorem i_X9_sign_28 : tab t_X9_sign 28 = some (.ireturn, 1, 0, 0, 0, 0, 0, 0, 0, 0, []) := rfl
def t_X9_blanks : List (Nat × rw_) := [(0, (.aload_n 0, 1, 0, 0, 0, 0, 0, 0, 0, 0, [])), (1, (.invokevirtual 270, 3, 0, 0, 0, 0, 150, 10, 0, 0, [])), (4, (.bipush 32, 2, 0, 32, 0, 0, 0, 0, 0, 0, [])), (6, (.if_icmp .ne 16, 3, 22, 0, 0, 0, 0, 0, 0, 0, [])), (9, (.aload_n 0, 1, 0, 0, 0, 0, 0, 0, 0, 0, [])), (10, (.dup, 1, 0, 0, 0, 0, 0, 0, 0, 0, [])), (11, (.getfield 267, 3, 0, 0, 0, 9, 30, 0, 0, 0, [])), (14, (.iconst 1, 1, 0, 1, 0, 0, 0, 0, 0, 0, [])), (15, (.iadd, 1, 0, 0, 0, 0, 0, 0, 0, 0, [])), (16, (.putfield 267, 3, 0, 0, 0, 9, 30, 0, 0, 0, [])), (19, (.goto (-19), 3, 0, 0, 0, 0, 0, 0, 0, 0, [])), (22, (.return_, 1, 0, 0, 0, 0, 0, 0, 0, 0, []))]
set_option maxRecDepth 100000 in
theorem ok_X9_blanks : tb_ok ctX9 m_X9_blanks t_X9_blanks = true := by decide +kernel
theorem i_X9_blanks_0 : tab t_X9_blanks 0 = some (.aload_n 0, 1, 0, 0, 0, 0, 0, 0, 0, 0, []) := rfl
theorem i_X9_blanks_1 : tab t_X9_blanks 1 = some (.invokevirtual 270, 3, 0, 0, 0, 0, 150, 10, 0, 0, []) := rfl
theorem i_X9_blanks_4 : tab t_X9_blanks 4 = some (.bipush 32, 2, 0, 32, 0, 0, 0, 0, 0, 0, []) := rfl
theorem i_X9_blanks_6 : tab t_X9_blanks 6 = some (.if_icmp .ne 16, 3, 22, 0, 0, 0, 0, 0, 0, 0, []) := rfl
theorem i_X9_blanks_9 : tab t_X9_blanks 9 = some (.aload_n 0, 1, 0, 0, 0, 0, 0, 0, 0, 0, []) := rfl
theorem i_X9_blanks_10 : tab t_X9_blanks 10 = some (.dup, 1, 0, 0, 0, 0, 0, 0, 0, 0, []) := rfl
theorem i_X9_blanks_11 : tab t_X9_blanks 11 = some (.getfield 267, 3, 0, 0, 0, 9, 30, 0, 0, 0, []) := rfl
theorem i_X9_blanks_14 : tab t_X9_blanks 14 = some (.iconst 1, 1, 0, 1, 0, 0, 0, 0, 0, 0, []) := rfl
theorem i_X9_blanks_15 : tab t_X9_blanks 15 = some (.iadd, 1, 0, 0, 0, 0, 0, 0, 0, 0, []) := rfl
theorem i_X9_blanks_16 : tab t_X9_blanks 16 = some (.putfield 267, 3, 0, 0, 0, 9, 30, 0, 0, 0, []) := rfl
theorem i_X9_blanks_19 : tab t_X9_blanks 19 = some (.goto (-19), 3, 0, 0, 0, 0, 0, 0, 0, 0, []) := rfl
theorem i_X9_blanks_22 : tab t_X9_blanks 22 = some (.return_, 1, 0, 0, 0, 0, 0, 0, 0, 0, []) := rfl
def t_X9_isDigit : List (Nat × rw_) := [(0, (.aload_n 0, 1, 0, 0, 0, 0, 0, 0, 0, 0, [])), (1, (.invokevirtual 270, 3, 0, 0, 0, 0, 150, 10, 0, 0, [])), (4, (.i2l, 1, 0, 0, 0, 0, 0, 0, 0, 0, [])), (5, (.ldc2_w 274, 3, 0, 0, 48, 0, 0, 0, 0, 0, [])), (8, (.ldc2_w 276, 3, 0, 0, 57, 0, 0, 0, 0, 0, [])), (11, (.invokestatic 175, 3, 3, 0, 0, 0, 126, 0, 0, 0, [])), (14, (.ireturn, 1, 0, 0, 0, 1, 0, 0, 0, 0, []))]
set_option maxRecDepth 100000 in
theorem ok_X9_isDigit : tb_ok ctX9 m_X9_isDigit t_X9_isDigit = true := by decide +kernel
theorem i_X9_isDigit_0 : tab t_X9_isDigit 0 = some (.aload_n 0, 1, 0, 0, 0, 0, 0, 0, 0, 0, []) := rfl
theorem i_X9_isDigit_1 : tab t_X9_isDigit 1 = some (.invokevirtual 270, 3, 0, 0, 0, 0, 150, 10, 0, 0, []) := rfl
theorem i_X9_isDigit_4 : tab t_X9_isDigit 4 = some (.i2l, 1, 0, 0, 0, 0, 0, 0, 0, 0, []) := rfl
theorem i_X9_isDigit_5 : tab t_X9_isDigit 5 = some (.ldc2_w 274, 3, 0, 0, 48, 0, 0, 0, 0, 0, []) := rfl
theorem i_X9_isDigit_8 : tab t_X9_isDigit 8 = some (.ldc2_w 276, 3, 0, 0, 57, 0, 0, 0, 0, 0, []) := rfl
theorem i_X9_isDigit_11 : tab t_X9_isDigit 11 = some (.invokestatic 175, 3, 3, 0, 0, 0, 126, 0, 0, 0, []) := rfl
theorem i_X9_isDigit_14 : tab t_X9_isDigit 14 = some (.ireturn, 1, 0, 0, 0, 1, 0, 0, 0, 0, []) := rfl
def t_X9_stands : List (Nat × rw_) := [(0, (.aload_n 0, 1, 0, 0, 0, 0, 0, 0, 0, 0, [])), (1, (.getfield 267, 3, 0, 0, 0, 9, 30, 0, 0, 0, [])), (4, (.istore_n 2, 1, 2, 0, 0, 0, 0, 0, 0, 0, [])), (5, (.iload_n 2, 1, 2, 0, 0, 0, 0, 0, 0, 0, [])), (6, (.aload_n 0, 1, 0, 0, 0, 0, 0, 0, 0, 0, [])), (7, (.getfield 229, 3, 0, 0, 0, 9, 29, 0, 0, 0, [])), (10, (.if_icmp .ge 31, 3, 41, 0, 0, 0, 0, 0, 0, 0, [])), (13, (.aload_n 0, 1, 0, 0, 0, 0, 0, 0, 0, 0, [])), (14, (.getfield 77, 3, 2, 0, 0, 9, 37, 0, 0, 0, [])), (17, (.iload_n 2, 1, 2, 0, 0, 0, 0, 0, 0, 0, [])), (18, (.baload, 1, 0, 0, 0, 0, 0, 0, 0, 0, [])), (19, (.bipush 97, 2, 0, 97, 0, 0, 0, 0, 0, 0, [])), (21, (.if_icmp .lt 20, 3, 41, 0, 0, 0, 0, 0, 0, 0, [])), (24, (.aload_n 0, 1, 0, 0, 0, 0, 0, 0, 0, 0, [])), (25, (.getfield 77, 3, 2, 0, 0, 9, 37, 0, 0, 0, [])), (28, (.iload_n 2, 1, 2, 0, 0, 0, 0, 0, 0, 0, [])), (29, (.baload, 1, 0, 0, 0, 0, 0, 0, 0, 0, [])), (30, (.bipush 122, 2, 0, 122, 0, 0, 0, 0, 0, 0, [])), (32, (.if_icmp .gt 9, 3, 41, 0, 0, 0, 0, 0, 0, 0, [])), (35, (.iinc 2 1, 3, 2, 1, 0, 0, 0, 0, 0, 0, [])), (38, (.goto (-33), 3, 5, 0, 0, 0, 0, 0, 0, 0, [])), (41, (.iload_n 2, 1, 2, 0, 0, 0, 0, 0, 0, 0, [])), (42, (.aload_n 0, 1, 0, 0, 0, 0, 0, 0, 0, 0, [])), (43, (.getfield 267, 3, 0, 0, 0, 9, 30, 0, 0, 0, [])), (46, (.isub, 1, 0, 0, 0, 0, 0, 0, 0, 0, [])), (47, (.aload_n 1, 1, 1, 0, 0, 0, 0, 0, 0, 0, [])), (48, (.invokevirtual 278, 3, 0, 0, 0, 0, 231, 40, 0, 0, [])), (51, (.if_icmp .ne 7, 3, 58, 0, 0, 0, 0, 0, 0, 0, [])), (54, (.iconst 1, 1, 0, 1, 0, 0, 0, 0, 0, 0, [])), (55, (.goto 4, 3, 59, 0, 0, 0, 0, 0, 0, 0, [])), (58, (.iconst 0, 1, 0, 0, 0, 0, 0, 0, 0, 0, [])), (59, (.istore_n 3, 1, 3, 0, 0, 0, 0, 0, 0, 0, [])), (60, (.iconst 0, 1, 0, 0, 0, 0, 0, 0, 0, 0, [])), (61, (.istore 4, 2, 4, 0, 0, 0, 0, 0, 0, 0, [])), (63, (.iload 4, 2, 4, 0, 0, 0, 0, 0, 0, 0, [])), (65, (.aload_n 1, 1, 1, 0, 0, 0, 0, 0, 0, 0, [])), (66, (.invokevirtual 278, 3, 0, 0, 0, 0, 231, 40, 0, 0, [])), (69, (.if_icmp .ge 40, 3, 109, 0, 0, 0, 0, 0, 0, 0, [])), (72, (.iload_n 3, 1, 3, 0, 0, 0, 0, 0, 0, 0, [])), (73, (.ifCond .eq 36, 3, 109, 0, 0, 0, 0, 0, 0, 0, [])), (76, (.aload_n 0, 1, 0, 0, 0, 0, 0, 0, 0, 0, [])), (77, (.getfield 77, 3, 2, 0, 0, 9, 37, 0, 0, 0, [])), (80, (.aload_n 0, 1, 0, 0, 0, 0, 0, 0, 0, 0, [])), (81, (.getfield 267, 3, 0, 0, 0, 9, 30, 0, 0, 0, [])), (84, (.iload 4, 2, 4, 0, 0, 0, 0, 0, 0, 0, [])), (86, (.iadd, 1, 0, 0, 0, 0, 0, 0, 0, 0, [])), (87, (.baload, 1, 0, 0, 0, 0, 0, 0, 0, 0, [])), (88, (.aload_n 1, 1, 1, 0, 0, 0, 0, 0, 0, 0, [])), (89, (.iload 4, 2, 4, 0, 0, 0, 0, 0, 0, 0, [])), (91, (.invokevirtual 283, 3, 1, 0, 0, 0, 232, 40, 0, 0, [])), (94, (.if_icmp .ne 7, 3, 101, 0, 0, 0, 0, 0, 0, 0, [])), (97, (.iconst 1, 1, 0, 1, 0, 0, 0, 0, 0, 0, [])), (98, (.goto 4, 3, 102, 0, 0, 0, 0, 0, 0, 0, [])), (101, (.iconst 0, 1, 0, 0, 0, 0, 0, 0, 0, 0, [])), (102, (.istore_n 3, 1, 3, 0, 0, 0, 0, 0, 0, 0, [])), (103, (.iinc 4 1, 3, 4, 1, 0, 0, 0, 0, 0, 0, [])), (106, (.goto (-43), 3, 63, 0, 0, 0, 0, 0, 0, 0, [])), (109, (.iload_n 3, 1, 3, 0, 0, 0, 0, 0, 0, 0, [])), (110, (.ireturn, 1, 0, 0, 0, 1, 0, 0, 0, 0, []))]
set_option maxRecDepth 100000 in
theorem ok_X9_stands : tb_ok ctX9 m_X9_stands t_X9_stands = true := by decide +kernel
theorem i_X9_stands_0 : tab t_X9_stands 0 = some (.aload_n 0, 1, 0, 0, 0, 0, 0, 0, 0, 0, []) := rfl
theorem i_X9_stands_1 : tab t_X9_stands 1 = some (.getfield 267, 3, 0, 0, 0, 9, 30, 0, 0, 0, []) := rfl
theorem i_X9_stands_4 : tab t_X9_stands 4 = some (.istore_n 2, 1, 2, 0, 0, 0, 0, 0, 0, 0, []) := rfl
theorem i_X9_stands_5 : tab t_X9_stands 5 = some (.iload_n 2, 1, 2, 0, 0, 0, 0, 0, 0, 0, []) := rfl
theorem i_X9_stands_6 : tab t_X9_stands 6 = some (.aload_n 0, 1, 0, 0, 0, 0, 0, 0, 0, 0, []) := rfl
theorem i_X9_stands_7 : tab t_X9_stands 7 = some (.getfield 229, 3, 0, 0, 0, 9, 29, 0, 0, 0, []) := rfl
theorem i_X9_stands_10 : tab t_X9_stands 10 = some (.if_icmp .ge 31, 3, 41, 0, 0, 0, 0, 0, 0, 0, []) := rfl
theorem i_X9_stands_13 : tab t_X9_stands 13 = some (.aload_n 0, 1, 0, 0, 0, 0, 0, 0, 0, 0, []) := rfl
theorem i_X9_stands_14 : tab t_X9_stands 14 = some (.getfield 77, 3, 2, 0, 0, 9, 37, 0, 0, 0, []) := rfl
theorem i_X9_stands_17 : tab t_X9_stands 17 = some (.iload_n 2, 1, 2, 0, 0, 0, 0, 0, 0, 0, []) := rfl
theorem i_X9_stands_18 : tab t_X9_stands 18 = some (.baload, 1, 0, 0, 0, 0, 0, 0, 0, 0, []) := rfl
theorem i_X9_stands_19 : tab t_X9_stands 19 = some (.bipush 97, 2, 0, 97, 0, 0, 0, 0, 0, 0, []) := rfl
theorem i_X9_stands_21 : tab t_X9_stands 21 = some (.if_icmp .lt 20, 3, 41, 0, 0, 0, 0, 0, 0, 0, []) := rfl
theorem i_X9_stands_24 : tab t_X9_stands 24 = some (.aload_n 0, 1, 0, 0, 0, 0, 0, 0, 0, 0, []) := rfl
theorem i_X9_stands_25 : tab t_X9_stands 25 = some (.getfield 77, 3, 2, 0, 0, 9, 37, 0, 0, 0, []) := rfl
theorem i_X9_stands_28 : tab t_X9_stands 28 = some (.iload_n 2, 1, 2, 0, 0, 0, 0, 0, 0, 0, []) := rfl
theorem i_X9_stands_29 : tab t_X9_stands 29 = some (.baload, 1, 0, 0, 0, 0, 0, 0, 0, 0, []) := rfl
theorem i_X9_stands_30 : tab t_X9_stands 30 = some (.bipush 122, 2, 0, 122, 0, 0, 0, 0, 0, 0, []) := rfl
theorem i_X9_stands_32 : tab t_X9_stands 32 = some (.if_icmp .gt 9, 3, 41, 0, 0, 0, 0, 0, 0, 0, []) := rfl
theorem i_X9_stands_35 : tab t_X9_stands 35 = some (.iinc 2 1, 3, 2, 1, 0, 0, 0, 0, 0, 0, []) := rfl
theorem i_X9_stands_38 : tab t_X9_stands 38 = some (.goto (-33), 3, 5, 0, 0, 0, 0, 0, 0, 0, []) := rfl
theorem i_X9_stands_41 : tab t_X9_stands 41 = some (.iload_n 2, 1, 2, 0, 0, 0, 0, 0, 0, 0, []) := rfl
theorem i_X9_stands_42 : tab t_X9_stands 42 = some (.aload_n 0, 1, 0, 0, 0, 0, 0, 0, 0, 0, []) := rfl
theorem i_X9_stands_43 : tab t_X9_stands 43 = some (.getfield 267, 3, 0, 0, 0, 9, 30, 0, 0, 0, []) := rfl
theorem i_X9_stands_46 : tab t_X9_stands 46 = some (.isub, 1, 0, 0, 0, 0, 0, 0, 0, 0, []) := rfl
theorem i_X9_stands_47 : tab t_X9_stands 47 = some (.aload_n 1, 1, 1, 0, 0, 0, 0, 0, 0, 0, []) := rfl
theorem i_X9_stands_48 : tab t_X9_stands 48 = some (.invokevirtual 278, 3, 0, 0, 0, 0, 231, 40, 0, 0, []) := rfl
theorem i_X9_stands_51 : tab t_X9_stands 51 = some (.if_icmp .ne 7, 3, 58, 0, 0, 0, 0, 0, 0, 0, []) := rfl
theorem i_X9_stands_54 : tab t_X9_stands 54 = some (.iconst 1, 1, 0, 1, 0, 0, 0, 0, 0, 0, []) := rfl
theorem i_X9_stands_55 : tab t_X9_stands 55 = some (.goto 4, 3, 59, 0, 0, 0, 0, 0, 0, 0, []) := rfl
theorem i_X9_stands_58 : tab t_X9_stands 58 = some (.iconst 0, 1, 0, 0, 0, 0, 0, 0, 0, 0, []) := rfl
theorem i_X9_stands_59 : tab t_X9_stands 59 = some (.istore_n 3, 1, 3, 0, 0, 0, 0, 0, 0, 0, []) := rfl
theorem i_X9_stands_60 : tab t_X9_stands 60 = some (.iconst 0, 1, 0, 0, 0, 0, 0, 0, 0, 0, []) := rfl
theorem i_X9_stands_61 : tab t_X9_stands 61 = some (.istore 4, 2, 4, 0, 0, 0, 0, 0, 0, 0, []) := rfl
theorem i_X9_stands_63 : tab t_X9_stands 63 = some (.iload 4, 2, 4, 0, 0, 0, 0, 0, 0, 0, []) := rfl
theorem i_X9_stands_65 : tab t_X9_stands 65 = some (.aload_n 1, 1, 1, 0, 0, 0, 0, 0, 0, 0, []) := rfl
theorem i_X9_stands_66 : tab t_X9_stands 66 = some (.invokevirtual 278, 3, 0, 0, 0, 0, 231, 40, 0, 0, []) := rfl
theorem i_X9_stands_69 : tab t_X9_stands 69 = some (.if_icmp .ge 40, 3, 109, 0, 0, 0, 0, 0, 0, 0, []) := rfl
theorem i_X9_stands_72 : tab t_X9_stands 72 = some (.iload_n 3, 1, 3, 0, 0, 0, 0, 0, 0, 0, []) := rfl
theorem i_X9_stands_73 : tab t_X9_stands 73 = some (.ifCond .eq 36, 3, 109, 0, 0, 0, 0, 0, 0, 0, []) := rfl
theorem i_X9_stands_76 : tab t_X9_stands 76 = some (.aload_n 0, 1, 0, 0, 0, 0, 0, 0, 0, 0, []) := rfl
theorem i_X9_stands_77 : tab t_X9_stands 77 = some (.getfield 77, 3, 2, 0, 0, 9, 37, 0, 0, 0, []) := rfl
theorem i_X9_stands_80 : tab t_X9_stands 80 = some (.aload_n 0, 1, 0, 0, 0, 0, 0, 0, 0, 0, []) := rfl
theorem i_X9_stands_81 : tab t_X9_stands 81 = some (.getfield 267, 3, 0, 0, 0, 9, 30, 0, 0, 0, []) := rfl
theorem i_X9_stands_84 : tab t_X9_stands 84 = some (.iload 4, 2, 4, 0, 0, 0, 0, 0, 0, 0, []) := rfl
theorem i_X9_stands_86 : tab t_X9_stands 86 = some (.iadd, 1, 0, 0, 0, 0, 0, 0, 0, 0, []) := rfl
theorem i_X9_stands_87 : tab t_X9_stands 87 = some (.baload, 1, 0, 0, 0, 0, 0, 0, 0, 0, []) := rfl
theorem i_X9_stands_88 : tab t_X9_stands 88 = some (.aload_n 1, 1, 1, 0, 0, 0, 0, 0, 0, 0, []) := rfl
theorem i_X9_stands_89 : tab t_X9_stands 89 = some (.iload 4, 2, 4, 0, 0, 0, 0, 0, 0, 0, []) := rfl
theorem i_X9_stands_91 : tab t_X9_stands 91 = some (.invokevirtual 283, 3, 1, 0, 0, 0, 232, 40, 0, 0, []) := rfl
theorem i_X9_stands_94 : tab t_X9_stands 94 = some (.if_icmp .ne 7, 3, 101, 0, 0, 0, 0, 0, 0, 0, []) := rfl
theorem i_X9_stands_97 : tab t_X9_stands 97 = some (.iconst 1, 1, 0, 1, 0, 0, 0, 0, 0, 0, []) := rfl
theorem i_X9_stands_98 : tab t_X9_stands 98 = some (.goto 4, 3, 102, 0, 0, 0, 0, 0, 0, 0, []) := rfl
theorem i_X9_stands_101 : tab t_X9_stands 101 = some (.iconst 0, 1, 0, 0, 0, 0, 0, 0, 0, 0, []) := rfl
theorem i_X9_stands_102 : tab t_X9_stands 102 = some (.istore_n 3, 1, 3, 0, 0, 0, 0, 0, 0, 0, []) := rfl
theorem i_X9_stands_103 : tab t_X9_stands 103 = some (.iinc 4 1, 3, 4, 1, 0, 0, 0, 0, 0, 0, []) := rfl
theorem i_X9_stands_106 : tab t_X9_stands 106 = some (.goto (-43), 3, 63, 0, 0, 0, 0, 0, 0, 0, []) := rfl
theorem i_X9_stands_109 : tab t_X9_stands 109 = some (.iload_n 3, 1, 3, 0, 0, 0, 0, 0, 0, 0, []) := rfl
theorem i_X9_stands_110 : tab t_X9_stands 110 = some (.ireturn, 1, 0, 0, 0, 1, 0, 0, 0, 0, []) := rfl
def t_X9_takes : List (Nat × rw_) := [(0, (.aload_n 0, 1, 0, 0, 0, 0, 0, 0, 0, 0, [])), (1, (.invokevirtual 287, 3, 0, 0, 0, 0, 151, 10, 0, 0, [])), (4, (.aload_n 0, 1, 0, 0, 0, 0, 0, 0, 0, 0, [])), (5, (.aload_n 1, 1, 1, 0, 0, 0, 0, 0, 0, 0, [])), (6, (.invokevirtual 290, 3, 1, 0, 0, 0, 153, 10, 0, 0, [])), (9, (.istore_n 2, 1, 2, 0, 0, 0, 0, 0, 0, 0, [])), (10, (.aload_n 0, 1, 0, 0, 0, 0, 0, 0, 0, 0, [])), (11, (.dup, 1, 0, 0, 0, 0, 0, 0, 0, 0, [])), (12, (.getfield 267, 3, 0, 0, 0, 9, 30, 0, 0, 0, [])), (15, (.iload_n 2, 1, 2, 0, 0, 0, 0, 0, 0, 0, [])), (16, (.ifCond .eq 10, 3, 26, 0, 0, 0, 0, 0, 0, 0, [])), (19, (.aload_n 1, 1, 1, 0, 0, 0, 0, 0, 0, 0, [])), (20, (.invokevirtual 278, 3, 0, 0, 0, 0, 231, 40, 0, 0, [])), (23, (.goto 4, 3, 27, 0, 0, 0, 0, 0, 0, 0, [])), (26, (.iconst 0, 1, 0, 0, 0, 0, 0, 0, 0, 0, [])), (27, (.iadd, 1, 0, 0, 0, 0, 0, 0, 0, 0, [])), (28, (.putfield 267, 3, 0, 0, 0, 9, 30, 0, 0, 0, [])), (31, (.iload_n 2, 1, 2, 0, 0, 0, 0, 0, 0, 0, [])), (32, (.ireturn, 1, 0, 0, 0, 1, 0, 0, 0, 0, []))]
set_option maxRecDepth 100000 in
theorem ok_X9_takes : tb_ok ctX9 m_X9_takes t_X9_takes = true := by decide +kernel
theorem i_X9_takes_0 : tab t_X9_takes 0 = some (.aload_n 0, 1, 0, 0, 0, 0, 0, 0, 0, 0, []) := rfl
theorem i_X9_takes_1 : tab t_X9_takes 1 = some (.invokevirtual 287, 3, 0, 0, 0, 0, 151, 10, 0, 0, []) := rfl
theorem i_X9_takes_4 : tab t_X9_takes 4 = some (.aload_n 0, 1, 0, 0, 0, 0, 0, 0, 0, 0, []) := rfl
theorem i_X9_takes_5 : tab t_X9_takes 5 = some (.aload_n 1, 1, 1, 0, 0, 0, 0, 0, 0, 0, []) := rfl
theorem i_X9_takes_6 : tab t_X9_takes 6 = some (.invokevirtual 290, 3, 1, 0, 0, 0, 153, 10, 0, 0, []) := rfl
theorem i_X9_takes_9 : tab t_X9_takes 9 = some (.istore_n 2, 1, 2, 0, 0, 0, 0, 0, 0, 0, []) := rfl
theorem i_X9_takes_10 : tab t_X9_takes 10 = some (.aload_n 0, 1, 0, 0, 0, 0, 0, 0, 0, 0, []) := rfl
theorem i_X9_takes_11 : tab t_X9_takes 11 = some (.dup, 1, 0, 0, 0, 0, 0, 0, 0, 0, []) := rfl
theorem i_X9_takes_12 : tab t_X9_takes 12 = some (.getfield 267, 3, 0, 0, 0, 9, 30, 0, 0, 0, []) := rfl
theorem i_X9_takes_15 : tab t_X9_takes 15 = some (.iload_n 2, 1, 2, 0, 0, 0, 0, 0, 0, 0, []) := rfl
theorem i_X9_takes_16 : tab t_X9_takes 16 = some (.ifCond .eq 10, 3, 26, 0, 0, 0, 0, 0, 0, 0, []) := rfl
theorem i_X9_takes_19 : tab t_X9_takes 19 = some (.aload_n 1, 1, 1, 0, 0, 0, 0, 0, 0, 0, []) := rfl
theorem i_X9_takes_20 : tab t_X9_takes 20 = some (.invokevirtual 278, 3, 0, 0, 0, 0, 231, 40, 0, 0, []) := rfl
theorem i_X9_takes_23 : tab t_X9_takes 23 = some (.goto 4, 3, 27, 0, 0, 0, 0, 0, 0, 0, []) := rfl
theorem i_X9_takes_26 : tab t_X9_takes 26 = some (.iconst 0, 1, 0, 0, 0, 0, 0, 0, 0, 0, []) := rfl
theorem i_X9_takes_27 : tab t_X9_takes 27 = some (.iadd, 1, 0, 0, 0, 0, 0, 0, 0, 0, []) := rfl
theorem i_X9_takes_28 : tab t_X9_takes 28 = some (.putfield 267, 3, 0, 0, 0, 9, 30, 0, 0, 0, []) := rfl
theorem i_X9_takes_31 : tab t_X9_takes 31 = some (.iload_n 2, 1, 2, 0, 0, 0, 0, 0, 0, 0, []) := rfl
theorem i_X9_takes_32 : tab t_X9_takes 32 = some (.ireturn, 1, 0, 0, 0, 1, 0, 0, 0, 0, []) := rfl
def t_X9_entry : List (Nat × rw_) := [(0, (.aload_n 0, 1, 0, 0, 0, 0, 0, 0, 0, 0, [])), (1, (.getfield 264, 3, 0, 0, 0, 9, 31, 0, 0, 0, [])), (4, (.ifCond .ne 51, 3, 55, 0, 0, 0, 0, 0, 0, 0, [])), (7, (.aload_n 0, 1, 0, 0, 0, 0, 0, 0, 0, 0, [])), (8, (.getfield 81, 3, 2, 0, 0, 9, 38, 0, 0, 0, [])), (11, (.sipush 300, 3, 0, 300, 0, 0, 0, 0, 0, 0, [])), (14, (.aload_n 0, 1, 0, 0, 0, 0, 0, 0, 0, 0, [])), (15, (.getfield 294, 3, 0, 0, 0, 9, 32, 0, 0, 0, [])), (18, (.imul, 1, 0, 0, 0, 0, 0, 0, 0, 0, [])), (19, (.aload_n 0, 1, 0, 0, 0, 0, 0, 0, 0, 0, [])), (20, (.getfield 297, 3, 0, 0, 0, 9, 33, 0, 0, 0, [])), (23, (.iadd, 1, 0, 0, 0, 0, 0, 0, 0, 0, [])), (24, (.iload_n 1, 1, 1, 0, 0, 0, 0, 0, 0, 0, [])), (25, (.iastore, 1, 0, 0, 0, 0, 0, 0, 0, 0, [])), (26, (.aload_n 0, 1, 0, 0, 0, 0, 0, 0, 0, 0, [])), (27, (.getfield 84, 3, 2, 0, 0, 9, 39, 0, 0, 0, [])), (30, (.sipush 300, 3, 0, 300, 0, 0, 0, 0, 0, 0, [])), (33, (.aload_n 0, 1, 0, 0, 0, 0, 0, 0, 0, 0, [])), (34, (.getfield 294, 3, 0, 0, 0, 9, 32, 0, 0, 0, [])), (37, (.imul, 1, 0, 0, 0, 0, 0, 0, 0, 0, [])), (38, (.aload_n 0, 1, 0, 0, 0, 0, 0, 0, 0, 0, [])), (39, (.getfield 297, 3, 0, 0, 0, 9, 33, 0, 0, 0, [])), (42, (.iadd, 1, 0, 0, 0, 0, 0, 0, 0, 0, [])), (43, (.iload_n 2, 1, 2, 0, 0, 0, 0, 0, 0, 0, [])), (44, (.iastore, 1, 0, 0, 0, 0, 0, 0, 0, 0, [])), (45, (.aload_n 0, 1, 0, 0, 0, 0, 0, 0, 0, 0, [])), (46, (.dup, 1, 0, 0, 0, 0, 0, 0, 0, 0, [])), (47, (.getfield 297, 3, 0, 0, 0, 9, 33, 0, 0, 0, [])), (50, (.iconst 1, 1, 0, 1, 0, 0, 0, 0, 0, 0, [])), (51, (.iadd, 1, 0, 0, 0, 0, 0, 0, 0, 0, [])), (52, (.putfield 297, 3, 0, 0, 0, 9, 33, 0, 0, 0, [])), (55, (.return_, 1, 0, 0, 0, 0, 0, 0, 0, 0, []))]
set_option maxRecDepth 100000 in
theorem ok_X9_entry : tb_ok ctX9 m_X9_entry t_X9_entry = true := by decide +kernel
theorem i_X9_entry_0 : tab t_X9_entry 0 = some (.aload_n 0, 1, 0, 0, 0, 0, 0, 0, 0, 0, []) := rfl
theorem i_X9_entry_1 : tab t_X9_entry 1 = some (.getfield 264, 3, 0, 0, 0, 9, 31, 0, 0, 0, []) := rfl
theorem i_X9_entry_4 : tab t_X9_entry 4 = some (.ifCond .ne 51, 3, 55, 0, 0, 0, 0, 0, 0, 0, []) := rfl
theorem i_X9_entry_7 : tab t_X9_entry 7 = some (.aload_n 0, 1, 0, 0, 0, 0, 0, 0, 0, 0, []) := rfl
theorem i_X9_entry_8 : tab t_X9_entry 8 = some (.getfield 81, 3, 2, 0, 0, 9, 38, 0, 0, 0, []) := rfl
theorem i_X9_entry_11 : tab t_X9_entry 11 = some (.sipush 300, 3, 0, 300, 0, 0, 0, 0, 0, 0, []) := rfl
theorem i_X9_entry_14 : tab t_X9_entry 14 = some (.aload_n 0, 1, 0, 0, 0, 0, 0, 0, 0, 0, []) := rfl
theorem i_X9_entry_15 : tab t_X9_entry 15 = some (.getfield 294, 3, 0, 0, 0, 9, 32, 0, 0, 0, []) := rfl
theorem i_X9_entry_18 : tab t_X9_entry 18 = some (.imul, 1, 0, 0, 0, 0, 0, 0, 0, 0, []) := rfl
theorem i_X9_entry_19 : tab t_X9_entry 19 = some (.aload_n 0, 1, 0, 0, 0, 0, 0, 0, 0, 0, []) := rfl
theorem i_X9_entry_20 : tab t_X9_entry 20 = some (.getfield 297, 3, 0, 0, 0, 9, 33, 0, 0, 0, []) := rfl
theorem i_X9_entry_23 : tab t_X9_entry 23 = some (.iadd, 1, 0, 0, 0, 0, 0, 0, 0, 0, []) := rfl
theorem i_X9_entry_24 : tab t_X9_entry 24 = some (.iload_n 1, 1, 1, 0, 0, 0, 0, 0, 0, 0, []) := rfl
theorem i_X9_entry_25 : tab t_X9_entry 25 = some (.iastore, 1, 0, 0, 0, 0, 0, 0, 0, 0, []) := rfl
theorem i_X9_entry_26 : tab t_X9_entry 26 = some (.aload_n 0, 1, 0, 0, 0, 0, 0, 0, 0, 0, []) := rfl
theorem i_X9_entry_27 : tab t_X9_entry 27 = some (.getfield 84, 3, 2, 0, 0, 9, 39, 0, 0, 0, []) := rfl
theorem i_X9_entry_30 : tab t_X9_entry 30 = some (.sipush 300, 3, 0, 300, 0, 0, 0, 0, 0, 0, []) := rfl
theorem i_X9_entry_33 : tab t_X9_entry 33 = some (.aload_n 0, 1, 0, 0, 0, 0, 0, 0, 0, 0, []) := rfl
theorem i_X9_entry_34 : tab t_X9_entry 34 = some (.getfield 294, 3, 0, 0, 0, 9, 32, 0, 0, 0, []) := rfl
theorem i_X9_entry_37 : tab t_X9_entry 37 = some (.imul, 1, 0, 0, 0, 0, 0, 0, 0, 0, []) := rfl
theorem i_X9_entry_38 : tab t_X9_entry 38 = some (.aload_n 0, 1, 0, 0, 0, 0, 0, 0, 0, 0, []) := rfl
theorem i_X9_entry_39 : tab t_X9_entry 39 = some (.getfield 297, 3, 0, 0, 0, 9, 33, 0, 0, 0, []) := rfl
theorem i_X9_entry_42 : tab t_X9_entry 42 = some (.iadd, 1, 0, 0, 0, 0, 0, 0, 0, 0, []) := rfl
theorem i_X9_entry_43 : tab t_X9_entry 43 = some (.iload_n 2, 1, 2, 0, 0, 0, 0, 0, 0, 0, []) := rfl
theorem i_X9_entry_44 : tab t_X9_entry 44 = some (.iastore, 1, 0, 0, 0, 0, 0, 0, 0, 0, []) := rfl
theorem i_X9_entry_45 : tab t_X9_entry 45 = some (.aload_n 0, 1, 0, 0, 0, 0, 0, 0, 0, 0, []) := rfl
theorem i_X9_entry_46 : tab t_X9_entry 46 = some (.dup, 1, 0, 0, 0, 0, 0, 0, 0, 0, []) := rfl
theorem i_X9_entry_47 : tab t_X9_entry 47 = some (.getfield 297, 3, 0, 0, 0, 9, 33, 0, 0, 0, []) := rfl
theorem i_X9_entry_50 : tab t_X9_entry 50 = some (.iconst 1, 1, 0, 1, 0, 0, 0, 0, 0, 0, []) := rfl
theorem i_X9_entry_51 : tab t_X9_entry 51 = some (.iadd, 1, 0, 0, 0, 0, 0, 0, 0, 0, []) := rfl
theorem i_X9_entry_52 : tab t_X9_entry 52 = some (.putfield 297, 3, 0, 0, 0, 9, 33, 0, 0, 0, []) := rfl
theorem i_X9_entry_55 : tab t_X9_entry 55 = some (.return_, 1, 0, 0, 0, 0, 0, 0, 0, 0, []) := rfl
def t_X9_isCounted : List (Nat × rw_) := [(0, (.aload_n 0, 1, 0, 0, 0, 0, 0, 0, 0, 0, [])), (1, (.getfield 300, 3, 0, 0, 0, 9, 35, 0, 0, 0, [])), (4, (.bipush 60, 2, 0, 60, 0, 0, 0, 0, 0, 0, [])), (6, (.if_icmp .ne 9, 3, 15, 0, 0, 0, 0, 0, 0, 0, [])), (9, (.aload_n 0, 1, 0, 0, 0, 0, 0, 0, 0, 0, [])), (10, (.iconst 3, 1, 0, 3, 0, 0, 0, 0, 0, 0, [])), (11, (.iload_n 1, 1, 1, 0, 0, 0, 0, 0, 0, 0, [])), (12, (.invokevirtual 303, 3, 2, 0, 0, 0, 149, 10, 0, 0, [])), (15, (.aload_n 0, 1, 0, 0, 0, 0, 0, 0, 0, 0, [])), (16, (.dup, 1, 0, 0, 0, 0, 0, 0, 0, 0, [])), (17, (.getfield 300, 3, 0, 0, 0, 9, 35, 0, 0, 0, [])), (20, (.iconst 1, 1, 0, 1, 0, 0, 0, 0, 0, 0, [])), (21, (.iadd, 1, 0, 0, 0, 0, 0, 0, 0, 0, [])), (22, (.putfield 300, 3, 0, 0, 0, 9, 35, 0, 0, 0, [])), (25, (.return_, 1, 0, 0, 0, 0, 0, 0, 0, 0, []))]
set_option maxRecDepth 100000 in
theorem ok_X9_isCounted : tb_ok ctX9 m_X9_isCounted t_X9_isCounted = true := by decide +kernel
theorem i_X9_isCounted_0 : tab t_X9_isCounted 0 = some (.aload_n 0, 1, 0, 0, 0, 0, 0, 0, 0, 0, []) := rfl
theorem i_X9_isCounted_1 : tab t_X9_isCounted 1 = some (.getfield 300, 3, 0, 0, 0, 9, 35, 0, 0, 0, []) := rfl
theorem i_X9_isCounted_4 : tab t_X9_isCounted 4 = some (.bipush 60, 2, 0, 60, 0, 0, 0, 0, 0, 0, []) := rfl
theorem i_X9_isCounted_6 : tab t_X9_isCounted 6 = some (.if_icmp .ne 9, 3, 15, 0, 0, 0, 0, 0, 0, 0, []) := rfl
theorem i_X9_isCounted_9 : tab t_X9_isCounted 9 = some (.aload_n 0, 1, 0, 0, 0, 0, 0, 0, 0, 0, []) := rfl
theorem i_X9_isCounted_10 : tab t_X9_isCounted 10 = some (.iconst 3, 1, 0, 3, 0, 0, 0, 0, 0, 0, []) := rfl
theorem i_X9_isCounted_11 : tab t_X9_isCounted 11 = some (.iload_n 1, 1, 1, 0, 0, 0, 0, 0, 0, 0, []) := rfl
theorem i_X9_isCounted_12 : tab t_X9_isCounted 12 = some (.invokevirtual 303, 3, 2, 0, 0, 0, 149, 10, 0, 0, []) := rfl
theorem i_X9_isCounted_15 : tab t_X9_isCounted 15 = some (.aload_n 0, 1, 0, 0, 0, 0, 0, 0, 0, 0, []) := rfl
theorem i_X9_isCounted_16 : tab t_X9_isCounted 16 = some (.dup, 1, 0, 0, 0, 0, 0, 0, 0, 0, []) := rfl
theorem i_X9_isCounted_17 : tab t_X9_isCounted 17 = some (.getfield 300, 3, 0, 0, 0, 9, 35, 0, 0, 0, []) := rfl
theorem i_X9_isCounted_20 : tab t_X9_isCounted 20 = some (.iconst 1, 1, 0, 1, 0, 0, 0, 0, 0, 0, []) := rfl
theorem i_X9_isCounted_21 : tab t_X9_isCounted 21 = some (.iadd, 1, 0, 0, 0, 0, 0, 0, 0, 0, []) := rfl
theorem i_X9_isCounted_22 : tab t_X9_isCounted 22 = some (.putfield 300, 3, 0, 0, 0, 9, 35, 0, 0, 0, []) := rfl
theorem i_X9_isCounted_25 : tab t_X9_isCounted 25 = some (.return_, 1, 0, 0, 0, 0, 0, 0, 0, 0, []) := rfl
def t_X9_digits : List (Nat × rw_) := [(0, (.aload_n 0, 1, 0, 0, 0, 0, 0, 0, 0, 0, [])), (1, (.invokevirtual 307, 3, 0, 0, 0, 0, 152, 10, 0, 0, [])), (4, (.ifCond .ne 14, 3, 18, 0, 0, 0, 0, 0, 0, 0, [])), (7, (.aload_n 0, 1, 0, 0, 0, 0, 0, 0, 0, 0, [])), (8, (.iconst 0, 1, 0, 0, 0, 0, 0, 0, 0, 0, [])), (9, (.aload_n 0, 1, 0, 0, 0, 0, 0, 0, 0, 0, [])), (10, (.getfield 267, 3, 0, 0, 0, 9, 30, 0, 0, 0, [])), (13, (.invokevirtual 303, 3, 2, 0, 0, 0, 149, 10, 0, 0, [])), (16, (.iconst 0, 1, 0, 0, 0, 0, 0, 0, 0, 0, [])), (17, (.ireturn, 1, 0, 0, 0, 0, 0, 0, 0, 0, [])), (18, (.aload_n 0, 1, 0, 0, 0, 0, 0, 0, 0, 0, [])), (19, (.getfield 267, 3, 0, 0, 0, 9, 30, 0, 0, 0, [])), (22, (.istore_n 2, 1, 2, 0, 0, 0, 0, 0, 0, 0, [])), (23, (.iconst 0, 1, 0, 0, 0, 0, 0, 0, 0, 0, [])), (24, (.istore_n 3, 1, 3, 0, 0, 0, 0, 0, 0, 0, [])), (25, (.aload_n 0, 1, 0, 0, 0, 0, 0, 0, 0, 0, [])), (26, (.invokevirtual 307, 3, 0, 0, 0, 0, 152, 10, 0, 0, [])), (29, (.ifCond .eq 43, 3, 72, 0, 0, 0, 0, 0, 0, 0, [])), (32, (.aload_n 0, 1, 0, 0, 0, 0, 0, 0, 0, 0, [])), (33, (.getfield 267, 3, 0, 0, 0, 9, 30, 0, 0, 0, [])), (36, (.iload_n 2, 1, 2, 0, 0, 0, 0, 0, 0, 0, [])), (37, (.isub, 1, 0, 0, 0, 0, 0, 0, 0, 0, [])), (38, (.iconst 4, 1, 0, 4, 0, 0, 0, 0, 0, 0, [])), (39, (.if_icmp .ge 18, 3, 57, 0, 0, 0, 0, 0, 0, 0, [])), (42, (.bipush 10, 2, 0, 10, 0, 0, 0, 0, 0, 0, [])), (44, (.iload_n 3, 1, 3, 0, 0, 0, 0, 0, 0, 0, [])), (45, (.imul, 1, 0, 0, 0, 0, 0, 0, 0, 0, [])), (46, (.aload_n 0, 1, 0, 0, 0, 0, 0, 0, 0, 0, [])), (47, (.invokevirtual 270, 3, 0, 0, 0, 0, 150, 10, 0, 0, [])), (50, (.iadd, 1, 0, 0, 0, 0, 0, 0, 0, 0, [])), (51, (.bipush 48, 2, 0, 48, 0, 0, 0, 0, 0, 0, [])), (53, (.isub, 1, 0, 0, 0, 0, 0, 0, 0, 0, [])), (54, (.goto 4, 3, 58, 0, 0, 0, 0, 0, 0, 0, [])), (57, (.iload_n 3, 1, 3, 0, 0, 0, 0, 0, 0, 0, [])), (58, (.istore_n 3, 1, 3, 0, 0, 0, 0, 0, 0, 0, [])), (59, (.aload_n 0, 1, 0, 0, 0, 0, 0, 0, 0, 0, [])), (60, (.dup, 1, 0, 0, 0, 0, 0, 0, 0, 0, [])), (61, (.getfield 267, 3, 0, 0, 0, 9, 30, 0, 0, 0, [])), (64, (.iconst 1, 1, 0, 1, 0, 0, 0, 0, 0, 0, [])), (65, (.iadd, 1, 0, 0, 0, 0, 0, 0, 0, 0, [])), (66, (.putfield 267, 3, 0, 0, 0, 9, 30, 0, 0, 0, [])), (69, (.goto (-44), 3, 25, 0, 0, 0, 0, 0, 0, 0, [])), (72, (.aload_n 0, 1, 0, 0, 0, 0, 0, 0, 0, 0, [])), (73, (.getfield 267, 3, 0, 0, 0, 9, 30, 0, 0, 0, [])), (76, (.iload_n 2, 1, 2, 0, 0, 0, 0, 0, 0, 0, [])), (77, (.isub, 1, 0, 0, 0, 0, 0, 0, 0, 0, [])), (78, (.iconst 4, 1, 0, 4, 0, 0, 0, 0, 0, 0, [])), (79, (.if_icmp .gt 8, 3, 87, 0, 0, 0, 0, 0, 0, 0, [])), (82, (.iload_n 3, 1, 3, 0, 0, 0, 0, 0, 0, 0, [])), (83, (.iload_n 1, 1, 1, 0, 0, 0, 0, 0, 0, 0, [])), (84, (.if_icmp .le 9, 3, 93, 0, 0, 0, 0, 0, 0, 0, [])), (87, (.aload_n 0, 1, 0, 0, 0, 0, 0, 0, 0, 0, [])), (88, (.iconst 1, 1, 0, 1, 0, 0, 0, 0, 0, 0, [])), (89, (.iload_n 2, 1, 2, 0, 0, 0, 0, 0, 0, 0, [])), (90, (.invokevirtual 303, 3, 2, 0, 0, 0, 149, 10, 0, 0, [])), (93, (.iload_n 3, 1, 3, 0, 0, 0, 0, 0, 0, 0, [])), (94, (.ireturn, 1, 0, 0, 0, 0, 0, 0, 0, 0, []))]
set_option maxRecDepth 100000 in
theorem ok_X9_digits : tb_ok ctX9 m_X9_digits t_X9_digits = true := by decide +kernel
theorem i_X9_digits_0 : tab t_X9_digits 0 = some (.aload_n 0, 1, 0, 0, 0, 0, 0, 0, 0, 0, []) := rfl
theorem i_X9_digits_1 : tab t_X9_digits 1 = some (.invokevirtual 307, 3, 0, 0, 0, 0, 152, 10, 0, 0, []) := rfl
theorem i_X9_digits_4 : tab t_X9_digits 4 = some (.ifCond .ne 14, 3, 18, 0, 0, 0, 0, 0, 0, 0, []) := rfl
theorem i_X9_digits_7 : tab t_X9_digits 7 = some (.aload_n 0, 1, 0, 0, 0, 0, 0, 0, 0, 0, []) := rfl
theorem i_X9_digits_8 : tab t_X9_digits 8 = some (.iconst 0, 1, 0, 0, 0, 0, 0, 0, 0, 0, []) := rfl
theorem i_X9_digits_9 : tab t_X9_digits 9 = some (.aload_n 0, 1, 0, 0, 0, 0, 0, 0, 0, 0, []) := rfl
theorem i_X9_digits_10 : tab t_X9_digits 10 = some (.getfield 267, 3, 0, 0, 0, 9, 30, 0, 0, 0, []) := rfl
theorem i_X9_digits_13 : tab t_X9_digits 13 = some (.invokevirtual 303, 3, 2, 0, 0, 0, 149, 10, 0, 0, []) := rfl
theorem i_X9_digits_16 : tab t_X9_digits 16 = some (.iconst 0, 1, 0, 0, 0, 0, 0, 0, 0, 0, []) := rfl
theorem i_X9_digits_17 : tab t_X9_digits 17 = some (.ireturn, 1, 0, 0, 0, 0, 0, 0, 0, 0, []) := rfl
theorem i_X9_digits_18 : tab t_X9_digits 18 = some (.aload_n 0, 1, 0, 0, 0, 0, 0, 0, 0, 0, []) := rfl
theorem i_X9_digits_19 : tab t_X9_digits 19 = some (.getfield 267, 3, 0, 0, 0, 9, 30, 0, 0, 0, []) := rfl
theorem i_X9_digits_22 : tab t_X9_digits 22 = some (.istore_n 2, 1, 2, 0, 0, 0, 0, 0, 0, 0, []) := rfl
theorem i_X9_digits_23 : tab t_X9_digits 23 = some (.iconst 0, 1, 0, 0, 0, 0, 0, 0, 0, 0, []) := rfl
theorem i_X9_digits_24 : tab t_X9_digits 24 = some (.istore_n 3, 1, 3, 0, 0, 0, 0, 0, 0, 0, []) := rfl
theorem i_X9_digits_25 : tab t_X9_digits 25 = some (.aload_n 0, 1, 0, 0, 0, 0, 0, 0, 0, 0, []) := rfl
theorem i_X9_digits_26 : tab t_X9_digits 26 = some (.invokevirtual 307, 3, 0, 0, 0, 0, 152, 10, 0, 0, []) := rfl
theorem i_X9_digits_29 : tab t_X9_digits 29 = some (.ifCond .eq 43, 3, 72, 0, 0, 0, 0, 0, 0, 0, []) := rfl
theorem i_X9_digits_32 : tab t_X9_digits 32 = some (.aload_n 0, 1, 0, 0, 0, 0, 0, 0, 0, 0, []) := rfl
theorem i_X9_digits_33 : tab t_X9_digits 33 = some (.getfield 267, 3, 0, 0, 0, 9, 30, 0, 0, 0, []) := rfl
theorem i_X9_digits_36 : tab t_X9_digits 36 = some (.iload_n 2, 1, 2, 0, 0, 0, 0, 0, 0, 0, []) := rfl
theorem i_X9_digits_37 : tab t_X9_digits 37 = some (.isub, 1, 0, 0, 0, 0, 0, 0, 0, 0, []) := rfl
theorem i_X9_digits_38 : tab t_X9_digits 38 = some (.iconst 4, 1, 0, 4, 0, 0, 0, 0, 0, 0, []) := rfl
theorem i_X9_digits_39 : tab t_X9_digits 39 = some (.if_icmp .ge 18, 3, 57, 0, 0, 0, 0, 0, 0, 0, []) := rfl
theorem i_X9_digits_42 : tab t_X9_digits 42 = some (.bipush 10, 2, 0, 10, 0, 0, 0, 0, 0, 0, []) := rfl
theorem i_X9_digits_44 : tab t_X9_digits 44 = some (.iload_n 3, 1, 3, 0, 0, 0, 0, 0, 0, 0, []) := rfl
theorem i_X9_digits_45 : tab t_X9_digits 45 = some (.imul, 1, 0, 0, 0, 0, 0, 0, 0, 0, []) := rfl
theorem i_X9_digits_46 : tab t_X9_digits 46 = some (.aload_n 0, 1, 0, 0, 0, 0, 0, 0, 0, 0, []) := rfl
theorem i_X9_digits_47 : tab t_X9_digits 47 = some (.invokevirtual 270, 3, 0, 0, 0, 0, 150, 10, 0, 0, []) := rfl
theorem i_X9_digits_50 : tab t_X9_digits 50 = some (.iadd, 1, 0, 0, 0, 0, 0, 0, 0, 0, []) := rfl
theorem i_X9_digits_51 : tab t_X9_digits 51 = some (.bipush 48, 2, 0, 48, 0, 0, 0, 0, 0, 0, []) := rfl
theorem i_X9_digits_53 : tab t_X9_digits 53 = some (.isub, 1, 0, 0, 0, 0, 0, 0, 0, 0, []) := rfl
theorem i_X9_digits_54 : tab t_X9_digits 54 = some (.goto 4, 3, 58, 0, 0, 0, 0, 0, 0, 0, []) := rfl
theorem i_X9_digits_57 : tab t_X9_digits 57 = some (.iload_n 3, 1, 3, 0, 0, 0, 0, 0, 0, 0, []) := rfl
theorem i_X9_digits_58 : tab t_X9_digits 58 = some (.istore_n 3, 1, 3, 0, 0, 0, 0, 0, 0, 0, []) := rfl
theorem i_X9_digits_59 : tab t_X9_digits 59 = some (.aload_n 0, 1, 0, 0, 0, 0, 0, 0, 0, 0, []) := rfl
theorem i_X9_digits_60 : tab t_X9_digits 60 = some (.dup, 1, 0, 0, 0, 0, 0, 0, 0, 0, []) := rfl
theorem i_X9_digits_61 : tab t_X9_digits 61 = some (.getfield 267, 3, 0, 0, 0, 9, 30, 0, 0, 0, []) := rfl
theorem i_X9_digits_64 : tab t_X9_digits 64 = some (.iconst 1, 1, 0, 1, 0, 0, 0, 0, 0, 0, []) := rfl
theorem i_X9_digits_65 : tab t_X9_digits 65 = some (.iadd, 1, 0, 0, 0, 0, 0, 0, 0, 0, []) := rfl
theorem i_X9_digits_66 : tab t_X9_digits 66 = some (.putfield 267, 3, 0, 0, 0, 9, 30, 0, 0, 0, []) := rfl
theorem i_X9_digits_69 : tab t_X9_digits 69 = some (.goto (-44), 3, 25, 0, 0, 0, 0, 0, 0, 0, []) := rfl
theorem i_X9_digits_72 : tab t_X9_digits 72 = some (.aload_n 0, 1, 0, 0, 0, 0, 0, 0, 0, 0, []) := rfl
theorem i_X9_digits_73 : tab t_X9_digits 73 = some (.getfield 267, 3, 0, 0, 0, 9, 30, 0, 0, 0, []) := rfl
theorem i_X9_digits_76 : tab t_X9_digits 76 = some (.iload_n 2, 1, 2, 0, 0, 0, 0, 0, 0, 0, []) := rfl
theorem i_X9_digits_77 : tab t_X9_digits 77 = some (.isub, 1, 0, 0, 0, 0, 0, 0, 0, 0, []) := rfl
theorem i_X9_digits_78 : tab t_X9_digits 78 = some (.iconst 4, 1, 0, 4, 0, 0, 0, 0, 0, 0, []) := rfl
theorem i_X9_digits_79 : tab t_X9_digits 79 = some (.if_icmp .gt 8, 3, 87, 0, 0, 0, 0, 0, 0, 0, []) := rfl
theorem i_X9_digits_82 : tab t_X9_digits 82 = some (.iload_n 3, 1, 3, 0, 0, 0, 0, 0, 0, 0, []) := rfl
theorem i_X9_digits_83 : tab t_X9_digits 83 = some (.iload_n 1, 1, 1, 0, 0, 0, 0, 0, 0, 0, []) := rfl
theorem i_X9_digits_84 : tab t_X9_digits 84 = some (.if_icmp .le 9, 3, 93, 0, 0, 0, 0, 0, 0, 0, []) := rfl
theorem i_X9_digits_87 : tab t_X9_digits 87 = some (.aload_n 0, 1, 0, 0, 0, 0, 0, 0, 0, 0, []) := rfl
theorem i_X9_digits_88 : tab t_X9_digits 88 = some (.iconst 1, 1, 0, 1, 0, 0, 0, 0, 0, 0, []) := rfl
theorem i_X9_digits_89 : tab t_X9_digits 89 = some (.iload_n 2, 1, 2, 0, 0, 0, 0, 0, 0, 0, []) := rfl
theorem i_X9_digits_90 : tab t_X9_digits 90 = some (.invokevirtual 303, 3, 2, 0, 0, 0, 149, 10, 0, 0, []) := rfl
theorem i_X9_digits_93 : tab t_X9_digits 93 = some (.iload_n 3, 1, 3, 0, 0, 0, 0, 0, 0, 0, []) := rfl
theorem i_X9_digits_94 : tab t_X9_digits 94 = some (.ireturn, 1, 0, 0, 0, 0, 0, 0, 0, 0, []) := rfl
def t_X9_value : List (Nat × rw_) := [(0, (.aload_n 0, 1, 0, 0, 0, 0, 0, 0, 0, 0, [])), (1, (.invokevirtual 287, 3, 0, 0, 0, 0, 151, 10, 0, 0, [])), (4, (.aload_n 0, 1, 0, 0, 0, 0, 0, 0, 0, 0, [])), (5, (.getfield 267, 3, 0, 0, 0, 9, 30, 0, 0, 0, [])), (8, (.istore_n 1, 1, 1, 0, 0, 0, 0, 0, 0, 0, [])), (9, (.aload_n 0, 1, 0, 0, 0, 0, 0, 0, 0, 0, [])), (10, (.invokevirtual 307, 3, 0, 0, 0, 0, 152, 10, 0, 0, [])), (13, (.ifCond .eq 23, 3, 36, 0, 0, 0, 0, 0, 0, 0, [])), (16, (.aload_n 0, 1, 0, 0, 0, 0, 0, 0, 0, 0, [])), (17, (.ldc_w 311, 3, 0, 99999, 0, 0, 0, 0, 0, 0, [])), (20, (.invokevirtual 312, 3, 1, 0, 0, 0, 157, 10, 0, 0, [])), (23, (.istore_n 2, 1, 2, 0, 0, 0, 0, 0, 0, 0, [])), (24, (.aload_n 0, 1, 0, 0, 0, 0, 0, 0, 0, 0, [])), (25, (.iload_n 1, 1, 1, 0, 0, 0, 0, 0, 0, 0, [])), (26, (.invokevirtual 316, 3, 1, 0, 0, 0, 156, 10, 0, 0, [])), (29, (.aload_n 0, 1, 0, 0, 0, 0, 0, 0, 0, 0, [])), (30, (.iconst 0, 1, 0, 0, 0, 0, 0, 0, 0, 0, [])), (31, (.iload_n 2, 1, 2, 0, 0, 0, 0, 0, 0, 0, [])), (32, (.invokevirtual 319, 3, 2, 0, 0, 0, 155, 10, 0, 0, [])), (35, (.return_, 1, 0, 0, 0, 0, 0, 0, 0, 0, [])), (36, (.iconst 0, 1, 0, 0, 0, 0, 0, 0, 0, 0, [])), (37, (.istore_n 2, 1, 2, 0, 0, 0, 0, 0, 0, 0, [])), (38, (.iload_n 2, 1, 2, 0, 0, 0, 0, 0, 0, 0, [])), (39, (.bipush 13, 2, 0, 13, 0, 0, 0, 0, 0, 0, [])), (41, (.if_icmp .ge 20, 3, 61, 0, 0, 0, 0, 0, 0, 0, [])), (44, (.aload_n 0, 1, 0, 0, 0, 0, 0, 0, 0, 0, [])), (45, (.iload_n 2, 1, 2, 0, 0, 0, 0, 0, 0, 0, [])), (46, (.invokestatic 322, 3, 1, 0, 0, 0, 146, 0, 0, 0, [])), (49, (.invokevirtual 290, 3, 1, 0, 0, 0, 153, 10, 0, 0, [])), (52, (.ifCond .ne 9, 3, 61, 0, 0, 0, 0, 0, 0, 0, [])), (55, (.iinc 2 1, 3, 2, 1, 0, 0, 0, 0, 0, 0, [])), (58, (.goto (-20), 3, 38, 0, 0, 0, 0, 0, 0, 0, [])), (61, (.iload_n 2, 1, 2, 0, 0, 0, 0, 0, 0, 0, [])), (62, (.bipush 13, 2, 0, 13, 0, 0, 0, 0, 0, 0, [])), (64, (.if_icmp .ne 10, 3, 74, 0, 0, 0, 0, 0, 0, 0, [])), (67, (.aload_n 0, 1, 0, 0, 0, 0, 0, 0, 0, 0, [])), (68, (.iconst 0, 1, 0, 0, 0, 0, 0, 0, 0, 0, [])), (69, (.iload_n 1, 1, 1, 0, 0, 0, 0, 0, 0, 0, [])), (70, (.invokevirtual 303, 3, 2, 0, 0, 0, 149, 10, 0, 0, [])), (73, (.return_, 1, 0, 0, 0, 0, 0, 0, 0, 0, [])), (74, (.aload_n 0, 1, 0, 0, 0, 0, 0, 0, 0, 0, [])), (75, (.iload_n 1, 1, 1, 0, 0, 0, 0, 0, 0, 0, [])), (76, (.invokevirtual 316, 3, 1, 0, 0, 0, 156, 10, 0, 0, [])), (79, (.aload_n 0, 1, 0, 0, 0, 0, 0, 0, 0, 0, [])), (80, (.dup, 1, 0, 0, 0, 0, 0, 0, 0, 0, [])), (81, (.getfield 267, 3, 0, 0, 0, 9, 30, 0, 0, 0, [])), (84, (.iload_n 2, 1, 2, 0, 0, 0, 0, 0, 0, 0, [])), (85, (.invokestatic 322, 3, 1, 0, 0, 0, 146, 0, 0, 0, [])), (88, (.invokevirtual 278, 3, 0, 0, 0, 0, 231, 40, 0, 0, [])), (91, (.iadd, 1, 0, 0, 0, 0, 0, 0, 0, 0, [])), (92, (.putfield 267, 3, 0, 0, 0, 9, 30, 0, 0, 0, [])), (95, (.aload_n 0, 1, 0, 0, 0, 0, 0, 0, 0, 0, [])), (96, (.iconst 1, 1, 0, 1, 0, 0, 0, 0, 0, 0, [])), (97, (.iload_n 2, 1, 2, 0, 0, 0, 0, 0, 0, 0, [])), (98, (.invokevirtual 319, 3, 2, 0, 0, 0, 155, 10, 0, 0, [])), (101, (.return_, 1, 0, 0, 0, 0, 0, 0, 0, 0, []))]
set_option maxRecDepth 100000 in
theorem ok_X9_value : tb_ok ctX9 m_X9_value t_X9_value = true := by decide +kernel
theorem i_X9_value_0 : tab t_X9_value 0 = some (.aload_n 0, 1, 0, 0, 0, 0, 0, 0, 0, 0, []) := rfl
theorem i_X9_value_1 : tab t_X9_value 1 = some (.invokevirtual 287, 3, 0, 0, 0, 0, 151, 10, 0, 0, []) := rfl
theorem i_X9_value_4 : tab t_X9_value 4 = some (.aload_n 0, 1, 0, 0, 0, 0, 0, 0, 0, 0, []) := rfl
theorem i_X9_value_5 : tab t_X9_value 5 = some (.getfield 267, 3, 0, 0, 0, 9, 30, 0, 0, 0, []) := rfl
theorem i_X9_value_8 : tab t_X9_value 8 = some (.istore_n 1, 1, 1, 0, 0, 0, 0, 0, 0, 0, []) := rfl
theorem i_X9_value_9 : tab t_X9_value 9 = some (.aload_n 0, 1, 0, 0, 0, 0, 0, 0, 0, 0, []) := rfl
theorem i_X9_value_10 : tab t_X9_value 10 = some (.invokevirtual 307, 3, 0, 0, 0, 0, 152, 10, 0, 0, []) := rfl
theorem i_X9_value_13 : tab t_X9_value 13 = some (.ifCond .eq 23, 3, 36, 0, 0, 0, 0, 0, 0, 0, []) := rfl
theorem i_X9_value_16 : tab t_X9_value 16 = some (.aload_n 0, 1, 0, 0, 0, 0, 0, 0, 0, 0, []) := rfl
theorem i_X9_value_17 : tab t_X9_value 17 = some (.ldc_w 311, 3, 0, 99999, 0, 0, 0, 0, 0, 0, []) := rfl
theorem i_X9_value_20 : tab t_X9_value 20 = some (.invokevirtual 312, 3, 1, 0, 0, 0, 157, 10, 0, 0, []) := rfl
theorem i_X9_value_23 : tab t_X9_value 23 = some (.istore_n 2, 1, 2, 0, 0, 0, 0, 0, 0, 0, []) := rfl
theorem i_X9_value_24 : tab t_X9_value 24 = some (.aload_n 0, 1, 0, 0, 0, 0, 0, 0, 0, 0, []) := rfl
theorem i_X9_value_25 : tab t_X9_value 25 = some (.iload_n 1, 1, 1, 0, 0, 0, 0, 0, 0, 0, []) := rfl
theorem i_X9_value_26 : tab t_X9_value 26 = some (.invokevirtual 316, 3, 1, 0, 0, 0, 156, 10, 0, 0, []) := rfl
theorem i_X9_value_29 : tab t_X9_value 29 = some (.aload_n 0, 1, 0, 0, 0, 0, 0, 0, 0, 0, []) := rfl
theorem i_X9_value_30 : tab t_X9_value 30 = some (.iconst 0, 1, 0, 0, 0, 0, 0, 0, 0, 0, []) := rfl
theorem i_X9_value_31 : tab t_X9_value 31 = some (.iload_n 2, 1, 2, 0, 0, 0, 0, 0, 0, 0, []) := rfl
theorem i_X9_value_32 : tab t_X9_value 32 = some (.invokevirtual 319, 3, 2, 0, 0, 0, 155, 10, 0, 0, []) := rfl
theorem i_X9_value_35 : tab t_X9_value 35 = some (.return_, 1, 0, 0, 0, 0, 0, 0, 0, 0, []) := rfl
theorem i_X9_value_36 : tab t_X9_value 36 = some (.iconst 0, 1, 0, 0, 0, 0, 0, 0, 0, 0, []) := rfl
theorem i_X9_value_37 : tab t_X9_value 37 = some (.istore_n 2, 1, 2, 0, 0, 0, 0, 0, 0, 0, []) := rfl
theorem i_X9_value_38 : tab t_X9_value 38 = some (.iload_n 2, 1, 2, 0, 0, 0, 0, 0, 0, 0, []) := rfl
theorem i_X9_value_39 : tab t_X9_value 39 = some (.bipush 13, 2, 0, 13, 0, 0, 0, 0, 0, 0, []) := rfl
theorem i_X9_value_41 : tab t_X9_value 41 = some (.if_icmp .ge 20, 3, 61, 0, 0, 0, 0, 0, 0, 0, []) := rfl
theorem i_X9_value_44 : tab t_X9_value 44 = some (.aload_n 0, 1, 0, 0, 0, 0, 0, 0, 0, 0, []) := rfl
theorem i_X9_value_45 : tab t_X9_value 45 = some (.iload_n 2, 1, 2, 0, 0, 0, 0, 0, 0, 0, []) := rfl
theorem i_X9_value_46 : tab t_X9_value 46 = some (.invokestatic 322, 3, 1, 0, 0, 0, 146, 0, 0, 0, []) := rfl
theorem i_X9_value_49 : tab t_X9_value 49 = some (.invokevirtual 290, 3, 1, 0, 0, 0, 153, 10, 0, 0, []) := rfl
theorem i_X9_value_52 : tab t_X9_value 52 = some (.ifCond .ne 9, 3, 61, 0, 0, 0, 0, 0, 0, 0, []) := rfl
theorem i_X9_value_55 : tab t_X9_value 55 = some (.iinc 2 1, 3, 2, 1, 0, 0, 0, 0, 0, 0, []) := rfl
theorem i_X9_value_58 : tab t_X9_value 58 = some (.goto (-20), 3, 38, 0, 0, 0, 0, 0, 0, 0, []) := rfl
theorem i_X9_value_61 : tab t_X9_value 61 = some (.iload_n 2, 1, 2, 0, 0, 0, 0, 0, 0, 0, []) := rfl
theorem i_X9_value_62 : tab t_X9_value 62 = some (.bipush 13, 2, 0, 13, 0, 0, 0, 0, 0, 0, []) := rfl
theorem i_X9_value_64 : tab t_X9_value 64 = some (.if_icmp .ne 10, 3, 74, 0, 0, 0, 0, 0, 0, 0, []) := rfl
theorem i_X9_value_67 : tab t_X9_value 67 = some (.aload_n 0, 1, 0, 0, 0, 0, 0, 0, 0, 0, []) := rfl
theorem i_X9_value_68 : tab t_X9_value 68 = some (.iconst 0, 1, 0, 0, 0, 0, 0, 0, 0, 0, []) := rfl
theorem i_X9_value_69 : tab t_X9_value 69 = some (.iload_n 1, 1, 1, 0, 0, 0, 0, 0, 0, 0, []) := rfl
theorem i_X9_value_70 : tab t_X9_value 70 = some (.invokevirtual 303, 3, 2, 0, 0, 0, 149, 10, 0, 0, []) := rfl
theorem i_X9_value_73 : tab t_X9_value 73 = some (.return_, 1, 0, 0, 0, 0, 0, 0, 0, 0, []) := rfl
theorem i_X9_value_74 : tab t_X9_value 74 = some (.aload_n 0, 1, 0, 0, 0, 0, 0, 0, 0, 0, []) := rfl
theorem i_X9_value_75 : tab t_X9_value 75 = some (.iload_n 1, 1, 1, 0, 0, 0, 0, 0, 0, 0, []) := rfl
theorem i_X9_value_76 : tab t_X9_value 76 = some (.invokevirtual 316, 3, 1, 0, 0, 0, 156, 10, 0, 0, []) := rfl
theorem i_X9_value_79 : tab t_X9_value 79 = some (.aload_n 0, 1, 0, 0, 0, 0, 0, 0, 0, 0, []) := rfl
theorem i_X9_value_80 : tab t_X9_value 80 = some (.dup, 1, 0, 0, 0, 0, 0, 0, 0, 0, []) := rfl
theorem i_X9_value_81 : tab t_X9_value 81 = some (.getfield 267, 3, 0, 0, 0, 9, 30, 0, 0, 0, []) := rfl
theorem i_X9_value_84 : tab t_X9_value 84 = some (.iload_n 2, 1, 2, 0, 0, 0, 0, 0, 0, 0, []) := rfl
theorem i_X9_value_85 : tab t_X9_value 85 = some (.invokestatic 322, 3, 1, 0, 0, 0, 146, 0, 0, 0, []) := rfl
theorem i_X9_value_88 : tab t_X9_value 88 = some (.invokevirtual 278, 3, 0, 0, 0, 0, 231, 40, 0, 0, []) := rfl
theorem i_X9_value_91 : tab t_X9_value 91 = some (.iadd, 1, 0, 0, 0, 0, 0, 0, 0, 0, []) := rfl
theorem i_X9_value_92 : tab t_X9_value 92 = some (.putfield 267, 3, 0, 0, 0, 9, 30, 0, 0, 0, []) := rfl
theorem i_X9_value_95 : tab t_X9_value 95 = some (.aload_n 0, 1, 0, 0, 0, 0, 0, 0, 0, 0, []) := rfl
theorem i_X9_value_96 : tab t_X9_value 96 = some (.iconst 1, 1, 0, 1, 0, 0, 0, 0, 0, 0, []) := rfl
theorem i_X9_value_97 : tab t_X9_value 97 = some (.iload_n 2, 1, 2, 0, 0, 0, 0, 0, 0, 0, []) := rfl
theorem i_X9_value_98 : tab t_X9_value 98 = some (.invokevirtual 319, 3, 2, 0, 0, 0, 155, 10, 0, 0, []) := rfl
theorem i_X9_value_101 : tab t_X9_value 101 = some (.return_, 1, 0, 0, 0, 0, 0, 0, 0, 0, []) := rfl
