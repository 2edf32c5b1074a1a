def cod_law (n : Nat) (xs : Nat → Int32) : List (Nat × Op LT) := [(18, O_iload 3 1), (19, O_aload 0 1), (20, O_sal 1003 n), (21, O_int 4 1), (22, O_isub), (23, O_icmp_gt 836), (26, O_aload 0 1), (27, O_iload 3 1), (28, O_gald 1003 n xs), (29, O_int 31 2), (31, O_iand), (32, O_switch [(0, 152), (1, 185), (2, 228), (3, 261), (4, 294), (5, 337), (6, 360), (7, 373), (8, 396), (9, 429), (10, 452), (11, 495), (12, 528), (13, 551), (14, 564), (15, 587), (16, 620), (17, 643), (18, 666), (19, 689), (20, 722), (21, 745), (22, 758), (23, 781), (24, 794), (25, 817)] 830), (152, O_aload 1 1), (153, O_aload 0 1), (154, O_iload 3 1), (155, O_int 1 1), (156, O_iadd), (157, O_gald 1003 n xs), (158, O_aload 0 1), (159, O_iload 3 1), (160, O_int 2 1), (161, O_iadd), (162, O_gald 1003 n xs), (163, O_callZ 2 0 yX6_set cX6_set 4 (some .int) 4 fpW (fun S : LT => S.1) (fun S F => (F, S.2))), (166, O_aload 2 1), (167, O_aload 0 1), (168, O_iload 3 1), (169, O_int 1 1), (170, O_iadd), (171, O_gald 1003 n xs), (172, O_aload 0 1), (173, O_iload 3 1), (174, O_int 2 1), (175, O_iadd), (176, O_gald 1003 n xs), (177, O_callV 2 148 (fun S : LT => S.2) (fun S q => (S.1, q)) (spG yX7_set cX7_set 4 (some .int) 2 aW)), (180, O_icmp_eq 830), (183, O_int 0 1), (185, O_aload 1 1), (186, O_aload 0 1), (187, O_iload 3 1), (188, O_int 1 1), (189, O_iadd), (190, O_gald 1003 n xs), (191, O_aload 0 1), (192, O_iload 3 1), (193, O_int 2 1), (194, O_iadd), (195, O_gald 1003 n xs), (196, O_aload 0 1), (197, O_iload 3 1), (198, O_int 3 1), (199, O_iadd), (200, O_gald 1003 n xs), (201, O_callV 3 0 (fun S : LT => S.1) (fun S F => (F, S.2)) (spG yX6_pump cX6_pump 4 (some .int) 4 fpW)), (204, O_aload 2 1), (205, O_aload 0 1), (206, O_iload 3 1), (207, O_int 1 1), (208, O_iadd), (209, O_gald 1003 n xs), (210, O_aload 0 1), (211, O_iload 3 1), (212, O_int 2 1), (213, O_iadd), (214, O_gald 1003 n xs), (215, O_aload 0 1), (216, O_iload 3 1), (217, O_int 3 1), (218, O_iadd), (219, O_gald 1003 n xs), (220, O_callV 3 148 (fun S : LT => S.2) (fun S q => (S.1, q)) (spG yX7_pump cX7_pump 6 (some .int) 1 aW)), (223, O_icmp_eq 830), (226, O_int 0 1), (228, O_aload 1 1), (229, O_aload 0 1), (230, O_iload 3 1), (231, O_int 1 1), (232, O_iadd), (233, O_gald 1003 n xs), (234, O_aload 0 1), (235, O_iload 3 1), (236, O_int 2 1), (237, O_iadd), (238, O_gald 1003 n xs), (239, O_callV 2 0 (fun S : LT => S.1) (fun S F => (F, S.2)) (spG yX6_service cX6_service 4 (some .int) 4 fpW)), (242, O_aload 2 1), (243, O_aload 0 1), (244, O_iload 3 1), (245, O_int 1 1), (246, O_iadd), (247, O_gald 1003 n xs), (248, O_aload 0 1), (249, O_iload 3 1), (250, O_int 2 1), (251, O_iadd), (252, O_gald 1003 n xs), (253, O_callV 2 148 (fun S : LT => S.2) (fun S q => (S.1, q)) (spG yX7_service cX7_service 3 (some .int) 5 aW)), (256, O_icmp_eq 830), (259, O_int 0 1), (261, O_aload 1 1), (262, O_aload 0 1), (263, O_iload 3 1), (264, O_int 1 1), (265, O_iadd), (266, O_gald 1003 n xs), (267, O_aload 0 1), (268, O_iload 3 1), (269, O_int 2 1), (270, O_iadd), (271, O_gald 1003 n xs), (272, O_callV 2 0 (fun S : LT => S.1) (fun S F => (F, S.2)) (spG yX6_pumpOf cX6_pumpOf 4 (some .int) 2 fpW)), (275, O_aload 2 1), (276, O_aload 0 1), (277, O_iload 3 1), (278, O_int 1 1), (279, O_iadd), (280, O_gald 1003 n xs), (281, O_aload 0 1), (282, O_iload 3 1), (283, O_int 2 1), (284, O_iadd), (285, O_gald 1003 n xs), (286, O_callV 2 148 (fun S : LT => S.2) (fun S q => (S.1, q)) (spG yX7_pumpOf cX7_pumpOf 3 (some .int) 2 aW)), (289, O_icmp_eq 830), (292, O_int 0 1), (294, O_aload 1 1), (295, O_aload 0 1), (296, O_iload 3 1), (297, O_int 1 1), (298, O_iadd), (299, O_gald 1003 n xs), (300, O_aload 0 1), (301, O_iload 3 1), (302, O_int 2 1), (303, O_iadd), (304, O_gald 1003 n xs), (305, O_aload 0 1), (306, O_iload 3 1), (307, O_int 3 1), (308, O_iadd), (309, O_gald 1003 n xs), (310, O_callV 3 0 (fun S : LT => S.1) (fun S F => (F, S.2)) (spG yX6_curve cX6_curve 4 (some .int) 2 fpW)), (313, O_aload 2 1), (314, O_aload 0 1), (315, O_iload 3 1), (316, O_int 1 1), (317, O_iadd), (318, O_gald 1003 n xs), (319, O_aload 0 1), (320, O_iload 3 1), (321, O_int 2 1), (322, O_iadd), (323, O_gald 1003 n xs), (324, O_aload 0 1), (325, O_iload 3 1), (326, O_int 3 1), (327, O_iadd), (328, O_gald 1003 n xs), (329, O_callV 3 148 (fun S : LT => S.2) (fun S q => (S.1, q)) (spG yX7_curve cX7_curve 4 (some .int) 2 aW)), (332, O_icmp_eq 830), (335, O_int 0 1), (337, O_aload 1 1), (338, O_aload 0 1), (339, O_iload 3 1), (340, O_int 1 1), (341, O_iadd), (342, O_gald 1003 n xs), (343, O_callV 1 0 (fun S : LT => S.1) (fun S F => (F, S.2)) (spG yX6_readyAt cX6_readyAt 3 (some .int) 3 fpW)), (346, O_aload 2 1), (347, O_aload 0 1), (348, O_iload 3 1), (349, O_int 1 1), (350, O_iadd), (351, O_gald 1003 n xs), (352, O_callV 1 148 (fun S : LT => S.2) (fun S q => (S.1, q)) (spG yX7_readyAt cX7_readyAt 3 (some .int) 5 aW)), (355, O_icmp_eq 830), (358, O_int 0 1), (360, O_aload 1 1), (361, O_callV 0 0 (fun S : LT => S.1) (fun S F => (F, S.2)) (spG yX6_balance cX6_balance 1 (some .int) 2 fpW)), (364, O_aload 2 1), (365, O_callV 0 148 (fun S : LT => S.2) (fun S q => (S.1, q)) (spG yX7_balance cX7_balance 4 (some .int) 1 aW)), (368, O_icmp_eq 830), (371, O_int 0 1), (373, O_aload 1 1), (374, O_aload 0 1), (375, O_iload 3 1), (376, O_int 1 1), (377, O_iadd), (378, O_gald 1003 n xs), (379, O_callV 1 0 (fun S : LT => S.1) (fun S F => (F, S.2)) (spG yX6_zone cX6_zone 2 (some .int) 4 fpW)), (382, O_aload 2 1), (383, O_aload 0 1), (384, O_iload 3 1), (385, O_int 1 1), (386, O_iadd), (387, O_gald 1003 n xs), (388, O_callV 1 148 (fun S : LT => S.2) (fun S q => (S.1, q)) (spG yX7_zone cX7_zone 3 (some .int) 1 aW)), (391, O_icmp_eq 830), (394, O_int 0 1), (396, O_aload 1 1), (397, O_aload 0 1), (398, O_iload 3 1), (399, O_int 1 1), (400, O_iadd), (401, O_gald 1003 n xs), (402, O_aload 0 1), (403, O_iload 3 1), (404, O_int 2 1), (405, O_iadd), (406, O_gald 1003 n xs), (407, O_callV 2 0 (fun S : LT => S.1) (fun S F => (F, S.2)) (spG yX6_open cX6_open 4 (some .int) 4 fpW)), (410, O_aload 2 1), (411, O_aload 0 1), (412, O_iload 3 1), (413, O_int 1 1), (414, O_iadd), (415, O_gald 1003 n xs), (416, O_aload 0 1), (417, O_iload 3 1), (418, O_int 2 1), (419, O_iadd), (420, O_gald 1003 n xs), (421, O_callV 2 148 (fun S : LT => S.2) (fun S q => (S.1, q)) (spG yX7_open cX7_open 3 (some .int) 2 aW)), (424, O_icmp_eq 830), (427, O_int 0 1), (429, O_aload 1 1), (430, O_aload 0 1), (431, O_iload 3 1), (432, O_int 1 1), (433, O_iadd), (434, O_gald 1003 n xs), (435, O_callV 1 0 (fun S : LT => S.1) (fun S F => (F, S.2)) (spG yX6_leak cX6_leak 3 (some .int) 4 fpW)), (438, O_aload 2 1), (439, O_aload 0 1), (440, O_iload 3 1), (441, O_int 1 1), (442, O_iadd), (443, O_gald 1003 n xs), (444, O_callV 1 148 (fun S : LT => S.2) (fun S q => (S.1, q)) (spG yX7_leak cX7_leak 3 (some .int) 1 aW)), (447, O_icmp_eq 830), (450, O_int 0 1), (452, O_aload 1 1), (453, O_aload 0 1), (454, O_iload 3 1), (455, O_int 1 1), (456, O_iadd), (457, O_gald 1003 n xs), (458, O_aload 0 1), (459, O_iload 3 1), (460, O_int 2 1), (461, O_iadd), (462, O_gald 1003 n xs), (463, O_aload 0 1), (464, O_iload 3 1), (465, O_int 3 1), (466, O_iadd), (467, O_gald 1003 n xs), (468, O_callV 3 0 (fun S : LT => S.1) (fun S F => (F, S.2)) (spG yX6_programme cX6_programme 4 (some .int) 4 fpW)), (471, O_aload 2 1), (472, O_aload 0 1), (473, O_iload 3 1), (474, O_int 1 1), (475, O_iadd), (476, O_gald 1003 n xs), (477, O_aload 0 1), (478, O_iload 3 1), (479, O_int 2 1), (480, O_iadd), (481, O_gald 1003 n xs), (482, O_aload 0 1), (483, O_iload 3 1), (484, O_int 3 1), (485, O_iadd), (486, O_gald 1003 n xs), (487, O_callV 3 148 (fun S : LT => S.2) (fun S q => (S.1, q)) (spG yX7_programme cX7_programme 5 (some .int) 2 aW)), (490, O_icmp_eq 830), (493, O_int 0 1), (495, O_aload 1 1), (496, O_aload 0 1), (497, O_iload 3 1), (498, O_int 1 1), (499, O_iadd), (500, O_gald 1003 n xs), (501, O_aload 0 1), (502, O_iload 3 1), (503, O_int 2 1), (504, O_iadd), (505, O_gald 1003 n xs), (506, O_callV 2 0 (fun S : LT => S.1) (fun S F => (F, S.2)) (spG yX6_zoneOf cX6_zoneOf 4 (some .int) 1 fpW)), (509, O_aload 2 1), (510, O_aload 0 1), (511, O_iload 3 1), (512, O_int 1 1), (513, O_iadd), (514, O_gald 1003 n xs), (515, O_aload 0 1), (516, O_iload 3 1), (517, O_int 2 1), (518, O_iadd), (519, O_gald 1003 n xs), (520, O_callV 2 148 (fun S : LT => S.2) (fun S q => (S.1, q)) (spG yX7_zoneOf cX7_zoneOf 5 (some .int) 2 aW)), (523, O_icmp_eq 830), (526, O_int 0 1), (528, O_aload 1 1), (529, O_aload 0 1), (530, O_iload 3 1), (531, O_int 1 1), (532, O_iadd), (533, O_gald 1003 n xs), (534, O_callV 1 0 (fun S : LT => S.1) (fun S F => (F, S.2)) (spG yX6_fill cX6_fill 3 (some .int) 4 fpW)), (537, O_aload 2 1), (538, O_aload 0 1), (539, O_iload 3 1), (540, O_int 1 1), (541, O_iadd), (542, O_gald 1003 n xs), (543, O_callV 1 148 (fun S : LT => S.2) (fun S q => (S.1, q)) (spG yX7_fill cX7_fill 3 (some .int) 1 aW)), (546, O_icmp_eq 830), (549, O_int 0 1), (551, O_aload 1 1), (552, O_callV 0 0 (fun S : LT => S.1) (fun S F => (F, S.2)) (spG yX6_reset cX6_reset 2 (some .int) 4 fpW)), (555, O_aload 2 1), (556, O_callV 0 148 (fun S : LT => S.2) (fun S q => (S.1, q)) (spG yX7_reset cX7_reset 1 (some .int) 2 aW)), (559, O_icmp_eq 830), (562, O_int 0 1), (564, O_aload 1 1), (565, O_aload 0 1), (566, O_iload 3 1), (567, O_int 1 1), (568, O_iadd), (569, O_gald 1003 n xs), (570, O_callV 1 0 (fun S : LT => S.1) (fun S F => (F, S.2)) (spG yX6_pass cX6_pass 3 (some .int) 5 fpW)), (573, O_aload 2 1), (574, O_aload 0 1), (575, O_iload 3 1), (576, O_int 1 1), (577, O_iadd), (578, O_gald 1003 n xs), (579, O_callV 1 148 (fun S : LT => S.2) (fun S q => (S.1, q)) (spG yX7_pass cX7_pass 3 (some .int) 8 aW)), (582, O_icmp_eq 830), (585, O_int 0 1), (587, O_aload 1 1), (588, O_aload 0 1), (589, O_iload 3 1), (590, O_int 1 1), (591, O_iadd), (592, O_gald 1003 n xs), (593, O_aload 0 1), (594, O_iload 3 1), (595, O_int 2 1), (596, O_iadd), (597, O_gald 1003 n xs), (598, O_callV 2 0 (fun S : LT => S.1) (fun S F => (F, S.2)) (spG yX6_foresee cX6_foresee 4 (some .int) 5 fpW)), (601, O_aload 2 1), (602, O_aload 0 1), (603, O_iload 3 1), (604, O_int 1 1), (605, O_iadd), (606, O_gald 1003 n xs), (607, O_aload 0 1), (608, O_iload 3 1), (609, O_int 2 1), (610, O_iadd), (611, O_gald 1003 n xs), (612, O_callV 2 148 (fun S : LT => S.2) (fun S q => (S.1, q)) (spG yX7_foresee cX7_foresee 4 (some .int) 8 aW)), (615, O_icmp_eq 830), (618, O_int 0 1), (620, O_aload 1 1), (621, O_aload 0 1), (622, O_iload 3 1), (623, O_int 1 1), (624, O_iadd), (625, O_gald 1003 n xs), (626, O_callV 1 0 (fun S : LT => S.1) (fun S F => (F, S.2)) (spG yX6_foreseeEvent cX6_foreseeEvent 3 (some .int) 5 fpW)), (629, O_aload 2 1), (630, O_aload 0 1), (631, O_iload 3 1), (632, O_int 1 1), (633, O_iadd), (634, O_gald 1003 n xs), (635, O_callV 1 148 (fun S : LT => S.2) (fun S q => (S.1, q)) (spG yX7_foreseeEvent cX7_foreseeEvent 3 (some .int) 7 aW)), (638, O_icmp_eq 830), (641, O_int 0 1), (643, O_aload 1 1), (644, O_aload 0 1), (645, O_iload 3 1), (646, O_int 1 1), (647, O_iadd), (648, O_gald 1003 n xs), (649, O_callV 1 0 (fun S : LT => S.1) (fun S F => (F, S.2)) (spG yX6_station cX6_station 2 (some .int) 3 fpW)), (652, O_aload 2 1), (653, O_aload 0 1), (654, O_iload 3 1), (655, O_int 1 1), (656, O_iadd), (657, O_gald 1003 n xs), (658, O_callV 1 148 (fun S : LT => S.2) (fun S q => (S.1, q)) (spG yX7_station cX7_station 2 (some .int) 3 aW)), (661, O_icmp_eq 830), (664, O_int 0 1), (666, O_aload 1 1), (667, O_aload 0 1), (668, O_iload 3 1), (669, O_int 1 1), (670, O_iadd), (671, O_gald 1003 n xs), (672, O_callV 1 0 (fun S : LT => S.1) (fun S F => (F, S.2)) (spG yX6_nightAt cX6_nightAt 2 (some .int) 1 fpW)), (675, O_aload 2 1), (676, O_aload 0 1), (677, O_iload 3 1), (678, O_int 1 1), (679, O_iadd), (680, O_gald 1003 n xs), (681, O_callV 1 148 (fun S : LT => S.2) (fun S q => (S.1, q)) (spG yX7_nightAt cX7_nightAt 2 (some .int) 0 aW)), (684, O_icmp_eq 830), (687, O_int 0 1), (689, O_aload 1 1), (690, O_aload 0 1), (691, O_iload 3 1), (692, O_int 1 1), (693, O_iadd), (694, O_gald 1003 n xs), (695, O_aload 0 1), (696, O_iload 3 1), (697, O_int 2 1), (698, O_iadd), (699, O_gald 1003 n xs), (700, O_callV 2 0 (fun S : LT => S.1) (fun S F => (F, S.2)) (spG yX6_eventAt cX6_eventAt 5 (some .int) 3 fpW)), (703, O_aload 2 1), (704, O_aload 0 1), (705, O_iload 3 1), (706, O_int 1 1), (707, O_iadd), (708, O_gald 1003 n xs), (709, O_aload 0 1), (710, O_iload 3 1), (711, O_int 2 1), (712, O_iadd), (713, O_gald 1003 n xs), (714, O_callV 2 148 (fun S : LT => S.2) (fun S q => (S.1, q)) (spG yX7_eventAt cX7_eventAt 4 (some .int) 1 aW)), (717, O_icmp_eq 830), (720, O_int 0 1), (722, O_aload 1 1), (723, O_aload 0 1), (724, O_iload 3 1), (725, O_int 1 1), (726, O_iadd), (727, O_gald 1003 n xs), (728, O_callV 1 0 (fun S : LT => S.1) (fun S F => (F, S.2)) (spG yX6_count cX6_count 2 (some .int) 2 fpW)), (731, O_aload 2 1), (732, O_aload 0 1), (733, O_iload 3 1), (734, O_int 1 1), (735, O_iadd), (736, O_gald 1003 n xs), (737, O_callV 1 148 (fun S : LT => S.2) (fun S q => (S.1, q)) (spG yX7_count cX7_count 2 (some .int) 4 aW)), (740, O_icmp_eq 830), (743, O_int 0 1), (745, O_aload 1 1), (746, O_callV 0 0 (fun S : LT => S.1) (fun S F => (F, S.2)) (spG yX6_undo cX6_undo 1 (some .int) 3 fpW)), (749, O_aload 2 1), (750, O_callV 0 148 (fun S : LT => S.2) (fun S q => (S.1, q)) (spG yX7_undo cX7_undo 2 (some .int) 0 aW)), (753, O_icmp_eq 830), (756, O_int 0 1), (758, O_aload 1 1), (759, O_aload 0 1), (760, O_iload 3 1), (761, O_int 1 1), (762, O_iadd), (763, O_gald 1003 n xs), (764, O_callV 1 0 (fun S : LT => S.1) (fun S F => (F, S.2)) (spG yX6_type cX6_type 2 (some .int) 1 fpW)), (767, O_aload 2 1), (768, O_aload 0 1), (769, O_iload 3 1), (770, O_int 1 1), (771, O_iadd), (772, O_gald 1003 n xs), (773, O_callV 1 148 (fun S : LT => S.2) (fun S q => (S.1, q)) (spG yX7_type cX7_type 2 (some .int) 1 aW)), (776, O_icmp_eq 830), (779, O_int 0 1), (781, O_aload 1 1), (782, O_callV 0 0 (fun S : LT => S.1) (fun S F => (F, S.2)) (spG yX6_clearText cX6_clearText 2 (some .int) 0 fpW)), (785, O_aload 2 1), (786, O_callV 0 148 (fun S : LT => S.2) (fun S q => (S.1, q)) (spG yX7_clearText cX7_clearText 2 (some .int) 0 aW)), (789, O_icmp_eq 830), (792, O_int 0 1), (794, O_aload 1 1), (795, O_aload 0 1), (796, O_iload 3 1), (797, O_int 1 1), (798, O_iadd), (799, O_gald 1003 n xs), (800, O_callV 1 0 (fun S : LT => S.1) (fun S F => (F, S.2)) (spG yX6_fault cX6_fault 3 (some .int) 7 fpW)), (803, O_aload 2 1), (804, O_aload 0 1), (805, O_iload 3 1), (806, O_int 1 1), (807, O_iadd), (808, O_gald 1003 n xs), (809, O_callV 1 148 (fun S : LT => S.2) (fun S q => (S.1, q)) (spG yX7_fault cX7_fault 2 (some .int) 11 aW)), (812, O_icmp_eq 830), (815, O_int 0 1), (817, O_aload 1 1), (818, O_callV 0 0 (fun S : LT => S.1) (fun S F => (F, S.2)) (spG yX6_play cX6_play 1 (some .int) 7 fpW)), (821, O_aload 2 1), (822, O_callV 0 148 (fun S : LT => S.2) (fun S q => (S.1, q)) (spG yX7_play cX7_play 1 (some .int) 11 aW)), (825, O_icmp_eq 830), (828, O_int 0 1), (830, O_iinc 3 4), (833, O_goto 18), (836, O_int 1 1)]
abbrev cut_law : List Nat := [18, 152, 185, 228, 261, 294, 337, 360, 373, 396, 429, 452, 495, 528, 551, 564, 587, 620, 643, 666, 689, 722, 745, 758, 781, 794, 817, 830, 836]
set_option maxRecDepth 100000 in
theorem okc_law {E : En} {n : Nat} {xs : Nat → Int32} (F : Fx E RL code 4 13) (Z : ZS E) (Zx : Zsc 1003 n xs E) : CodOk E lW (cod_law n xs) := by
  unfold CodOk cod_law
  refine List.forall_mem_cons.mpr ⟨ok_iload_n F dL_law_18 rfl (by decide), ?_⟩
  refine List.forall_mem_cons.mpr ⟨ok_aload_n F dL_law_19 rfl (by decide), ?_⟩
  refine List.forall_mem_cons.mpr ⟨ok_sal F Zx dL_law_20 (by show 20 + 1 < 100000; decide), ?_⟩
  refine List.forall_mem_cons.mpr ⟨ok_iconst F dL_law_21 (by decide) (by decide), ?_⟩
  refine List.forall_mem_cons.mpr ⟨ok_isub F dL_law_22 (by decide), ?_⟩
  refine List.forall_mem_cons.mpr ⟨ok_icmp_gt F dL_law_23 (by decide) (by decide) (by decide), ?_⟩
  refine List.forall_mem_cons.mpr ⟨ok_aload_n F dL_law_26 rfl (by decide), ?_⟩
  refine List.forall_mem_cons.mpr ⟨ok_iload_n F dL_law_27 rfl (by decide), ?_⟩
  refine List.forall_mem_cons.mpr ⟨ok_sald F Zx dL_law_28 (by show 28 + 1 < 100000; decide), ?_⟩
  refine List.forall_mem_cons.mpr ⟨ok_bipush F dL_law_29 (by decide) (by decide), ?_⟩
  refine List.forall_mem_cons.mpr ⟨ok_iand F dL_law_31 (by decide), ?_⟩
  refine List.forall_mem_cons.mpr ⟨ok_table F dL_law_32 (by decide +kernel) (by decide), ?_⟩
  refine List.forall_mem_cons.mpr ⟨ok_aload_n F dL_law_152 rfl (by decide), ?_⟩
  refine List.forall_mem_cons.mpr ⟨ok_aload_n F dL_law_153 rfl (by decide), ?_⟩
  refine List.forall_mem_cons.mpr ⟨ok_iload_n F dL_law_154 rfl (by decide), ?_⟩
  refine List.forall_mem_cons.mpr ⟨ok_iconst F dL_law_155 (by decide) (by decide), ?_⟩
  refine List.forall_mem_cons.mpr ⟨ok_iadd F dL_law_156 (by decide), ?_⟩
  refine List.forall_mem_cons.mpr ⟨ok_sald F Zx dL_law_157 (by show 157 + 1 < 100000; decide), ?_⟩
  refine List.forall_mem_cons.mpr ⟨ok_aload_n F dL_law_158 rfl (by decide), ?_⟩
  refine List.forall_mem_cons.mpr ⟨ok_iload_n F dL_law_159 rfl (by decide), ?_⟩
  refine List.forall_mem_cons.mpr ⟨ok_iconst F dL_law_160 (by decide) (by decide), ?_⟩
  refine List.forall_mem_cons.mpr ⟨ok_iadd F dL_law_161 (by decide), ?_⟩
  refine List.forall_mem_cons.mpr ⟨ok_sald F Zx dL_law_162 (by show 162 + 1 < 100000; decide), ?_⟩
  refine List.forall_mem_cons.mpr ⟨ok_callZ F Z ln_lw_F rcv_fpW (by decide +kernel) (by decide) dL_law_163 (by decide), ?_⟩
  refine List.forall_mem_cons.mpr ⟨ok_aload_n F dL_law_166 rfl (by decide), ?_⟩
  refine List.forall_mem_cons.mpr ⟨ok_aload_n F dL_law_167 rfl (by decide), ?_⟩
  refine List.forall_mem_cons.mpr ⟨ok_iload_n F dL_law_168 rfl (by decide), ?_⟩
  refine List.forall_mem_cons.mpr ⟨ok_iconst F dL_law_169 (by decide) (by decide), ?_⟩
  refine List.forall_mem_cons.mpr ⟨ok_iadd F dL_law_170 (by decide), ?_⟩
  refine List.forall_mem_cons.mpr ⟨ok_sald F Zx dL_law_171 (by show 171 + 1 < 100000; decide), ?_⟩
  refine List.forall_mem_cons.mpr ⟨ok_aload_n F dL_law_172 rfl (by decide), ?_⟩
  refine List.forall_mem_cons.mpr ⟨ok_iload_n F dL_law_173 rfl (by decide), ?_⟩
  refine List.forall_mem_cons.mpr ⟨ok_iconst F dL_law_174 (by decide) (by decide), ?_⟩
  refine List.forall_mem_cons.mpr ⟨ok_iadd F dL_law_175 (by decide), ?_⟩
  refine List.forall_mem_cons.mpr ⟨ok_sald F Zx dL_law_176 (by show 176 + 1 < 100000; decide), ?_⟩
  refine List.forall_mem_cons.mpr ⟨ok_callV F (spG_ok yX7_set cX7_set 4 (some .int) 2 aW) ln_lw_Q rcv_aW (by decide +kernel) (by decide) dL_law_177 (by decide), ?_⟩
  refine List.forall_mem_cons.mpr ⟨ok_icmp_eq F dL_law_180 (by decide) (by decide) (by decide), ?_⟩
  refine List.forall_mem_cons.mpr ⟨ok_iconst F dL_law_183 (by decide) (by decide), ?_⟩
  refine List.forall_mem_cons.mpr ⟨ok_aload_n F dL_law_185 rfl (by decide), ?_⟩
  refine List.forall_mem_cons.mpr ⟨ok_aload_n F dL_law_186 rfl (by decide), ?_⟩
  refine List.forall_mem_cons.mpr ⟨ok_iload_n F dL_law_187 rfl (by decide), ?_⟩
  refine List.forall_mem_cons.mpr ⟨ok_iconst F dL_law_188 (by decide) (by decide), ?_⟩
  refine List.forall_mem_cons.mpr ⟨ok_iadd F dL_law_189 (by decide), ?_⟩
  refine List.forall_mem_cons.mpr ⟨ok_sald F Zx dL_law_190 (by show 190 + 1 < 100000; decide), ?_⟩
  refine List.forall_mem_cons.mpr ⟨ok_aload_n F dL_law_191 rfl (by decide), ?_⟩
  refine List.forall_mem_cons.mpr ⟨ok_iload_n F dL_law_192 rfl (by decide), ?_⟩
  refine List.forall_mem_cons.mpr ⟨ok_iconst F dL_law_193 (by decide) (by decide), ?_⟩
  refine List.forall_mem_cons.mpr ⟨ok_iadd F dL_law_194 (by decide), ?_⟩
  refine List.forall_mem_cons.mpr ⟨ok_sald F Zx dL_law_195 (by show 195 + 1 < 100000; decide), ?_⟩
  refine List.forall_mem_cons.mpr ⟨ok_aload_n F dL_law_196 rfl (by decide), ?_⟩
  refine List.forall_mem_cons.mpr ⟨ok_iload_n F dL_law_197 rfl (by decide), ?_⟩
  refine List.forall_mem_cons.mpr ⟨ok_iconst F dL_law_198 (by decide) (by decide), ?_⟩
  refine List.forall_mem_cons.mpr ⟨ok_iadd F dL_law_199 (by decide), ?_⟩
  refine List.forall_mem_cons.mpr ⟨ok_sald F Zx dL_law_200 (by show 200 + 1 < 100000; decide), ?_⟩
  refine List.forall_mem_cons.mpr ⟨ok_callV F (spG_ok yX6_pump cX6_pump 4 (some .int) 4 fpW) ln_lw_F rcv_fpW (by decide +kernel) (by decide) dL_law_201 (by decide), ?_⟩
  refine List.forall_mem_cons.mpr ⟨ok_aload_n F dL_law_204 rfl (by decide), ?_⟩
  refine List.forall_mem_cons.mpr ⟨ok_aload_n F dL_law_205 rfl (by decide), ?_⟩
  refine List.forall_mem_cons.mpr ⟨ok_iload_n F dL_law_206 rfl (by decide), ?_⟩
  refine List.forall_mem_cons.mpr ⟨ok_iconst F dL_law_207 (by decide) (by decide), ?_⟩
  refine List.forall_mem_cons.mpr ⟨ok_iadd F dL_law_208 (by decide), ?_⟩
  refine List.forall_mem_cons.mpr ⟨ok_sald F Zx dL_law_209 (by show 209 + 1 < 100000; decide), ?_⟩
  refine List.forall_mem_cons.mpr ⟨ok_aload_n F dL_law_210 rfl (by decide), ?_⟩
  refine List.forall_mem_cons.mpr ⟨ok_iload_n F dL_law_211 rfl (by decide), ?_⟩
  refine List.forall_mem_cons.mpr ⟨ok_iconst F dL_law_212 (by decide) (by decide), ?_⟩
  refine List.forall_mem_cons.mpr ⟨ok_iadd F dL_law_213 (by decide), ?_⟩
  refine List.forall_mem_cons.mpr ⟨ok_sald F Zx dL_law_214 (by show 214 + 1 < 100000; decide), ?_⟩
  refine List.forall_mem_cons.mpr ⟨ok_aload_n F dL_law_215 rfl (by decide), ?_⟩
  refine List.forall_mem_cons.mpr ⟨ok_iload_n F dL_law_216 rfl (by decide), ?_⟩
  refine List.forall_mem_cons.mpr ⟨ok_iconst F dL_law_217 (by decide) (by decide), ?_⟩
  refine List.forall_mem_cons.mpr ⟨ok_iadd F dL_law_218 (by decide), ?_⟩
  refine List.forall_mem_cons.mpr ⟨ok_sald F Zx dL_law_219 (by show 219 + 1 < 100000; decide), ?_⟩
  refine List.forall_mem_cons.mpr ⟨ok_callV F (spG_ok yX7_pump cX7_pump 6 (some .int) 1 aW) ln_lw_Q rcv_aW (by decide +kernel) (by decide) dL_law_220 (by decide), ?_⟩
  refine List.forall_mem_cons.mpr ⟨ok_icmp_eq F dL_law_223 (by decide) (by decide) (by decide), ?_⟩
  refine List.forall_mem_cons.mpr ⟨ok_iconst F dL_law_226 (by decide) (by decide), ?_⟩
  refine List.forall_mem_cons.mpr ⟨ok_aload_n F dL_law_228 rfl (by decide), ?_⟩
  refine List.forall_mem_cons.mpr ⟨ok_aload_n F dL_law_229 rfl (by decide), ?_⟩
  refine List.forall_mem_cons.mpr ⟨ok_iload_n F dL_law_230 rfl (by decide), ?_⟩
  refine List.forall_mem_cons.mpr ⟨ok_iconst F dL_law_231 (by decide) (by decide), ?_⟩
  refine List.forall_mem_cons.mpr ⟨ok_iadd F dL_law_232 (by decide), ?_⟩
  refine List.forall_mem_cons.mpr ⟨ok_sald F Zx dL_law_233 (by show 233 + 1 < 100000; decide), ?_⟩
  refine List.forall_mem_cons.mpr ⟨ok_aload_n F dL_law_234 rfl (by decide), ?_⟩
  refine List.forall_mem_cons.mpr ⟨ok_iload_n F dL_law_235 rfl (by decide), ?_⟩
  refine List.forall_mem_cons.mpr ⟨ok_iconst F dL_law_236 (by decide) (by decide), ?_⟩
  refine List.forall_mem_cons.mpr ⟨ok_iadd F dL_law_237 (by decide), ?_⟩
  refine List.forall_mem_cons.mpr ⟨ok_sald F Zx dL_law_238 (by show 238 + 1 < 100000; decide), ?_⟩
  refine List.forall_mem_cons.mpr ⟨ok_callV F (spG_ok yX6_service cX6_service 4 (some .int) 4 fpW) ln_lw_F rcv_fpW (by decide +kernel) (by decide) dL_law_239 (by decide), ?_⟩
  refine List.forall_mem_cons.mpr ⟨ok_aload_n F dL_law_242 rfl (by decide), ?_⟩
  refine List.forall_mem_cons.mpr ⟨ok_aload_n F dL_law_243 rfl (by decide), ?_⟩
  refine List.forall_mem_cons.mpr ⟨ok_iload_n F dL_law_244 rfl (by decide), ?_⟩
  refine List.forall_mem_cons.mpr ⟨ok_iconst F dL_law_245 (by decide) (by decide), ?_⟩
  refine List.forall_mem_cons.mpr ⟨ok_iadd F dL_law_246 (by decide), ?_⟩
  refine List.forall_mem_cons.mpr ⟨ok_sald F Zx dL_law_247 (by show 247 + 1 < 100000; decide), ?_⟩
  refine List.forall_mem_cons.mpr ⟨ok_aload_n F dL_law_248 rfl (by decide), ?_⟩
  refine List.forall_mem_cons.mpr ⟨ok_iload_n F dL_law_249 rfl (by decide), ?_⟩
  refine List.forall_mem_cons.mpr ⟨ok_iconst F dL_law_250 (by decide) (by decide), ?_⟩
  refine List.forall_mem_cons.mpr ⟨ok_iadd F dL_law_251 (by decide), ?_⟩
  refine List.forall_mem_cons.mpr ⟨ok_sald F Zx dL_law_252 (by show 252 + 1 < 100000; decide), ?_⟩
  refine List.forall_mem_cons.mpr ⟨ok_callV F (spG_ok yX7_service cX7_service 3 (some .int) 5 aW) ln_lw_Q rcv_aW (by decide +kernel) (by decide) dL_law_253 (by decide), ?_⟩
  refine List.forall_mem_cons.mpr ⟨ok_icmp_eq F dL_law_256 (by decide) (by decide) (by decide), ?_⟩
  refine List.forall_mem_cons.mpr ⟨ok_iconst F dL_law_259 (by decide) (by decide), ?_⟩
  refine List.forall_mem_cons.mpr ⟨ok_aload_n F dL_law_261 rfl (by decide), ?_⟩
  refine List.forall_mem_cons.mpr ⟨ok_aload_n F dL_law_262 rfl (by decide), ?_⟩
  refine List.forall_mem_cons.mpr ⟨ok_iload_n F dL_law_263 rfl (by decide), ?_⟩
  refine List.forall_mem_cons.mpr ⟨ok_iconst F dL_law_264 (by decide) (by decide), ?_⟩
  refine List.forall_mem_cons.mpr ⟨ok_iadd F dL_law_265 (by decide), ?_⟩
  refine List.forall_mem_cons.mpr ⟨ok_sald F Zx dL_law_266 (by show 266 + 1 < 100000; decide), ?_⟩
  refine List.forall_mem_cons.mpr ⟨ok_aload_n F dL_law_267 rfl (by decide), ?_⟩
  refine List.forall_mem_cons.mpr ⟨ok_iload_n F dL_law_268 rfl (by decide), ?_⟩
  refine List.forall_mem_cons.mpr ⟨ok_iconst F dL_law_269 (by decide) (by decide), ?_⟩
  refine List.forall_mem_cons.mpr ⟨ok_iadd F dL_law_270 (by decide), ?_⟩
  refine List.forall_mem_cons.mpr ⟨ok_sald F Zx dL_law_271 (by show 271 + 1 < 100000; decide), ?_⟩
  refine List.forall_mem_cons.mpr ⟨ok_callV F (spG_ok yX6_pumpOf cX6_pumpOf 4 (some .int) 2 fpW) ln_lw_F rcv_fpW (by decide +kernel) (by decide) dL_law_272 (by decide), ?_⟩
  refine List.forall_mem_cons.mpr ⟨ok_aload_n F dL_law_275 rfl (by decide), ?_⟩
  refine List.forall_mem_cons.mpr ⟨ok_aload_n F dL_law_276 rfl (by decide), ?_⟩
  refine List.forall_mem_cons.mpr ⟨ok_iload_n F dL_law_277 rfl (by decide), ?_⟩
  refine List.forall_mem_cons.mpr ⟨ok_iconst F dL_law_278 (by decide) (by decide), ?_⟩
  refine List.forall_mem_cons.mpr ⟨ok_iadd F dL_law_279 (by decide), ?_⟩
  refine List.forall_mem_cons.mpr ⟨ok_sald F Zx dL_law_280 (by show 280 + 1 < 100000; decide), ?_⟩
  refine List.forall_mem_cons.mpr ⟨ok_aload_n F dL_law_281 rfl (by decide), ?_⟩
  refine List.forall_mem_cons.mpr ⟨ok_iload_n F dL_law_282 rfl (by decide), ?_⟩
  refine List.forall_mem_cons.mpr ⟨ok_iconst F dL_law_283 (by decide) (by decide), ?_⟩
  refine List.forall_mem_cons.mpr ⟨ok_iadd F dL_law_284 (by decide), ?_⟩
  refine List.forall_mem_cons.mpr ⟨ok_sald F Zx dL_law_285 (by show 285 + 1 < 100000; decide), ?_⟩
  refine List.forall_mem_cons.mpr ⟨ok_callV F (spG_ok yX7_pumpOf cX7_pumpOf 3 (some .int) 2 aW) ln_lw_Q rcv_aW (by decide +kernel) (by decide) dL_law_286 (by decide), ?_⟩
  refine List.forall_mem_cons.mpr ⟨ok_icmp_eq F dL_law_289 (by decide) (by decide) (by decide), ?_⟩
  refine List.forall_mem_cons.mpr ⟨ok_iconst F dL_law_292 (by decide) (by decide), ?_⟩
  refine List.forall_mem_cons.mpr ⟨ok_aload_n F dL_law_294 rfl (by decide), ?_⟩
  refine List.forall_mem_cons.mpr ⟨ok_aload_n F dL_law_295 rfl (by decide), ?_⟩
  refine List.forall_mem_cons.mpr ⟨ok_iload_n F dL_law_296 rfl (by decide), ?_⟩
  refine List.forall_mem_cons.mpr ⟨ok_iconst F dL_law_297 (by decide) (by decide), ?_⟩
  refine List.forall_mem_cons.mpr ⟨ok_iadd F dL_law_298 (by decide), ?_⟩
  refine List.forall_mem_cons.mpr ⟨ok_sald F Zx dL_law_299 (by show 299 + 1 < 100000; decide), ?_⟩
  refine List.forall_mem_cons.mpr ⟨ok_aload_n F dL_law_300 rfl (by decide), ?_⟩
  refine List.forall_mem_cons.mpr ⟨ok_iload_n F dL_law_301 rfl (by decide), ?_⟩
  refine List.forall_mem_cons.mpr ⟨ok_iconst F dL_law_302 (by decide) (by decide), ?_⟩
  refine List.forall_mem_cons.mpr ⟨ok_iadd F dL_law_303 (by decide), ?_⟩
  refine List.forall_mem_cons.mpr ⟨ok_sald F Zx dL_law_304 (by show 304 + 1 < 100000; decide), ?_⟩
  refine List.forall_mem_cons.mpr ⟨ok_aload_n F dL_law_305 rfl (by decide), ?_⟩
  refine List.forall_mem_cons.mpr ⟨ok_iload_n F dL_law_306 rfl (by decide), ?_⟩
  refine List.forall_mem_cons.mpr ⟨ok_iconst F dL_law_307 (by decide) (by decide), ?_⟩
  refine List.forall_mem_cons.mpr ⟨ok_iadd F dL_law_308 (by decide), ?_⟩
  refine List.forall_mem_cons.mpr ⟨ok_sald F Zx dL_law_309 (by show 309 + 1 < 100000; decide), ?_⟩
  refine List.forall_mem_cons.mpr ⟨ok_callV F (spG_ok yX6_curve cX6_curve 4 (some .int) 2 fpW) ln_lw_F rcv_fpW (by decide +kernel) (by decide) dL_law_310 (by decide), ?_⟩
  refine List.forall_mem_cons.mpr ⟨ok_aload_n F dL_law_313 rfl (by decide), ?_⟩
  refine List.forall_mem_cons.mpr ⟨ok_aload_n F dL_law_314 rfl (by decide), ?_⟩
  refine List.forall_mem_cons.mpr ⟨ok_iload_n F dL_law_315 rfl (by decide), ?_⟩
  refine List.forall_mem_cons.mpr ⟨ok_iconst F dL_law_316 (by decide) (by decide), ?_⟩
  refine List.forall_mem_cons.mpr ⟨ok_iadd F dL_law_317 (by decide), ?_⟩
  refine List.forall_mem_cons.mpr ⟨ok_sald F Zx dL_law_318 (by show 318 + 1 < 100000; decide), ?_⟩
  refine List.forall_mem_cons.mpr ⟨ok_aload_n F dL_law_319 rfl (by decide), ?_⟩
  refine List.forall_mem_cons.mpr ⟨ok_iload_n F dL_law_320 rfl (by decide), ?_⟩
  refine List.forall_mem_cons.mpr ⟨ok_iconst F dL_law_321 (by decide) (by decide), ?_⟩
  refine List.forall_mem_cons.mpr ⟨ok_iadd F dL_law_322 (by decide), ?_⟩
  refine List.forall_mem_cons.mpr ⟨ok_sald F Zx dL_law_323 (by show 323 + 1 < 100000; decide), ?_⟩
  refine List.forall_mem_cons.mpr ⟨ok_aload_n F dL_law_324 rfl (by decide), ?_⟩
  refine List.forall_mem_cons.mpr ⟨ok_iload_n F dL_law_325 rfl (by decide), ?_⟩
  refine List.forall_mem_cons.mpr ⟨ok_iconst F dL_law_326 (by decide) (by decide), ?_⟩
  refine List.forall_mem_cons.mpr ⟨ok_iadd F dL_law_327 (by decide), ?_⟩
  refine List.forall_mem_cons.mpr ⟨ok_sald F Zx dL_law_328 (by show 328 + 1 < 100000; decide), ?_⟩
  refine List.forall_mem_cons.mpr ⟨ok_callV F (spG_ok yX7_curve cX7_curve 4 (some .int) 2 aW) ln_lw_Q rcv_aW (by decide +kernel) (by decide) dL_law_329 (by decide), ?_⟩
  refine List.forall_mem_cons.mpr ⟨ok_icmp_eq F dL_law_332 (by decide) (by decide) (by decide), ?_⟩
  refine List.forall_mem_cons.mpr ⟨ok_iconst F dL_law_335 (by decide) (by decide), ?_⟩
  refine List.forall_mem_cons.mpr ⟨ok_aload_n F dL_law_337 rfl (by decide), ?_⟩
  refine List.forall_mem_cons.mpr ⟨ok_aload_n F dL_law_338 rfl (by decide), ?_⟩
  refine List.forall_mem_cons.mpr ⟨ok_iload_n F dL_law_339 rfl (by decide), ?_⟩
  refine List.forall_mem_cons.mpr ⟨ok_iconst F dL_law_340 (by decide) (by decide), ?_⟩
  refine List.forall_mem_cons.mpr ⟨ok_iadd F dL_law_341 (by decide), ?_⟩
  refine List.forall_mem_cons.mpr ⟨ok_sald F Zx dL_law_342 (by show 342 + 1 < 100000; decide), ?_⟩
  refine List.forall_mem_cons.mpr ⟨ok_callV F (spG_ok yX6_readyAt cX6_readyAt 3 (some .int) 3 fpW) ln_lw_F rcv_fpW (by decide +kernel) (by decide) dL_law_343 (by decide), ?_⟩
  refine List.forall_mem_cons.mpr ⟨ok_aload_n F dL_law_346 rfl (by decide), ?_⟩
  refine List.forall_mem_cons.mpr ⟨ok_aload_n F dL_law_347 rfl (by decide), ?_⟩
  refine List.forall_mem_cons.mpr ⟨ok_iload_n F dL_law_348 rfl (by decide), ?_⟩
  refine List.forall_mem_cons.mpr ⟨ok_iconst F dL_law_349 (by decide) (by decide), ?_⟩
  refine List.forall_mem_cons.mpr ⟨ok_iadd F dL_law_350 (by decide), ?_⟩
  refine List.forall_mem_cons.mpr ⟨ok_sald F Zx dL_law_351 (by show 351 + 1 < 100000; decide), ?_⟩
  refine List.forall_mem_cons.mpr ⟨ok_callV F (spG_ok yX7_readyAt cX7_readyAt 3 (some .int) 5 aW) ln_lw_Q rcv_aW (by decide +kernel) (by decide) dL_law_352 (by decide), ?_⟩
  refine List.forall_mem_cons.mpr ⟨ok_icmp_eq F dL_law_355 (by decide) (by decide) (by decide), ?_⟩
  refine List.forall_mem_cons.mpr ⟨ok_iconst F dL_law_358 (by decide) (by decide), ?_⟩
  refine List.forall_mem_cons.mpr ⟨ok_aload_n F dL_law_360 rfl (by decide), ?_⟩
  refine List.forall_mem_cons.mpr ⟨ok_callV F (spG_ok yX6_balance cX6_balance 1 (some .int) 2 fpW) ln_lw_F rcv_fpW (by decide +kernel) (by decide) dL_law_361 (by decide), ?_⟩
  refine List.forall_mem_cons.mpr ⟨ok_aload_n F dL_law_364 rfl (by decide), ?_⟩
  refine List.forall_mem_cons.mpr ⟨ok_callV F (spG_ok yX7_balance cX7_balance 4 (some .int) 1 aW) ln_lw_Q rcv_aW (by decide +kernel) (by decide) dL_law_365 (by decide), ?_⟩
  refine List.forall_mem_cons.mpr ⟨ok_icmp_eq F dL_law_368 (by decide) (by decide) (by decide), ?_⟩
  refine List.forall_mem_cons.mpr ⟨ok_iconst F dL_law_371 (by decide) (by decide), ?_⟩
  refine List.forall_mem_cons.mpr ⟨ok_aload_n F dL_law_373 rfl (by decide), ?_⟩
  refine List.forall_mem_cons.mpr ⟨ok_aload_n F dL_law_374 rfl (by decide), ?_⟩
  refine List.forall_mem_cons.mpr ⟨ok_iload_n F dL_law_375 rfl (by decide), ?_⟩
  refine List.forall_mem_cons.mpr ⟨ok_iconst F dL_law_376 (by decide) (by decide), ?_⟩
  refine List.forall_mem_cons.mpr ⟨ok_iadd F dL_law_377 (by decide), ?_⟩
  refine List.forall_mem_cons.mpr ⟨ok_sald F Zx dL_law_378 (by show 378 + 1 < 100000; decide), ?_⟩
  refine List.forall_mem_cons.mpr ⟨ok_callV F (spG_ok yX6_zone cX6_zone 2 (some .int) 4 fpW) ln_lw_F rcv_fpW (by decide +kernel) (by decide) dL_law_379 (by decide), ?_⟩
  refine List.forall_mem_cons.mpr ⟨ok_aload_n F dL_law_382 rfl (by decide), ?_⟩
  refine List.forall_mem_cons.mpr ⟨ok_aload_n F dL_law_383 rfl (by decide), ?_⟩
  refine List.forall_mem_cons.mpr ⟨ok_iload_n F dL_law_384 rfl (by decide), ?_⟩
  refine List.forall_mem_cons.mpr ⟨ok_iconst F dL_law_385 (by decide) (by decide), ?_⟩
  refine List.forall_mem_cons.mpr ⟨ok_iadd F dL_law_386 (by decide), ?_⟩
  refine List.forall_mem_cons.mpr ⟨ok_sald F Zx dL_law_387 (by show 387 + 1 < 100000; decide), ?_⟩
  refine List.forall_mem_cons.mpr ⟨ok_callV F (spG_ok yX7_zone cX7_zone 3 (some .int) 1 aW) ln_lw_Q rcv_aW (by decide +kernel) (by decide) dL_law_388 (by decide), ?_⟩
  refine List.forall_mem_cons.mpr ⟨ok_icmp_eq F dL_law_391 (by decide) (by decide) (by decide), ?_⟩
  refine List.forall_mem_cons.mpr ⟨ok_iconst F dL_law_394 (by decide) (by decide), ?_⟩
  refine List.forall_mem_cons.mpr ⟨ok_aload_n F dL_law_396 rfl (by decide), ?_⟩
  refine List.forall_mem_cons.mpr ⟨ok_aload_n F dL_law_397 rfl (by decide), ?_⟩
  refine List.forall_mem_cons.mpr ⟨ok_iload_n F dL_law_398 rfl (by decide), ?_⟩
  refine List.forall_mem_cons.mpr ⟨ok_iconst F dL_law_399 (by decide) (by decide), ?_⟩
  refine List.forall_mem_cons.mpr ⟨ok_iadd F dL_law_400 (by decide), ?_⟩
  refine List.forall_mem_cons.mpr ⟨ok_sald F Zx dL_law_401 (by show 401 + 1 < 100000; decide), ?_⟩
  refine List.forall_mem_cons.mpr ⟨ok_aload_n F dL_law_402 rfl (by decide), ?_⟩
  refine List.forall_mem_cons.mpr ⟨ok_iload_n F dL_law_403 rfl (by decide), ?_⟩
  refine List.forall_mem_cons.mpr ⟨ok_iconst F dL_law_404 (by decide) (by decide), ?_⟩
  refine List.forall_mem_cons.mpr ⟨ok_iadd F dL_law_405 (by decide), ?_⟩
  refine List.forall_mem_cons.mpr ⟨ok_sald F Zx dL_law_406 (by show 406 + 1 < 100000; decide), ?_⟩
  refine List.forall_mem_cons.mpr ⟨ok_callV F (spG_ok yX6_open cX6_open 4 (some .int) 4 fpW) ln_lw_F rcv_fpW (by decide +kernel) (by decide) dL_law_407 (by decide), ?_⟩
  refine List.forall_mem_cons.mpr ⟨ok_aload_n F dL_law_410 rfl (by decide), ?_⟩
  refine List.forall_mem_cons.mpr ⟨ok_aload_n F dL_law_411 rfl (by decide), ?_⟩
  refine List.forall_mem_cons.mpr ⟨ok_iload_n F dL_law_412 rfl (by decide), ?_⟩
  refine List.forall_mem_cons.mpr ⟨ok_iconst F dL_law_413 (by decide) (by decide), ?_⟩
  refine List.forall_mem_cons.mpr ⟨ok_iadd F dL_law_414 (by decide), ?_⟩
  refine List.forall_mem_cons.mpr ⟨ok_sald F Zx dL_law_415 (by show 415 + 1 < 100000; decide), ?_⟩
  refine List.forall_mem_cons.mpr ⟨ok_aload_n F dL_law_416 rfl (by decide), ?_⟩
  refine List.forall_mem_cons.mpr ⟨ok_iload_n F dL_law_417 rfl (by decide), ?_⟩
  refine List.forall_mem_cons.mpr ⟨ok_iconst F dL_law_418 (by decide) (by decide), ?_⟩
  refine List.forall_mem_cons.mpr ⟨ok_iadd F dL_law_419 (by decide), ?_⟩
  refine List.forall_mem_cons.mpr ⟨ok_sald F Zx dL_law_420 (by show 420 + 1 < 100000; decide), ?_⟩
  refine List.forall_mem_cons.mpr ⟨ok_callV F (spG_ok yX7_open cX7_open 3 (some .int) 2 aW) ln_lw_Q rcv_aW (by decide +kernel) (by decide) dL_law_421 (by decide), ?_⟩
  refine List.forall_mem_cons.mpr ⟨ok_icmp_eq F dL_law_424 (by decide) (by decide) (by decide), ?_⟩
  refine List.forall_mem_cons.mpr ⟨ok_iconst F dL_law_427 (by decide) (by decide), ?_⟩
  refine List.forall_mem_cons.mpr ⟨ok_aload_n F dL_law_429 rfl (by decide), ?_⟩
  refine List.forall_mem_cons.mpr ⟨ok_aload_n F dL_law_430 rfl (by decide), ?_⟩
  refine List.forall_mem_cons.mpr ⟨ok_iload_n F dL_law_431 rfl (by decide), ?_⟩
  refine List.forall_mem_cons.mpr ⟨ok_iconst F dL_law_432 (by decide) (by decide), ?_⟩
  refine List.forall_mem_cons.mpr ⟨ok_iadd F dL_law_433 (by decide), ?_⟩
  refine List.forall_mem_cons.mpr ⟨ok_sald F Zx dL_law_434 (by show 434 + 1 < 100000; decide), ?_⟩
  refine List.forall_mem_cons.mpr ⟨ok_callV F (spG_ok yX6_leak cX6_leak 3 (some .int) 4 fpW) ln_lw_F rcv_fpW (by decide +kernel) (by decide) dL_law_435 (by decide), ?_⟩
  refine List.forall_mem_cons.mpr ⟨ok_aload_n F dL_law_438 rfl (by decide), ?_⟩
  refine List.forall_mem_cons.mpr ⟨ok_aload_n F dL_law_439 rfl (by decide), ?_⟩
  refine List.forall_mem_cons.mpr ⟨ok_iload_n F dL_law_440 rfl (by decide), ?_⟩
  refine List.forall_mem_cons.mpr ⟨ok_iconst F dL_law_441 (by decide) (by decide), ?_⟩
  refine List.forall_mem_cons.mpr ⟨ok_iadd F dL_law_442 (by decide), ?_⟩
  refine List.forall_mem_cons.mpr ⟨ok_sald F Zx dL_law_443 (by show 443 + 1 < 100000; decide), ?_⟩
  refine List.forall_mem_cons.mpr ⟨ok_callV F (spG_ok yX7_leak cX7_leak 3 (some .int) 1 aW) ln_lw_Q rcv_aW (by decide +kernel) (by decide) dL_law_444 (by decide), ?_⟩
  refine List.forall_mem_cons.mpr ⟨ok_icmp_eq F dL_law_447 (by decide) (by decide) (by decide), ?_⟩
  refine List.forall_mem_cons.mpr ⟨ok_iconst F dL_law_450 (by decide) (by decide), ?_⟩
  refine List.forall_mem_cons.mpr ⟨ok_aload_n F dL_law_452 rfl (by decide), ?_⟩
  refine List.forall_mem_cons.mpr ⟨ok_aload_n F dL_law_453 rfl (by decide), ?_⟩
  refine List.forall_mem_cons.mpr ⟨ok_iload_n F dL_law_454 rfl (by decide), ?_⟩
  refine List.forall_mem_cons.mpr ⟨ok_iconst F dL_law_455 (by decide) (by decide), ?_⟩
  refine List.forall_mem_cons.mpr ⟨ok_iadd F dL_law_456 (by decide), ?_⟩
  refine List.forall_mem_cons.mpr ⟨ok_sald F Zx dL_law_457 (by show 457 + 1 < 100000; decide), ?_⟩
  refine List.forall_mem_cons.mpr ⟨ok_aload_n F dL_law_458 rfl (by decide), ?_⟩
  refine List.forall_mem_cons.mpr ⟨ok_iload_n F dL_law_459 rfl (by decide), ?_⟩
  refine List.forall_mem_cons.mpr ⟨ok_iconst F dL_law_460 (by decide) (by decide), ?_⟩
  refine List.forall_mem_cons.mpr ⟨ok_iadd F dL_law_461 (by decide), ?_⟩
  refine List.forall_mem_cons.mpr ⟨ok_sald F Zx dL_law_462 (by show 462 + 1 < 100000; decide), ?_⟩
  refine List.forall_mem_cons.mpr ⟨ok_aload_n F dL_law_463 rfl (by decide), ?_⟩
  refine List.forall_mem_cons.mpr ⟨ok_iload_n F dL_law_464 rfl (by decide), ?_⟩
  refine List.forall_mem_cons.mpr ⟨ok_iconst F dL_law_465 (by decide) (by decide), ?_⟩
  refine List.forall_mem_cons.mpr ⟨ok_iadd F dL_law_466 (by decide), ?_⟩
  refine List.forall_mem_cons.mpr ⟨ok_sald F Zx dL_law_467 (by show 467 + 1 < 100000; decide), ?_⟩
  refine List.forall_mem_cons.mpr ⟨ok_callV F (spG_ok yX6_programme cX6_programme 4 (some .int) 4 fpW) ln_lw_F rcv_fpW (by decide +kernel) (by decide) dL_law_468 (by decide), ?_⟩
  refine List.forall_mem_cons.mpr ⟨ok_aload_n F dL_law_471 rfl (by decide), ?_⟩
  refine List.forall_mem_cons.mpr ⟨ok_aload_n F dL_law_472 rfl (by decide), ?_⟩
  refine List.forall_mem_cons.mpr ⟨ok_iload_n F dL_law_473 rfl (by decide), ?_⟩
  refine List.forall_mem_cons.mpr ⟨ok_iconst F dL_law_474 (by decide) (by decide), ?_⟩
  refine List.forall_mem_cons.mpr ⟨ok_iadd F dL_law_475 (by decide), ?_⟩
  refine List.forall_mem_cons.mpr ⟨ok_sald F Zx dL_law_476 (by show 476 + 1 < 100000; decide), ?_⟩
  refine List.forall_mem_cons.mpr ⟨ok_aload_n F dL_law_477 rfl (by decide), ?_⟩
  refine List.forall_mem_cons.mpr ⟨ok_iload_n F dL_law_478 rfl (by decide), ?_⟩
  refine List.forall_mem_cons.mpr ⟨ok_iconst F dL_law_479 (by decide) (by decide), ?_⟩
  refine List.forall_mem_cons.mpr ⟨ok_iadd F dL_law_480 (by decide), ?_⟩
  refine List.forall_mem_cons.mpr ⟨ok_sald F Zx dL_law_481 (by show 481 + 1 < 100000; decide), ?_⟩
  refine List.forall_mem_cons.mpr ⟨ok_aload_n F dL_law_482 rfl (by decide), ?_⟩
  refine List.forall_mem_cons.mpr ⟨ok_iload_n F dL_law_483 rfl (by decide), ?_⟩
  refine List.forall_mem_cons.mpr ⟨ok_iconst F dL_law_484 (by decide) (by decide), ?_⟩
  refine List.forall_mem_cons.mpr ⟨ok_iadd F dL_law_485 (by decide), ?_⟩
  refine List.forall_mem_cons.mpr ⟨ok_sald F Zx dL_law_486 (by show 486 + 1 < 100000; decide), ?_⟩
  refine List.forall_mem_cons.mpr ⟨ok_callV F (spG_ok yX7_programme cX7_programme 5 (some .int) 2 aW) ln_lw_Q rcv_aW (by decide +kernel) (by decide) dL_law_487 (by decide), ?_⟩
  refine List.forall_mem_cons.mpr ⟨ok_icmp_eq F dL_law_490 (by decide) (by decide) (by decide), ?_⟩
  refine List.forall_mem_cons.mpr ⟨ok_iconst F dL_law_493 (by decide) (by decide), ?_⟩
  refine List.forall_mem_cons.mpr ⟨ok_aload_n F dL_law_495 rfl (by decide), ?_⟩
  refine List.forall_mem_cons.mpr ⟨ok_aload_n F dL_law_496 rfl (by decide), ?_⟩
  refine List.forall_mem_cons.mpr ⟨ok_iload_n F dL_law_497 rfl (by decide), ?_⟩
  refine List.forall_mem_cons.mpr ⟨ok_iconst F dL_law_498 (by decide) (by decide), ?_⟩
  refine List.forall_mem_cons.mpr ⟨ok_iadd F dL_law_499 (by decide), ?_⟩
  refine List.forall_mem_cons.mpr ⟨ok_sald F Zx dL_law_500 (by show 500 + 1 < 100000; decide), ?_⟩
  refine List.forall_mem_cons.mpr ⟨ok_aload_n F dL_law_501 rfl (by decide), ?_⟩
  refine List.forall_mem_cons.mpr ⟨ok_iload_n F dL_law_502 rfl (by decide), ?_⟩
  refine List.forall_mem_cons.mpr ⟨ok_iconst F dL_law_503 (by decide) (by decide), ?_⟩
  refine List.forall_mem_cons.mpr ⟨ok_iadd F dL_law_504 (by decide), ?_⟩
  refine List.forall_mem_cons.mpr ⟨ok_sald F Zx dL_law_505 (by show 505 + 1 < 100000; decide), ?_⟩
  refine List.forall_mem_cons.mpr ⟨ok_callV F (spG_ok yX6_zoneOf cX6_zoneOf 4 (some .int) 1 fpW) ln_lw_F rcv_fpW (by decide +kernel) (by decide) dL_law_506 (by decide), ?_⟩
  refine List.forall_mem_cons.mpr ⟨ok_aload_n F dL_law_509 rfl (by decide), ?_⟩
  refine List.forall_mem_cons.mpr ⟨ok_aload_n F dL_law_510 rfl (by decide), ?_⟩
  refine List.forall_mem_cons.mpr ⟨ok_iload_n F dL_law_511 rfl (by decide), ?_⟩
  refine List.forall_mem_cons.mpr ⟨ok_iconst F dL_law_512 (by decide) (by decide), ?_⟩
  refine List.forall_mem_cons.mpr ⟨ok_iadd F dL_law_513 (by decide), ?_⟩
  refine List.forall_mem_cons.mpr ⟨ok_sald F Zx dL_law_514 (by show 514 + 1 < 100000; decide), ?_⟩
  refine List.forall_mem_cons.mpr ⟨ok_aload_n F dL_law_515 rfl (by decide), ?_⟩
  refine List.forall_mem_cons.mpr ⟨ok_iload_n F dL_law_516 rfl (by decide), ?_⟩
  refine List.forall_mem_cons.mpr ⟨ok_iconst F dL_law_517 (by decide) (by decide), ?_⟩
  refine List.forall_mem_cons.mpr ⟨ok_iadd F dL_law_518 (by decide), ?_⟩
  refine List.forall_mem_cons.mpr ⟨ok_sald F Zx dL_law_519 (by show 519 + 1 < 100000; decide), ?_⟩
  refine List.forall_mem_cons.mpr ⟨ok_callV F (spG_ok yX7_zoneOf cX7_zoneOf 5 (some .int) 2 aW) ln_lw_Q rcv_aW (by decide +kernel) (by decide) dL_law_520 (by decide), ?_⟩
  refine List.forall_mem_cons.mpr ⟨ok_icmp_eq F dL_law_523 (by decide) (by decide) (by decide), ?_⟩
  refine List.forall_mem_cons.mpr ⟨ok_iconst F dL_law_526 (by decide) (by decide), ?_⟩
  refine List.forall_mem_cons.mpr ⟨ok_aload_n F dL_law_528 rfl (by decide), ?_⟩
  refine List.forall_mem_cons.mpr ⟨ok_aload_n F dL_law_529 rfl (by decide), ?_⟩
  refine List.forall_mem_cons.mpr ⟨ok_iload_n F dL_law_530 rfl (by decide), ?_⟩
  refine List.forall_mem_cons.mpr ⟨ok_iconst F dL_law_531 (by decide) (by decide), ?_⟩
  refine List.forall_mem_cons.mpr ⟨ok_iadd F dL_law_532 (by decide), ?_⟩
  refine List.forall_mem_cons.mpr ⟨ok_sald F Zx dL_law_533 (by show 533 + 1 < 100000; decide), ?_⟩
  refine List.forall_mem_cons.mpr ⟨ok_callV F (spG_ok yX6_fill cX6_fill 3 (some .int) 4 fpW) ln_lw_F rcv_fpW (by decide +kernel) (by decide) dL_law_534 (by decide), ?_⟩
  refine List.forall_mem_cons.mpr ⟨ok_aload_n F dL_law_537 rfl (by decide), ?_⟩
  refine List.forall_mem_cons.mpr ⟨ok_aload_n F dL_law_538 rfl (by decide), ?_⟩
  refine List.forall_mem_cons.mpr ⟨ok_iload_n F dL_law_539 rfl (by decide), ?_⟩
  refine List.forall_mem_cons.mpr ⟨ok_iconst F dL_law_540 (by decide) (by decide), ?_⟩
  refine List.forall_mem_cons.mpr ⟨ok_iadd F dL_law_541 (by decide), ?_⟩
  refine List.forall_mem_cons.mpr ⟨ok_sald F Zx dL_law_542 (by show 542 + 1 < 100000; decide), ?_⟩
  refine List.forall_mem_cons.mpr ⟨ok_callV F (spG_ok yX7_fill cX7_fill 3 (some .int) 1 aW) ln_lw_Q rcv_aW (by decide +kernel) (by decide) dL_law_543 (by decide), ?_⟩
  refine List.forall_mem_cons.mpr ⟨ok_icmp_eq F dL_law_546 (by decide) (by decide) (by decide), ?_⟩
  refine List.forall_mem_cons.mpr ⟨ok_iconst F dL_law_549 (by decide) (by decide), ?_⟩
  refine List.forall_mem_cons.mpr ⟨ok_aload_n F dL_law_551 rfl (by decide), ?_⟩
  refine List.forall_mem_cons.mpr ⟨ok_callV F (spG_ok yX6_reset cX6_reset 2 (some .int) 4 fpW) ln_lw_F rcv_fpW (by decide +kernel) (by decide) dL_law_552 (by decide), ?_⟩
  refine List.forall_mem_cons.mpr ⟨ok_aload_n F dL_law_555 rfl (by decide), ?_⟩
  refine List.forall_mem_cons.mpr ⟨ok_callV F (spG_ok yX7_reset cX7_reset 1 (some .int) 2 aW) ln_lw_Q rcv_aW (by decide +kernel) (by decide) dL_law_556 (by decide), ?_⟩
  refine List.forall_mem_cons.mpr ⟨ok_icmp_eq F dL_law_559 (by decide) (by decide) (by decide), ?_⟩
  refine List.forall_mem_cons.mpr ⟨ok_iconst F dL_law_562 (by decide) (by decide), ?_⟩
  refine List.forall_mem_cons.mpr ⟨ok_aload_n F dL_law_564 rfl (by decide), ?_⟩
  refine List.forall_mem_cons.mpr ⟨ok_aload_n F dL_law_565 rfl (by decide), ?_⟩
  refine List.forall_mem_cons.mpr ⟨ok_iload_n F dL_law_566 rfl (by decide), ?_⟩
  refine List.forall_mem_cons.mpr ⟨ok_iconst F dL_law_567 (by decide) (by decide), ?_⟩
  refine List.forall_mem_cons.mpr ⟨ok_iadd F dL_law_568 (by decide), ?_⟩
  refine List.forall_mem_cons.mpr ⟨ok_sald F Zx dL_law_569 (by show 569 + 1 < 100000; decide), ?_⟩
  refine List.forall_mem_cons.mpr ⟨ok_callV F (spG_ok yX6_pass cX6_pass 3 (some .int) 5 fpW) ln_lw_F rcv_fpW (by decide +kernel) (by decide) dL_law_570 (by decide), ?_⟩
  refine List.forall_mem_cons.mpr ⟨ok_aload_n F dL_law_573 rfl (by decide), ?_⟩
  refine List.forall_mem_cons.mpr ⟨ok_aload_n F dL_law_574 rfl (by decide), ?_⟩
  refine List.forall_mem_cons.mpr ⟨ok_iload_n F dL_law_575 rfl (by decide), ?_⟩
  refine List.forall_mem_cons.mpr ⟨ok_iconst F dL_law_576 (by decide) (by decide), ?_⟩
  refine List.forall_mem_cons.mpr ⟨ok_iadd F dL_law_577 (by decide), ?_⟩
  refine List.forall_mem_cons.mpr ⟨ok_sald F Zx dL_law_578 (by show 578 + 1 < 100000; decide), ?_⟩
  refine List.forall_mem_cons.mpr ⟨ok_callV F (spG_ok yX7_pass cX7_pass 3 (some .int) 8 aW) ln_lw_Q rcv_aW (by decide +kernel) (by decide) dL_law_579 (by decide), ?_⟩
  refine List.forall_mem_cons.mpr ⟨ok_icmp_eq F dL_law_582 (by decide) (by decide) (by decide), ?_⟩
  refine List.forall_mem_cons.mpr ⟨ok_iconst F dL_law_585 (by decide) (by decide), ?_⟩
  refine List.forall_mem_cons.mpr ⟨ok_aload_n F dL_law_587 rfl (by decide), ?_⟩
  refine List.forall_mem_cons.mpr ⟨ok_aload_n F dL_law_588 rfl (by decide), ?_⟩
  refine List.forall_mem_cons.mpr ⟨ok_iload_n F dL_law_589 rfl (by decide), ?_⟩
  refine List.forall_mem_cons.mpr ⟨ok_iconst F dL_law_590 (by decide) (by decide), ?_⟩
  refine List.forall_mem_cons.mpr ⟨ok_iadd F dL_law_591 (by decide), ?_⟩
  refine List.forall_mem_cons.mpr ⟨ok_sald F Zx dL_law_592 (by show 592 + 1 < 100000; decide), ?_⟩
  refine List.forall_mem_cons.mpr ⟨ok_aload_n F dL_law_593 rfl (by decide), ?_⟩
  refine List.forall_mem_cons.mpr ⟨ok_iload_n F dL_law_594 rfl (by decide), ?_⟩
  refine List.forall_mem_cons.mpr ⟨ok_iconst F dL_law_595 (by decide) (by decide), ?_⟩
  refine List.forall_mem_cons.mpr ⟨ok_iadd F dL_law_596 (by decide), ?_⟩
  refine List.forall_mem_cons.mpr ⟨ok_sald F Zx dL_law_597 (by show 597 + 1 < 100000; decide), ?_⟩
  refine List.forall_mem_cons.mpr ⟨ok_callV F (spG_ok yX6_foresee cX6_foresee 4 (some .int) 5 fpW) ln_lw_F rcv_fpW (by decide +kernel) (by decide) dL_law_598 (by decide), ?_⟩
  refine List.forall_mem_cons.mpr ⟨ok_aload_n F dL_law_601 rfl (by decide), ?_⟩
  refine List.forall_mem_cons.mpr ⟨ok_aload_n F dL_law_602 rfl (by decide), ?_⟩
  refine List.forall_mem_cons.mpr ⟨ok_iload_n F dL_law_603 rfl (by decide), ?_⟩
  refine List.forall_mem_cons.mpr ⟨ok_iconst F dL_law_604 (by decide) (by decide), ?_⟩
  refine List.forall_mem_cons.mpr ⟨ok_iadd F dL_law_605 (by decide), ?_⟩
  refine List.forall_mem_cons.mpr ⟨ok_sald F Zx dL_law_606 (by show 606 + 1 < 100000; decide), ?_⟩
  refine List.forall_mem_cons.mpr ⟨ok_aload_n F dL_law_607 rfl (by decide), ?_⟩
  refine List.forall_mem_cons.mpr ⟨ok_iload_n F dL_law_608 rfl (by decide), ?_⟩
  refine List.forall_mem_cons.mpr ⟨ok_iconst F dL_law_609 (by decide) (by decide), ?_⟩
  refine List.forall_mem_cons.mpr ⟨ok_iadd F dL_law_610 (by decide), ?_⟩
  refine List.forall_mem_cons.mpr ⟨ok_sald F Zx dL_law_611 (by show 611 + 1 < 100000; decide), ?_⟩
  refine List.forall_mem_cons.mpr ⟨ok_callV F (spG_ok yX7_foresee cX7_foresee 4 (some .int) 8 aW) ln_lw_Q rcv_aW (by decide +kernel) (by decide) dL_law_612 (by decide), ?_⟩
  refine List.forall_mem_cons.mpr ⟨ok_icmp_eq F dL_law_615 (by decide) (by decide) (by decide), ?_⟩
  refine List.forall_mem_cons.mpr ⟨ok_iconst F dL_law_618 (by decide) (by decide), ?_⟩
  refine List.forall_mem_cons.mpr ⟨ok_aload_n F dL_law_620 rfl (by decide), ?_⟩
  refine List.forall_mem_cons.mpr ⟨ok_aload_n F dL_law_621 rfl (by decide), ?_⟩
  refine List.forall_mem_cons.mpr ⟨ok_iload_n F dL_law_622 rfl (by decide), ?_⟩
  refine List.forall_mem_cons.mpr ⟨ok_iconst F dL_law_623 (by decide) (by decide), ?_⟩
  refine List.forall_mem_cons.mpr ⟨ok_iadd F dL_law_624 (by decide), ?_⟩
  refine List.forall_mem_cons.mpr ⟨ok_sald F Zx dL_law_625 (by show 625 + 1 < 100000; decide), ?_⟩
  refine List.forall_mem_cons.mpr ⟨ok_callV F (spG_ok yX6_foreseeEvent cX6_foreseeEvent 3 (some .int) 5 fpW) ln_lw_F rcv_fpW (by decide +kernel) (by decide) dL_law_626 (by decide), ?_⟩
  refine List.forall_mem_cons.mpr ⟨ok_aload_n F dL_law_629 rfl (by decide), ?_⟩
  refine List.forall_mem_cons.mpr ⟨ok_aload_n F dL_law_630 rfl (by decide), ?_⟩
  refine List.forall_mem_cons.mpr ⟨ok_iload_n F dL_law_631 rfl (by decide), ?_⟩
  refine List.forall_mem_cons.mpr ⟨ok_iconst F dL_law_632 (by decide) (by decide), ?_⟩
  refine List.forall_mem_cons.mpr ⟨ok_iadd F dL_law_633 (by decide), ?_⟩
  refine List.forall_mem_cons.mpr ⟨ok_sald F Zx dL_law_634 (by show 634 + 1 < 100000; decide), ?_⟩
  refine List.forall_mem_cons.mpr ⟨ok_callV F (spG_ok yX7_foreseeEvent cX7_foreseeEvent 3 (some .int) 7 aW) ln_lw_Q rcv_aW (by decide +kernel) (by decide) dL_law_635 (by decide), ?_⟩
  refine List.forall_mem_cons.mpr ⟨ok_icmp_eq F dL_law_638 (by decide) (by decide) (by decide), ?_⟩
  refine List.forall_mem_cons.mpr ⟨ok_iconst F dL_law_641 (by decide) (by decide), ?_⟩
  refine List.forall_mem_cons.mpr ⟨ok_aload_n F dL_law_643 rfl (by decide), ?_⟩
  refine List.forall_mem_cons.mpr ⟨ok_aload_n F dL_law_644 rfl (by decide), ?_⟩
  refine List.forall_mem_cons.mpr ⟨ok_iload_n F dL_law_645 rfl (by decide), ?_⟩
  refine List.forall_mem_cons.mpr ⟨ok_iconst F dL_law_646 (by decide) (by decide), ?_⟩
  refine List.forall_mem_cons.mpr ⟨ok_iadd F dL_law_647 (by decide), ?_⟩
  refine List.forall_mem_cons.mpr ⟨ok_sald F Zx dL_law_648 (by show 648 + 1 < 100000; decide), ?_⟩
  refine List.forall_mem_cons.mpr ⟨ok_callV F (spG_ok yX6_station cX6_station 2 (some .int) 3 fpW) ln_lw_F rcv_fpW (by decide +kernel) (by decide) dL_law_649 (by decide), ?_⟩
  refine List.forall_mem_cons.mpr ⟨ok_aload_n F dL_law_652 rfl (by decide), ?_⟩
  refine List.forall_mem_cons.mpr ⟨ok_aload_n F dL_law_653 rfl (by decide), ?_⟩
  refine List.forall_mem_cons.mpr ⟨ok_iload_n F dL_law_654 rfl (by decide), ?_⟩
  refine List.forall_mem_cons.mpr ⟨ok_iconst F dL_law_655 (by decide) (by decide), ?_⟩
  refine List.forall_mem_cons.mpr ⟨ok_iadd F dL_law_656 (by decide), ?_⟩
  refine List.forall_mem_cons.mpr ⟨ok_sald F Zx dL_law_657 (by show 657 + 1 < 100000; decide), ?_⟩
  refine List.forall_mem_cons.mpr ⟨ok_callV F (spG_ok yX7_station cX7_station 2 (some .int) 3 aW) ln_lw_Q rcv_aW (by decide +kernel) (by decide) dL_law_658 (by decide), ?_⟩
  refine List.forall_mem_cons.mpr ⟨ok_icmp_eq F dL_law_661 (by decide) (by decide) (by decide), ?_⟩
  refine List.forall_mem_cons.mpr ⟨ok_iconst F dL_law_664 (by decide) (by decide), ?_⟩
  refine List.forall_mem_cons.mpr ⟨ok_aload_n F dL_law_666 rfl (by decide), ?_⟩
  refine List.forall_mem_cons.mpr ⟨ok_aload_n F dL_law_667 rfl (by decide), ?_⟩
  refine List.forall_mem_cons.mpr ⟨ok_iload_n F dL_law_668 rfl (by decide), ?_⟩
  refine List.forall_mem_cons.mpr ⟨ok_iconst F dL_law_669 (by decide) (by decide), ?_⟩
  refine List.forall_mem_cons.mpr ⟨ok_iadd F dL_law_670 (by decide), ?_⟩
  refine List.forall_mem_cons.mpr ⟨ok_sald F Zx dL_law_671 (by show 671 + 1 < 100000; decide), ?_⟩
  refine List.forall_mem_cons.mpr ⟨ok_callV F (spG_ok yX6_nightAt cX6_nightAt 2 (some .int) 1 fpW) ln_lw_F rcv_fpW (by decide +kernel) (by decide) dL_law_672 (by decide), ?_⟩
  refine List.forall_mem_cons.mpr ⟨ok_aload_n F dL_law_675 rfl (by decide), ?_⟩
  refine List.forall_mem_cons.mpr ⟨ok_aload_n F dL_law_676 rfl (by decide), ?_⟩
  refine List.forall_mem_cons.mpr ⟨ok_iload_n F dL_law_677 rfl (by decide), ?_⟩
  refine List.forall_mem_cons.mpr ⟨ok_iconst F dL_law_678 (by decide) (by decide), ?_⟩
  refine List.forall_mem_cons.mpr ⟨ok_iadd F dL_law_679 (by decide), ?_⟩
  refine List.forall_mem_cons.mpr ⟨ok_sald F Zx dL_law_680 (by show 680 + 1 < 100000; decide), ?_⟩
  refine List.forall_mem_cons.mpr ⟨ok_callV F (spG_ok yX7_nightAt cX7_nightAt 2 (some .int) 0 aW) ln_lw_Q rcv_aW (by decide +kernel) (by decide) dL_law_681 (by decide), ?_⟩
  refine List.forall_mem_cons.mpr ⟨ok_icmp_eq F dL_law_684 (by decide) (by decide) (by decide), ?_⟩
  refine List.forall_mem_cons.mpr ⟨ok_iconst F dL_law_687 (by decide) (by decide), ?_⟩
  refine List.forall_mem_cons.mpr ⟨ok_aload_n F dL_law_689 rfl (by decide), ?_⟩
  refine List.forall_mem_cons.mpr ⟨ok_aload_n F dL_law_690 rfl (by decide), ?_⟩
  refine List.forall_mem_cons.mpr ⟨ok_iload_n F dL_law_691 rfl (by decide), ?_⟩
  refine List.forall_mem_cons.mpr ⟨ok_iconst F dL_law_692 (by decide) (by decide), ?_⟩
  refine List.forall_mem_cons.mpr ⟨ok_iadd F dL_law_693 (by decide), ?_⟩
  refine List.forall_mem_cons.mpr ⟨ok_sald F Zx dL_law_694 (by show 694 + 1 < 100000; decide), ?_⟩
  refine List.forall_mem_cons.mpr ⟨ok_aload_n F dL_law_695 rfl (by decide), ?_⟩
  refine List.forall_mem_cons.mpr ⟨ok_iload_n F dL_law_696 rfl (by decide), ?_⟩
  refine List.forall_mem_cons.mpr ⟨ok_iconst F dL_law_697 (by decide) (by decide), ?_⟩
  refine List.forall_mem_cons.mpr ⟨ok_iadd F dL_law_698 (by decide), ?_⟩
  refine List.forall_mem_cons.mpr ⟨ok_sald F Zx dL_law_699 (by show 699 + 1 < 100000; decide), ?_⟩
  refine List.forall_mem_cons.mpr ⟨ok_callV F (spG_ok yX6_eventAt cX6_eventAt 5 (some .int) 3 fpW) ln_lw_F rcv_fpW (by decide +kernel) (by decide) dL_law_700 (by decide), ?_⟩
  refine List.forall_mem_cons.mpr ⟨ok_aload_n F dL_law_703 rfl (by decide), ?_⟩
  refine List.forall_mem_cons.mpr ⟨ok_aload_n F dL_law_704 rfl (by decide), ?_⟩
  refine List.forall_mem_cons.mpr ⟨ok_iload_n F dL_law_705 rfl (by decide), ?_⟩
  refine List.forall_mem_cons.mpr ⟨ok_iconst F dL_law_706 (by decide) (by decide), ?_⟩
  refine List.forall_mem_cons.mpr ⟨ok_iadd F dL_law_707 (by decide), ?_⟩
  refine List.forall_mem_cons.mpr ⟨ok_sald F Zx dL_law_708 (by show 708 + 1 < 100000; decide), ?_⟩
  refine List.forall_mem_cons.mpr ⟨ok_aload_n F dL_law_709 rfl (by decide), ?_⟩
  refine List.forall_mem_cons.mpr ⟨ok_iload_n F dL_law_710 rfl (by decide), ?_⟩
  refine List.forall_mem_cons.mpr ⟨ok_iconst F dL_law_711 (by decide) (by decide), ?_⟩
  refine List.forall_mem_cons.mpr ⟨ok_iadd F dL_law_712 (by decide), ?_⟩
  refine List.forall_mem_cons.mpr ⟨ok_sald F Zx dL_law_713 (by show 713 + 1 < 100000; decide), ?_⟩
  refine List.forall_mem_cons.mpr ⟨ok_callV F (spG_ok yX7_eventAt cX7_eventAt 4 (some .int) 1 aW) ln_lw_Q rcv_aW (by decide +kernel) (by decide) dL_law_714 (by decide), ?_⟩
  refine List.forall_mem_cons.mpr ⟨ok_icmp_eq F dL_law_717 (by decide) (by decide) (by decide), ?_⟩
  refine List.forall_mem_cons.mpr ⟨ok_iconst F dL_law_720 (by decide) (by decide), ?_⟩
  refine List.forall_mem_cons.mpr ⟨ok_aload_n F dL_law_722 rfl (by decide), ?_⟩
  refine List.forall_mem_cons.mpr ⟨ok_aload_n F dL_law_723 rfl (by decide), ?_⟩
  refine List.forall_mem_cons.mpr ⟨ok_iload_n F dL_law_724 rfl (by decide), ?_⟩
  refine List.forall_mem_cons.mpr ⟨ok_iconst F dL_law_725 (by decide) (by decide), ?_⟩
  refine List.forall_mem_cons.mpr ⟨ok_iadd F dL_law_726 (by decide), ?_⟩
  refine List.forall_mem_cons.mpr ⟨ok_sald F Zx dL_law_727 (by show 727 + 1 < 100000; decide), ?_⟩
  refine List.forall_mem_cons.mpr ⟨ok_callV F (spG_ok yX6_count cX6_count 2 (some .int) 2 fpW) ln_lw_F rcv_fpW (by decide +kernel) (by decide) dL_law_728 (by decide), ?_⟩
  refine List.forall_mem_cons.mpr ⟨ok_aload_n F dL_law_731 rfl (by decide), ?_⟩
  refine List.forall_mem_cons.mpr ⟨ok_aload_n F dL_law_732 rfl (by decide), ?_⟩
  refine List.forall_mem_cons.mpr ⟨ok_iload_n F dL_law_733 rfl (by decide), ?_⟩
  refine List.forall_mem_cons.mpr ⟨ok_iconst F dL_law_734 (by decide) (by decide), ?_⟩
  refine List.forall_mem_cons.mpr ⟨ok_iadd F dL_law_735 (by decide), ?_⟩
  refine List.forall_mem_cons.mpr ⟨ok_sald F Zx dL_law_736 (by show 736 + 1 < 100000; decide), ?_⟩
  refine List.forall_mem_cons.mpr ⟨ok_callV F (spG_ok yX7_count cX7_count 2 (some .int) 4 aW) ln_lw_Q rcv_aW (by decide +kernel) (by decide) dL_law_737 (by decide), ?_⟩
  refine List.forall_mem_cons.mpr ⟨ok_icmp_eq F dL_law_740 (by decide) (by decide) (by decide), ?_⟩
  refine List.forall_mem_cons.mpr ⟨ok_iconst F dL_law_743 (by decide) (by decide), ?_⟩
  refine List.forall_mem_cons.mpr ⟨ok_aload_n F dL_law_745 rfl (by decide), ?_⟩
  refine List.forall_mem_cons.mpr ⟨ok_callV F (spG_ok yX6_undo cX6_undo 1 (some .int) 3 fpW) ln_lw_F rcv_fpW (by decide +kernel) (by decide) dL_law_746 (by decide), ?_⟩
  refine List.forall_mem_cons.mpr ⟨ok_aload_n F dL_law_749 rfl (by decide), ?_⟩
  refine List.forall_mem_cons.mpr ⟨ok_callV F (spG_ok yX7_undo cX7_undo 2 (some .int) 0 aW) ln_lw_Q rcv_aW (by decide +kernel) (by decide) dL_law_750 (by decide), ?_⟩
  refine List.forall_mem_cons.mpr ⟨ok_icmp_eq F dL_law_753 (by decide) (by decide) (by decide), ?_⟩
  refine List.forall_mem_cons.mpr ⟨ok_iconst F dL_law_756 (by decide) (by decide), ?_⟩
  refine List.forall_mem_cons.mpr ⟨ok_aload_n F dL_law_758 rfl (by decide), ?_⟩
  refine List.forall_mem_cons.mpr ⟨ok_aload_n F dL_law_759 rfl (by decide), ?_⟩
  refine List.forall_mem_cons.mpr ⟨ok_iload_n F dL_law_760 rfl (by decide), ?_⟩
  refine List.forall_mem_cons.mpr ⟨ok_iconst F dL_law_761 (by decide) (by decide), ?_⟩
  refine List.forall_mem_cons.mpr ⟨ok_iadd F dL_law_762 (by decide), ?_⟩
  refine List.forall_mem_cons.mpr ⟨ok_sald F Zx dL_law_763 (by show 763 + 1 < 100000; decide), ?_⟩
  refine List.forall_mem_cons.mpr ⟨ok_callV F (spG_ok yX6_type cX6_type 2 (some .int) 1 fpW) ln_lw_F rcv_fpW (by decide +kernel) (by decide) dL_law_764 (by decide), ?_⟩
  refine List.forall_mem_cons.mpr ⟨ok_aload_n F dL_law_767 rfl (by decide), ?_⟩
  refine List.forall_mem_cons.mpr ⟨ok_aload_n F dL_law_768 rfl (by decide), ?_⟩
  refine List.forall_mem_cons.mpr ⟨ok_iload_n F dL_law_769 rfl (by decide), ?_⟩
  refine List.forall_mem_cons.mpr ⟨ok_iconst F dL_law_770 (by decide) (by decide), ?_⟩
  refine List.forall_mem_cons.mpr ⟨ok_iadd F dL_law_771 (by decide), ?_⟩
  refine List.forall_mem_cons.mpr ⟨ok_sald F Zx dL_law_772 (by show 772 + 1 < 100000; decide), ?_⟩
  refine List.forall_mem_cons.mpr ⟨ok_callV F (spG_ok yX7_type cX7_type 2 (some .int) 1 aW) ln_lw_Q rcv_aW (by decide +kernel) (by decide) dL_law_773 (by decide), ?_⟩
  refine List.forall_mem_cons.mpr ⟨ok_icmp_eq F dL_law_776 (by decide) (by decide) (by decide), ?_⟩
  refine List.forall_mem_cons.mpr ⟨ok_iconst F dL_law_779 (by decide) (by decide), ?_⟩
  refine List.forall_mem_cons.mpr ⟨ok_aload_n F dL_law_781 rfl (by decide), ?_⟩
  refine List.forall_mem_cons.mpr ⟨ok_callV F (spG_ok yX6_clearText cX6_clearText 2 (some .int) 0 fpW) ln_lw_F rcv_fpW (by decide +kernel) (by decide) dL_law_782 (by decide), ?_⟩
  refine List.forall_mem_cons.mpr ⟨ok_aload_n F dL_law_785 rfl (by decide), ?_⟩
  refine List.forall_mem_cons.mpr ⟨ok_callV F (spG_ok yX7_clearText cX7_clearText 2 (some .int) 0 aW) ln_lw_Q rcv_aW (by decide +kernel) (by decide) dL_law_786 (by decide), ?_⟩
  refine List.forall_mem_cons.mpr ⟨ok_icmp_eq F dL_law_789 (by decide) (by decide) (by decide), ?_⟩
  refine List.forall_mem_cons.mpr ⟨ok_iconst F dL_law_792 (by decide) (by decide), ?_⟩
  refine List.forall_mem_cons.mpr ⟨ok_aload_n F dL_law_794 rfl (by decide), ?_⟩
  refine List.forall_mem_cons.mpr ⟨ok_aload_n F dL_law_795 rfl (by decide), ?_⟩
  refine List.forall_mem_cons.mpr ⟨ok_iload_n F dL_law_796 rfl (by decide), ?_⟩
  refine List.forall_mem_cons.mpr ⟨ok_iconst F dL_law_797 (by decide) (by decide), ?_⟩
  refine List.forall_mem_cons.mpr ⟨ok_iadd F dL_law_798 (by decide), ?_⟩
  refine List.forall_mem_cons.mpr ⟨ok_sald F Zx dL_law_799 (by show 799 + 1 < 100000; decide), ?_⟩
  refine List.forall_mem_cons.mpr ⟨ok_callV F (spG_ok yX6_fault cX6_fault 3 (some .int) 7 fpW) ln_lw_F rcv_fpW (by decide +kernel) (by decide) dL_law_800 (by decide), ?_⟩
  refine List.forall_mem_cons.mpr ⟨ok_aload_n F dL_law_803 rfl (by decide), ?_⟩
  refine List.forall_mem_cons.mpr ⟨ok_aload_n F dL_law_804 rfl (by decide), ?_⟩
  refine List.forall_mem_cons.mpr ⟨ok_iload_n F dL_law_805 rfl (by decide), ?_⟩
  refine List.forall_mem_cons.mpr ⟨ok_iconst F dL_law_806 (by decide) (by decide), ?_⟩
  refine List.forall_mem_cons.mpr ⟨ok_iadd F dL_law_807 (by decide), ?_⟩
  refine List.forall_mem_cons.mpr ⟨ok_sald F Zx dL_law_808 (by show 808 + 1 < 100000; decide), ?_⟩
  refine List.forall_mem_cons.mpr ⟨ok_callV F (spG_ok yX7_fault cX7_fault 2 (some .int) 11 aW) ln_lw_Q rcv_aW (by decide +kernel) (by decide) dL_law_809 (by decide), ?_⟩
  refine List.forall_mem_cons.mpr ⟨ok_icmp_eq F dL_law_812 (by decide) (by decide) (by decide), ?_⟩
  refine List.forall_mem_cons.mpr ⟨ok_iconst F dL_law_815 (by decide) (by decide), ?_⟩
  refine List.forall_mem_cons.mpr ⟨ok_aload_n F dL_law_817 rfl (by decide), ?_⟩
  refine List.forall_mem_cons.mpr ⟨ok_callV F (spG_ok yX6_play cX6_play 1 (some .int) 7 fpW) ln_lw_F rcv_fpW (by decide +kernel) (by decide) dL_law_818 (by decide), ?_⟩
  refine List.forall_mem_cons.mpr ⟨ok_aload_n F dL_law_821 rfl (by decide), ?_⟩
  refine List.forall_mem_cons.mpr ⟨ok_callV F (spG_ok yX7_play cX7_play 1 (some .int) 11 aW) ln_lw_Q rcv_aW (by decide +kernel) (by decide) dL_law_822 (by decide), ?_⟩
  refine List.forall_mem_cons.mpr ⟨ok_icmp_eq F dL_law_825 (by decide) (by decide) (by decide), ?_⟩
  refine List.forall_mem_cons.mpr ⟨ok_iconst F dL_law_828 (by decide) (by decide), ?_⟩
  refine List.forall_mem_cons.mpr ⟨ok_iinc F dL_law_830 (by decide) (by decide) (by decide), ?_⟩
  refine List.forall_mem_cons.mpr ⟨ok_goto F dL_law_833 (by decide) (by decide) (by decide), ?_⟩
  refine List.forall_mem_cons.mpr ⟨ok_iconst F dL_law_836 (by decide) (by decide), ?_⟩
  exact fun _ h => absurd h List.not_mem_nil
