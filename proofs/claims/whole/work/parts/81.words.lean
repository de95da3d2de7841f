/-! THE PROGRAM'S WORDS among the tables', by their places; what its entries must be -/
def NM : Nat := 192
def mjNs : List Nat := [0, 1, 1, 1, 0, 1, 3, 1, 1, 3, 0, 0, 4, 1, 1, 1, 1, 2, 4, 1, 1, 2, 0, 1, 1, 1, 1, 1, 1, 1, 1, 2, 4, 1, 4, 3, 1, 1, 2, 3, 0, 0, 0, 2, 0, 2, 2, 1, 1, 1, 3, 3, 2, 1, 0, 2, 0, 3, 1, 0, 2, 2, 4, 3, 5, 0, 4, 4, 1, 1, 3, 0, 2, 1, 3, 3, 5, 2, 1, 1, 1, 1, 0, 1, 2, 2, 2, 1, 2, 2, 1, 3, 1, 2, 1, 1, 1, 1, 4, 1, 1, 3, 3, 2, 1, 1, 1, 1, 1, 1, 1, 2, 1, 1, 2, 2, 1, 1, 1, 0, 3, 1, 1, 2, 1, 1, 1, 4, 4, 4, 4, 1, 1, 1, 3, 0, 1, 0, 2, 1, 1, 1, 2, 3, 3, 5, 2, 1, 2, 1, 1, 4, 1, 1, 1, 5, 1, 3, 4, 4, 3, 1, 2, 0, 0, 1, 1, 0, 1, 2, 2, 2, 3, 1, 2, 2, 4, 2, 1, 6, 3, 1, 2, 4, 2, 2, 1, 1, 1, 1, 1, 1]
def mjN (c : Nat) : Nat := mjNs.getD c 0
def FLp : List (Nat × Nat × Nat × Nat × Nat) := [(194, 0, 9, 0, 0), (196, 0, 15, 0, 1), (198, 0, 18, 0, 2), (200, 0, 21, 0, 3), (201, 0, 24, 0, 4), (203, 0, 27, 0, 5), (204, 0, 31, 0, 6), (206, 0, 35, 0, 7), (208, 0, 38, 0, 8), (125, 1, 9, 1, 0), (126, 1, 15, 1, 1), (127, 1, 18, 1, 2), (129, 1, 21, 1, 3), (131, 1, 24, 1, 4), (133, 1, 27, 1, 5), (135, 1, 31, 1, 6), (136, 1, 35, 1, 7), (163, 2, 9, 2, 0), (165, 2, 15, 2, 1), (167, 2, 18, 2, 2), (169, 2, 21, 2, 3), (170, 2, 24, 2, 4), (83, 3, 9, 3, 0), (85, 3, 15, 3, 1), (86, 3, 18, 3, 2), (87, 3, 21, 3, 3), (88, 3, 24, 3, 4), (89, 3, 28, 3, 5), (91, 3, 31, 3, 6), (93, 3, 34, 3, 7), (95, 3, 37, 3, 8), (475, 4, 9, 4, 0), (477, 4, 15, 4, 1), (232, 5, 12, 5, 2), (234, 5, 18, 5, 3), (236, 5, 22, 5, 4), (238, 5, 25, 5, 5), (240, 5, 28, 5, 6), (242, 5, 32, 5, 7), (244, 5, 35, 5, 8), (229, 5, 39, 5, 0), (230, 5, 43, 5, 1), (245, 5, 51, 5, 9), (247, 5, 79, 5, 10), (249, 5, 82, 5, 11), (251, 5, 85, 5, 12), (171, 5, 88, 2, 4), (96, 5, 101, 3, 8), (90, 5, 106, 3, 5), (92, 5, 109, 3, 6), (94, 5, 112, 3, 7), (137, 5, 119, 1, 7), (207, 5, 122, 0, 7), (130, 5, 132, 1, 3), (134, 5, 135, 1, 5), (132, 5, 142, 1, 4), (128, 5, 153, 1, 2), (84, 5, 166, 3, 0), (195, 5, 169, 0, 0), (205, 5, 172, 0, 6), (199, 5, 176, 0, 2), (197, 5, 179, 0, 1), (202, 5, 198, 0, 4), (282, 6, 11, 6, 2), (283, 6, 17, 6, 3), (287, 6, 21, 6, 7), (288, 6, 25, 6, 8), (290, 6, 28, 6, 10), (292, 6, 31, 6, 12), (294, 6, 34, 6, 14), (295, 6, 38, 6, 15), (280, 6, 45, 6, 0), (281, 6, 49, 6, 1), (284, 6, 62, 6, 4), (285, 6, 66, 6, 5), (97, 6, 114, 3, 8), (286, 6, 137, 6, 6), (476, 6, 161, 4, 0), (478, 6, 164, 4, 1), (246, 6, 195, 5, 9), (248, 6, 198, 5, 10), (231, 6, 201, 5, 1), (172, 6, 205, 2, 4), (250, 6, 208, 5, 11), (252, 6, 211, 5, 12), (233, 6, 214, 5, 2), (209, 6, 218, 0, 8), (164, 6, 226, 2, 0), (166, 6, 228, 2, 1), (168, 6, 230, 2, 2), (239, 6, 236, 5, 5), (237, 6, 239, 5, 4), (235, 6, 242, 5, 3), (241, 6, 248, 5, 6), (289, 6, 261, 6, 9), (291, 6, 276, 6, 11), (293, 6, 291, 6, 13), (243, 6, 309, 5, 7), (817, 7, 7, 7, 0), (818, 7, 13, 7, 1), (819, 7, 16, 7, 2), (820, 7, 19, 7, 3), (821, 7, 22, 7, 4), (822, 7, 25, 7, 5), (824, 7, 29, 7, 7), (825, 7, 32, 7, 8), (826, 7, 35, 7, 9), (828, 7, 38, 7, 11), (829, 7, 41, 7, 12), (830, 7, 44, 7, 13), (831, 7, 48, 7, 14), (832, 7, 51, 7, 15), (833, 7, 54, 7, 16), (834, 7, 57, 7, 17), (835, 7, 60, 7, 18), (836, 7, 63, 7, 19), (837, 7, 66, 7, 20), (838, 7, 69, 7, 21), (839, 7, 72, 7, 22), (840, 7, 75, 7, 23), (844, 7, 78, 7, 27), (845, 7, 81, 7, 28), (846, 7, 84, 7, 29), (848, 7, 87, 7, 31), (849, 7, 90, 7, 32), (850, 7, 93, 7, 33), (851, 7, 96, 7, 34), (852, 7, 99, 7, 35), (853, 7, 102, 7, 36), (854, 7, 105, 7, 37), (855, 7, 108, 7, 38), (856, 7, 111, 7, 39), (857, 7, 114, 7, 40), (858, 7, 117, 7, 41), (859, 7, 120, 7, 42), (860, 7, 123, 7, 43), (861, 7, 126, 7, 44), (863, 7, 129, 7, 46), (865, 7, 132, 7, 48), (867, 7, 135, 7, 50), (869, 7, 138, 7, 52), (823, 7, 173, 7, 6), (841, 7, 207, 7, 24), (842, 7, 210, 7, 25), (843, 7, 213, 7, 26), (862, 7, 222, 7, 45), (847, 7, 245, 7, 30), (827, 7, 264, 7, 10), (864, 7, 276, 7, 47), (866, 7, 286, 7, 49), (868, 7, 299, 7, 51)]
def MLp : List (Nat × Nat × Nat × Nat × Nat) := [(574, 0, 41, 28, 0), (635, 0, 47, 107, 4), (644, 0, 50, 2, 0), (667, 0, 53, 7, 0), (623, 2, 28, 16, 0), (722, 2, 32, 17, 0), (369, 3, 41, 107, 4), (370, 3, 45, 24, 0), (365, 3, 49, 28, 0), (344, 3, 52, 114, 4), (359, 3, 56, 115, 4), (374, 3, 59, 29, 0), (382, 3, 62, 112, 4), (383, 3, 65, 113, 4), (396, 3, 68, 34, 0), (752, 3, 72, 27, 0), (753, 3, 75, 37, 0), (505, 4, 19, 45, 0), (506, 4, 23, 49, 0), (545, 4, 27, 47, 0), (190, 5, 11, 0, 5), (566, 5, 47, 53, 0), (583, 5, 55, 4, 0), (587, 5, 58, 56, 0), (655, 5, 61, 59, 0), (684, 5, 64, 54, 0), (688, 5, 68, 55, 0), (692, 5, 72, 52, 0), (607, 5, 75, 107, 4), (570, 5, 93, 1, 0), (575, 5, 96, 11, 0), (579, 5, 115, 12, 0), (591, 5, 125, 13, 0), (595, 5, 129, 14, 0), (599, 5, 138, 57, 0), (614, 5, 145, 62, 0), (627, 5, 149, 63, 0), (603, 5, 156, 58, 0), (608, 5, 159, 110, 4), (611, 5, 162, 111, 4), (659, 5, 173, 5, 0), (663, 5, 182, 8, 0), (671, 5, 186, 60, 0), (675, 5, 189, 61, 0), (679, 5, 192, 9, 0), (683, 5, 195, 7, 0), (631, 5, 199, 3, 0), (618, 5, 202, 24, 0), (636, 5, 205, 31, 0), (619, 5, 208, 18, 0), (640, 5, 211, 6, 0), (648, 5, 214, 25, 0), (649, 5, 217, 64, 0), (653, 5, 221, 27, 0), (654, 5, 224, 26, 0), (79, 6, 41, 22, 5), (121, 6, 44, 10, 5), (159, 6, 56, 15, 2), (184, 6, 59, 50, 2), (333, 6, 69, 107, 1), (336, 6, 73, 95, 0), (340, 6, 77, 32, 0), (378, 6, 81, 34, 0), (388, 6, 85, 29, 0), (389, 6, 88, 108, 1), (392, 6, 91, 35, 0), (401, 6, 95, 33, 0), (405, 6, 98, 36, 0), (413, 6, 101, 24, 0), (414, 6, 104, 27, 0), (418, 6, 107, 37, 0), (426, 6, 110, 39, 0), (438, 6, 118, 25, 0), (442, 6, 121, 26, 0), (446, 6, 124, 28, 0), (451, 6, 127, 40, 0), (455, 6, 131, 42, 0), (459, 6, 134, 41, 0), (467, 6, 140, 109, 1), (471, 6, 143, 43, 2), (489, 6, 146, 96, 0), (493, 6, 150, 97, 0), (497, 6, 153, 45, 0), (501, 6, 157, 46, 0), (521, 6, 174, 47, 0), (533, 6, 178, 44, 0), (537, 6, 181, 23, 0), (541, 6, 185, 48, 0), (546, 6, 188, 98, 0), (562, 6, 191, 51, 0), (704, 6, 223, 16, 0), (705, 6, 233, 17, 0), (713, 6, 245, 3, 0), (718, 6, 251, 19, 0), (723, 6, 254, 20, 0), (727, 6, 257, 21, 0), (743, 6, 264, 111, 1), (744, 6, 267, 30, 0), (748, 6, 270, 38, 0), (754, 6, 273, 99, 0), (350, 6, 279, 116, 1), (766, 6, 282, 117, 1), (769, 6, 285, 118, 1), (772, 6, 288, 100, 0), (784, 6, 294, 101, 0), (789, 6, 298, 102, 0), (803, 6, 302, 104, 0), (793, 6, 305, 103, 0), (788, 6, 312, 52, 0), (797, 6, 315, 105, 1), (800, 6, 318, 106, 1), (347, 6, 321, 112, 1), (353, 6, 324, 190, 1), (362, 6, 329, 113, 1), (984, 7, 141, 120, 1), (995, 7, 145, 124, 1), (998, 7, 149, 125, 1), (981, 7, 152, 122, 1), (987, 7, 155, 121, 0), (991, 7, 159, 127, 0), (1001, 7, 163, 128, 0), (1009, 7, 167, 126, 0), (1017, 7, 170, 131, 0), (1041, 7, 177, 139, 1), (1052, 7, 180, 140, 0), (1048, 7, 183, 141, 0), (1056, 7, 186, 142, 1), (1075, 7, 190, 149, 0), (1079, 7, 194, 148, 0), (1083, 7, 198, 151, 0), (1087, 7, 201, 150, 0), (1095, 7, 204, 136, 0), (1131, 7, 216, 123, 1), (1115, 7, 219, 155, 0), (1127, 7, 225, 156, 0), (1138, 7, 228, 159, 0), (1142, 7, 231, 160, 0), (1146, 7, 235, 157, 0), (1134, 7, 238, 158, 0), (1154, 7, 242, 162, 1), (1111, 7, 248, 163, 0), (1119, 7, 251, 164, 0), (1123, 7, 255, 165, 0), (1150, 7, 258, 161, 0), (1107, 7, 261, 166, 0), (1177, 7, 266, 173, 0), (1181, 7, 269, 172, 0), (1194, 7, 272, 175, 0), (1189, 7, 279, 174, 0), (1190, 7, 283, 176, 0), (1206, 7, 289, 179, 0), (1222, 7, 293, 182, 0), (1218, 7, 296, 183, 0), (1226, 7, 302, 184, 0), (1238, 7, 305, 188, 0), (1246, 7, 308, 137, 0), (68, 8, 9, 65, 2), (813, 8, 12, 119, 2), (329, 8, 13, 66, 0), (977, 8, 17, 129, 0), (384, 8, 18, 67, 0), (1005, 8, 21, 130, 0), (397, 8, 22, 68, 0), (1013, 8, 26, 132, 0), (409, 8, 27, 69, 0), (1021, 8, 30, 133, 0), (422, 8, 31, 70, 0), (1025, 8, 35, 134, 0), (430, 8, 36, 71, 0), (1029, 8, 40, 135, 0), (463, 8, 41, 74, 0), (1037, 8, 44, 143, 0), (485, 8, 47, 75, 0), (1044, 8, 51, 144, 0), (510, 8, 52, 76, 0), (1059, 8, 56, 145, 0), (517, 8, 57, 77, 0), (1063, 8, 61, 146, 0), (525, 8, 62, 78, 0), (1067, 8, 65, 147, 0), (529, 8, 66, 79, 0), (1071, 8, 69, 152, 0), (550, 8, 70, 80, 0), (1091, 8, 73, 153, 0), (554, 8, 74, 81, 0), (1099, 8, 77, 154, 0), (434, 8, 78, 72, 0), (1033, 8, 82, 138, 0), (558, 8, 83, 82, 0), (1103, 8, 86, 167, 0), (696, 8, 87, 83, 0), (1157, 8, 90, 168, 0), (700, 8, 91, 84, 0), (1161, 8, 94, 169, 0), (709, 8, 95, 85, 0), (1165, 8, 98, 170, 0), (714, 8, 99, 86, 0), (1169, 8, 102, 171, 0), (735, 8, 103, 88, 0), (1173, 8, 107, 174, 0), (739, 8, 108, 89, 0), (1185, 8, 111, 177, 0), (758, 8, 112, 90, 0), (1198, 8, 115, 178, 0), (762, 8, 116, 91, 0), (1202, 8, 119, 180, 0), (776, 8, 120, 92, 0), (1210, 8, 123, 181, 0), (780, 8, 124, 93, 0), (1214, 8, 127, 185, 0), (807, 8, 128, 94, 0), (1230, 8, 131, 186, 0), (731, 8, 132, 87, 0), (1234, 8, 135, 187, 0), (447, 8, 136, 73, 0), (1242, 8, 139, 189, 0)]
def OIp : List (Nat × Nat × Nat) := [(193, 0, 3), (124, 1, 3), (162, 2, 3), (82, 3, 3), (474, 4, 3), (187, 5, 3), (71, 6, 3), (816, 7, 1)]
def CLp : List (Nat × Nat × Nat × Nat) := [(66, 8, 7, 6), (74, 6, 9, 4), (76, 6, 15, 3), (119, 6, 42, 1), (155, 6, 52, 5), (157, 6, 54, 2), (188, 5, 9, 0), (811, 8, 10, 7)]
def KCp : List (Nat × Nat × Nat × Nat) := [(356, 9, 265, 1431655765), (357, 9, 266, 858993459), (358, 9, 267, 252645135)]
def KLp : List (Nat × Nat × Nat × Nat) := [(1250, 8, 45, 4294967295)]
def IMp : List (Nat × Nat) := [(191, 0), (571, 1), (645, 2), (632, 3), (584, 4), (660, 5), (641, 6), (668, 7), (664, 8), (680, 9), (122, 10), (576, 11), (580, 12), (592, 13), (596, 14), (160, 15), (624, 16), (706, 17), (620, 18), (719, 19), (724, 20), (728, 21), (80, 22), (538, 23), (371, 24), (439, 25), (443, 26), (415, 27), (366, 28), (375, 29), (745, 30), (637, 31), (341, 32), (402, 33), (379, 34), (393, 35), (406, 36), (419, 37), (749, 38), (427, 39), (452, 40), (460, 41), (456, 42), (472, 43), (534, 44), (498, 45), (502, 46), (522, 47), (542, 48), (507, 49), (185, 50), (563, 51), (693, 52), (568, 53), (686, 54), (690, 55), (589, 56), (601, 57), (605, 58), (657, 59), (673, 60), (677, 61), (616, 62), (629, 63), (651, 64), (69, 65), (330, 66), (385, 67), (398, 68), (410, 69), (423, 70), (431, 71), (435, 72), (448, 73), (464, 74), (486, 75), (511, 76), (518, 77), (526, 78), (530, 79), (551, 80), (555, 81), (559, 82), (697, 83), (701, 84), (710, 85), (715, 86), (732, 87), (736, 88), (740, 89), (759, 90), (763, 91), (777, 92), (781, 93), (808, 94), (338, 95), (491, 96), (495, 97), (548, 98), (756, 99), (774, 100), (786, 101), (791, 102), (795, 103), (805, 104), (814, 119), (989, 121), (1011, 126), (993, 127), (1003, 128), (978, 129), (1006, 130), (1019, 131), (1014, 132), (1022, 133), (1026, 134), (1030, 135), (1097, 136), (1248, 137), (1034, 138), (1054, 140), (1050, 141), (1038, 143), (1045, 144), (1060, 145), (1064, 146), (1068, 147), (1081, 148), (1077, 149), (1089, 150), (1085, 151), (1072, 152), (1092, 153), (1100, 154), (1117, 155), (1129, 156), (1148, 157), (1136, 158), (1140, 159), (1144, 160), (1152, 161), (1113, 163), (1121, 164), (1125, 165), (1109, 166), (1104, 167), (1158, 168), (1162, 169), (1166, 170), (1170, 171), (1183, 172), (1179, 173), (1174, 174), (1196, 175), (1192, 176), (1186, 177), (1199, 178), (1208, 179), (1203, 180), (1211, 181), (1224, 182), (1220, 183), (1228, 184), (1215, 185), (1231, 186), (1235, 187), (1240, 188), (1243, 189)]
def STp : List (Nat × Nat) := [(798, 105), (801, 106), (334, 107), (390, 108), (468, 109), (609, 110), (612, 111), (348, 112), (363, 113), (345, 114), (360, 115), (351, 116), (767, 117), (770, 118), (985, 120), (982, 122), (1132, 123), (996, 124), (999, 125), (1042, 139), (1057, 142), (1155, 162), (354, 190)]
def SEp : List (Nat × Nat) := [(572, 1), (646, 2), (633, 3), (585, 4), (661, 5), (642, 6), (669, 7), (665, 8), (681, 9), (577, 11), (581, 12), (593, 13), (597, 14), (625, 16), (707, 17), (621, 18), (720, 19), (725, 20), (729, 21), (539, 23), (372, 24), (440, 25), (444, 26), (416, 27), (367, 28), (376, 29), (746, 30), (638, 31), (342, 32), (403, 33), (380, 34), (394, 35), (407, 36), (420, 37), (750, 38), (428, 39), (453, 40), (461, 41), (457, 42), (535, 44), (499, 45), (503, 46), (523, 47), (543, 48), (508, 49), (564, 51), (694, 52), (4, 53), (14, 54), (15, 55), (5, 56), (6, 57), (7, 58), (11, 59), (12, 60), (13, 61), (8, 62), (9, 63), (10, 64), (331, 66), (386, 67), (399, 68), (411, 69), (424, 70), (432, 71), (436, 72), (449, 73), (465, 74), (487, 75), (512, 76), (519, 77), (527, 78), (531, 79), (552, 80), (556, 81), (560, 82), (698, 83), (702, 84), (711, 85), (716, 86), (733, 87), (737, 88), (741, 89), (760, 90), (764, 91), (778, 92), (782, 93), (809, 94), (0, 95), (1, 96), (2, 97), (3, 98), (16, 99), (17, 100), (18, 101), (19, 102), (20, 103), (21, 104), (22, 121), (25, 126), (23, 127), (24, 128), (979, 129), (1007, 130), (26, 131), (1015, 132), (1023, 133), (1027, 134), (1031, 135), (33, 136), (54, 137), (1035, 138), (28, 140), (27, 141), (1039, 143), (1046, 144), (1061, 145), (1065, 146), (1069, 147), (30, 148), (29, 149), (32, 150), (31, 151), (1073, 152), (1093, 153), (1101, 154), (36, 155), (39, 156), (43, 157), (40, 158), (41, 159), (42, 160), (44, 161), (35, 163), (37, 164), (38, 165), (34, 166), (1105, 167), (1159, 168), (1163, 169), (1167, 170), (1171, 171), (46, 172), (45, 173), (1175, 174), (48, 175), (47, 176), (1187, 177), (1200, 178), (49, 179), (1204, 180), (1212, 181), (51, 182), (50, 183), (52, 184), (1216, 185), (1232, 186), (1236, 187), (53, 188), (1244, 189)]
def CWp : List (Nat × Nat) := [(192, 0), (573, 1), (647, 2), (634, 3), (586, 4), (662, 5), (643, 6), (670, 7), (666, 8), (682, 9), (123, 10), (578, 11), (582, 12), (594, 13), (598, 14), (161, 15), (626, 16), (708, 17), (622, 18), (721, 19), (726, 20), (730, 21), (81, 22), (540, 23), (373, 24), (441, 25), (445, 26), (417, 27), (368, 28), (377, 29), (747, 30), (639, 31), (343, 32), (404, 33), (381, 34), (395, 35), (408, 36), (421, 37), (751, 38), (429, 39), (454, 40), (462, 41), (458, 42), (473, 43), (536, 44), (500, 45), (504, 46), (524, 47), (544, 48), (509, 49), (186, 50), (565, 51), (695, 52), (569, 53), (687, 54), (691, 55), (590, 56), (602, 57), (606, 58), (658, 59), (674, 60), (678, 61), (617, 62), (630, 63), (652, 64), (70, 65), (332, 66), (387, 67), (400, 68), (412, 69), (425, 70), (433, 71), (437, 72), (450, 73), (466, 74), (488, 75), (513, 76), (520, 77), (528, 78), (532, 79), (553, 80), (557, 81), (561, 82), (699, 83), (703, 84), (712, 85), (717, 86), (734, 87), (738, 88), (742, 89), (761, 90), (765, 91), (779, 92), (783, 93), (810, 94), (339, 95), (492, 96), (496, 97), (549, 98), (757, 99), (775, 100), (787, 101), (792, 102), (796, 103), (806, 104), (799, 105), (802, 106), (335, 107), (391, 108), (469, 109), (610, 110), (613, 111), (349, 112), (364, 113), (346, 114), (361, 115), (352, 116), (768, 117), (771, 118), (815, 119), (986, 120), (990, 121), (983, 122), (1133, 123), (997, 124), (1000, 125), (1012, 126), (994, 127), (1004, 128), (980, 129), (1008, 130), (1020, 131), (1016, 132), (1024, 133), (1028, 134), (1032, 135), (1098, 136), (1249, 137), (1036, 138), (1043, 139), (1055, 140), (1051, 141), (1058, 142), (1040, 143), (1047, 144), (1062, 145), (1066, 146), (1070, 147), (1082, 148), (1078, 149), (1090, 150), (1086, 151), (1074, 152), (1094, 153), (1102, 154), (1118, 155), (1130, 156), (1149, 157), (1137, 158), (1141, 159), (1145, 160), (1153, 161), (1156, 162), (1114, 163), (1122, 164), (1126, 165), (1110, 166), (1106, 167), (1160, 168), (1164, 169), (1168, 170), (1172, 171), (1184, 172), (1180, 173), (1176, 174), (1197, 175), (1193, 176), (1188, 177), (1201, 178), (1209, 179), (1205, 180), (1213, 181), (1225, 182), (1221, 183), (1229, 184), (1217, 185), (1233, 186), (1237, 187), (1241, 188), (1245, 189), (355, 190)]
def INp : List (Nat × Nat) := [(61, 0), (58, 1), (60, 2), (57, 3), (64, 4), (59, 5), (56, 6), (62, 7), (55, 8), (63, 9)]
def INSp : List (Nat × Nat) := [(189, 0), (120, 1), (158, 2), (78, 3), (470, 4), (156, 5), (67, 6), (812, 7)]
def mjFL : List (Nat × Nat × Nat × Nat) := FLp.map (·.2)
def mjML : List (Nat × Nat × Nat × Nat) := MLp.map (·.2)
def tblG : List Jvm.Cond := lw_tbl.filter goodWord
theorem in_tbl {i : Nat} {w : Jvm.Cond} (h : lw_tbl[i]? = some w) : w ∈ lw_tbl := List.mem_of_getElem? h
theorem in_G {i : Nat} {w : Jvm.Cond} (h : lw_tbl[i]? = some w) (g : goodWord w = true) : w ∈ tblG := List.mem_filter.mpr ⟨in_tbl h, g⟩
set_option maxRecDepth 100000 in
theorem FLw : ∀ q ∈ FLp, lw_tbl[q.1]? = some (.fieldLink (cN q.2.1) q.2.2.1 (cN q.2.2.2.1) (cT q.2.2.2.1 q.2.2.2.2).2.1 (cT q.2.2.2.1 q.2.2.2.2).2.2.1) := by decide +kernel
set_option maxRecDepth 100000 in
theorem OIw : ∀ q ∈ OIp, lw_tbl[q.1]? = some (.methodLink (cN q.2.1) q.2.2 objectInit) := by decide +kernel
set_option maxRecDepth 100000 in
theorem CLw : ∀ q ∈ CLp, lw_tbl[q.1]? = some (.classLink (cN q.2.1) q.2.2.1 (cN q.2.2.2)) := by decide +kernel
set_option maxRecDepth 100000 in
theorem KCw : ∀ q ∈ KCp, lw_tbl[q.1]? = some (.constant (cN q.2.1) q.2.2.1 (Int32.ofInt q.2.2.2)) := by decide +kernel
set_option maxRecDepth 100000 in
theorem KLw : ∀ q ∈ KLp, lw_tbl[q.1]? = some (.constantLong (cN q.2.1) q.2.2.1 (Int64.ofInt q.2.2.2)) := by decide +kernel
set_option maxRecDepth 100000 in
theorem IMw : ∀ q ∈ IMp, lw_tbl[q.1]? = some (.instanceMethod (mjY q.2)) := by decide +kernel
set_option maxRecDepth 100000 in
theorem STw : ∀ q ∈ STp, lw_tbl[q.1]? = some (.static (mjY q.2)) := by decide +kernel
set_option maxRecDepth 100000 in
theorem SEw : ∀ q ∈ SEp, lw_tbl[q.1]? = some (.selects (cN (mjO q.2)) (mjY q.2) (mjY q.2)) := by decide +kernel
set_option maxRecDepth 100000 in
theorem INw : ∀ q ∈ INp, lw_tbl[q.1]? = some (.initialized (cN q.2)) := by decide +kernel
set_option maxRecDepth 100000 in
theorem INSw : ∀ q ∈ INSp, lw_tbl[q.1]? = some (.instantiable (cN q.2) (cF q.2)) := by decide +kernel
set_option maxRecDepth 100000 in
theorem MLw : ∀ q ∈ MLp, lw_tbl[q.1]? = some (if q.2.2.2.2 ≤ 2 then .methodLink (cN q.2.1) q.2.2.1 (mjY q.2.2.2.1) else .methodLinkNest (cN q.2.1) q.2.2.1 (mjY q.2.2.2.1) RX6) := by decide +kernel
set_option maxRecDepth 100000 in
theorem CW0 : lw_tbl[192]? = some (.code (mjY 0) (mjB 0) (mjX 0) (mjT 0)) := rfl
set_option maxRecDepth 100000 in
theorem CW1 : lw_tbl[573]? = some (.code (mjY 1) (mjB 1) (mjX 1) (mjT 1)) := rfl
set_option maxRecDepth 100000 in
theorem CW2 : lw_tbl[647]? = some (.code (mjY 2) (mjB 2) (mjX 2) (mjT 2)) := rfl
set_option maxRecDepth 100000 in
theorem CW3 : lw_tbl[634]? = some (.code (mjY 3) (mjB 3) (mjX 3) (mjT 3)) := rfl
set_option maxRecDepth 100000 in
theorem CW4 : lw_tbl[586]? = some (.code (mjY 4) (mjB 4) (mjX 4) (mjT 4)) := rfl
set_option maxRecDepth 100000 in
theorem CW5 : lw_tbl[662]? = some (.code (mjY 5) (mjB 5) (mjX 5) (mjT 5)) := rfl
set_option maxRecDepth 100000 in
theorem CW6 : lw_tbl[643]? = some (.code (mjY 6) (mjB 6) (mjX 6) (mjT 6)) := rfl
set_option maxRecDepth 100000 in
theorem CW7 : lw_tbl[670]? = some (.code (mjY 7) (mjB 7) (mjX 7) (mjT 7)) := rfl
set_option maxRecDepth 100000 in
theorem CW8 : lw_tbl[666]? = some (.code (mjY 8) (mjB 8) (mjX 8) (mjT 8)) := rfl
set_option maxRecDepth 100000 in
theorem CW9 : lw_tbl[682]? = some (.code (mjY 9) (mjB 9) (mjX 9) (mjT 9)) := rfl
set_option maxRecDepth 100000 in
theorem CW10 : lw_tbl[123]? = some (.code (mjY 10) (mjB 10) (mjX 10) (mjT 10)) := rfl
set_option maxRecDepth 100000 in
theorem CW11 : lw_tbl[578]? = some (.code (mjY 11) (mjB 11) (mjX 11) (mjT 11)) := rfl
set_option maxRecDepth 100000 in
theorem CW12 : lw_tbl[582]? = some (.code (mjY 12) (mjB 12) (mjX 12) (mjT 12)) := rfl
set_option maxRecDepth 100000 in
theorem CW13 : lw_tbl[594]? = some (.code (mjY 13) (mjB 13) (mjX 13) (mjT 13)) := rfl
set_option maxRecDepth 100000 in
theorem CW14 : lw_tbl[598]? = some (.code (mjY 14) (mjB 14) (mjX 14) (mjT 14)) := rfl
set_option maxRecDepth 100000 in
theorem CW15 : lw_tbl[161]? = some (.code (mjY 15) (mjB 15) (mjX 15) (mjT 15)) := rfl
set_option maxRecDepth 100000 in
theorem CW16 : lw_tbl[626]? = some (.code (mjY 16) (mjB 16) (mjX 16) (mjT 16)) := rfl
set_option maxRecDepth 100000 in
theorem CW17 : lw_tbl[708]? = some (.code (mjY 17) (mjB 17) (mjX 17) (mjT 17)) := rfl
set_option maxRecDepth 100000 in
theorem CW18 : lw_tbl[622]? = some (.code (mjY 18) (mjB 18) (mjX 18) (mjT 18)) := rfl
set_option maxRecDepth 100000 in
theorem CW19 : lw_tbl[721]? = some (.code (mjY 19) (mjB 19) (mjX 19) (mjT 19)) := rfl
set_option maxRecDepth 100000 in
theorem CW20 : lw_tbl[726]? = some (.code (mjY 20) (mjB 20) (mjX 20) (mjT 20)) := rfl
set_option maxRecDepth 100000 in
theorem CW21 : lw_tbl[730]? = some (.code (mjY 21) (mjB 21) (mjX 21) (mjT 21)) := rfl
set_option maxRecDepth 100000 in
theorem CW22 : lw_tbl[81]? = some (.code (mjY 22) (mjB 22) (mjX 22) (mjT 22)) := rfl
set_option maxRecDepth 100000 in
theorem CW23 : lw_tbl[540]? = some (.code (mjY 23) (mjB 23) (mjX 23) (mjT 23)) := rfl
set_option maxRecDepth 100000 in
theorem CW24 : lw_tbl[373]? = some (.code (mjY 24) (mjB 24) (mjX 24) (mjT 24)) := rfl
set_option maxRecDepth 100000 in
theorem CW25 : lw_tbl[441]? = some (.code (mjY 25) (mjB 25) (mjX 25) (mjT 25)) := rfl
set_option maxRecDepth 100000 in
theorem CW26 : lw_tbl[445]? = some (.code (mjY 26) (mjB 26) (mjX 26) (mjT 26)) := rfl
set_option maxRecDepth 100000 in
theorem CW27 : lw_tbl[417]? = some (.code (mjY 27) (mjB 27) (mjX 27) (mjT 27)) := rfl
set_option maxRecDepth 100000 in
theorem CW28 : lw_tbl[368]? = some (.code (mjY 28) (mjB 28) (mjX 28) (mjT 28)) := rfl
set_option maxRecDepth 100000 in
theorem CW29 : lw_tbl[377]? = some (.code (mjY 29) (mjB 29) (mjX 29) (mjT 29)) := rfl
set_option maxRecDepth 100000 in
theorem CW30 : lw_tbl[747]? = some (.code (mjY 30) (mjB 30) (mjX 30) (mjT 30)) := rfl
set_option maxRecDepth 100000 in
theorem CW31 : lw_tbl[639]? = some (.code (mjY 31) (mjB 31) (mjX 31) (mjT 31)) := rfl
set_option maxRecDepth 100000 in
theorem CW32 : lw_tbl[343]? = some (.code (mjY 32) (mjB 32) (mjX 32) (mjT 32)) := rfl
set_option maxRecDepth 100000 in
theorem CW33 : lw_tbl[404]? = some (.code (mjY 33) (mjB 33) (mjX 33) (mjT 33)) := rfl
set_option maxRecDepth 100000 in
theorem CW34 : lw_tbl[381]? = some (.code (mjY 34) (mjB 34) (mjX 34) (mjT 34)) := rfl
set_option maxRecDepth 100000 in
theorem CW35 : lw_tbl[395]? = some (.code (mjY 35) (mjB 35) (mjX 35) (mjT 35)) := rfl
set_option maxRecDepth 100000 in
theorem CW36 : lw_tbl[408]? = some (.code (mjY 36) (mjB 36) (mjX 36) (mjT 36)) := rfl
set_option maxRecDepth 100000 in
theorem CW37 : lw_tbl[421]? = some (.code (mjY 37) (mjB 37) (mjX 37) (mjT 37)) := rfl
set_option maxRecDepth 100000 in
theorem CW38 : lw_tbl[751]? = some (.code (mjY 38) (mjB 38) (mjX 38) (mjT 38)) := rfl
set_option maxRecDepth 100000 in
theorem CW39 : lw_tbl[429]? = some (.code (mjY 39) (mjB 39) (mjX 39) (mjT 39)) := rfl
set_option maxRecDepth 100000 in
theorem CW40 : lw_tbl[454]? = some (.code (mjY 40) (mjB 40) (mjX 40) (mjT 40)) := rfl
set_option maxRecDepth 100000 in
theorem CW41 : lw_tbl[462]? = some (.code (mjY 41) (mjB 41) (mjX 41) (mjT 41)) := rfl
set_option maxRecDepth 100000 in
theorem CW42 : lw_tbl[458]? = some (.code (mjY 42) (mjB 42) (mjX 42) (mjT 42)) := rfl
set_option maxRecDepth 100000 in
theorem CW43 : lw_tbl[473]? = some (.code (mjY 43) (mjB 43) (mjX 43) (mjT 43)) := rfl
set_option maxRecDepth 100000 in
theorem CW44 : lw_tbl[536]? = some (.code (mjY 44) (mjB 44) (mjX 44) (mjT 44)) := rfl
set_option maxRecDepth 100000 in
theorem CW45 : lw_tbl[500]? = some (.code (mjY 45) (mjB 45) (mjX 45) (mjT 45)) := rfl
set_option maxRecDepth 100000 in
theorem CW46 : lw_tbl[504]? = some (.code (mjY 46) (mjB 46) (mjX 46) (mjT 46)) := rfl
set_option maxRecDepth 100000 in
theorem CW47 : lw_tbl[524]? = some (.code (mjY 47) (mjB 47) (mjX 47) (mjT 47)) := rfl
set_option maxRecDepth 100000 in
theorem CW48 : lw_tbl[544]? = some (.code (mjY 48) (mjB 48) (mjX 48) (mjT 48)) := rfl
set_option maxRecDepth 100000 in
theorem CW49 : lw_tbl[509]? = some (.code (mjY 49) (mjB 49) (mjX 49) (mjT 49)) := rfl
set_option maxRecDepth 100000 in
theorem CW50 : lw_tbl[186]? = some (.code (mjY 50) (mjB 50) (mjX 50) (mjT 50)) := rfl
set_option maxRecDepth 100000 in
theorem CW51 : lw_tbl[565]? = some (.code (mjY 51) (mjB 51) (mjX 51) (mjT 51)) := rfl
set_option maxRecDepth 100000 in
theorem CW52 : lw_tbl[695]? = some (.code (mjY 52) (mjB 52) (mjX 52) (mjT 52)) := rfl
set_option maxRecDepth 100000 in
theorem CW53 : lw_tbl[569]? = some (.code (mjY 53) (mjB 53) (mjX 53) (mjT 53)) := rfl
set_option maxRecDepth 100000 in
theorem CW54 : lw_tbl[687]? = some (.code (mjY 54) (mjB 54) (mjX 54) (mjT 54)) := rfl
set_option maxRecDepth 100000 in
theorem CW55 : lw_tbl[691]? = some (.code (mjY 55) (mjB 55) (mjX 55) (mjT 55)) := rfl
set_option maxRecDepth 100000 in
theorem CW56 : lw_tbl[590]? = some (.code (mjY 56) (mjB 56) (mjX 56) (mjT 56)) := rfl
set_option maxRecDepth 100000 in
theorem CW57 : lw_tbl[602]? = some (.code (mjY 57) (mjB 57) (mjX 57) (mjT 57)) := rfl
set_option maxRecDepth 100000 in
theorem CW58 : lw_tbl[606]? = some (.code (mjY 58) (mjB 58) (mjX 58) (mjT 58)) := rfl
set_option maxRecDepth 100000 in
theorem CW59 : lw_tbl[658]? = some (.code (mjY 59) (mjB 59) (mjX 59) (mjT 59)) := rfl
set_option maxRecDepth 100000 in
theorem CW60 : lw_tbl[674]? = some (.code (mjY 60) (mjB 60) (mjX 60) (mjT 60)) := rfl
set_option maxRecDepth 100000 in
theorem CW61 : lw_tbl[678]? = some (.code (mjY 61) (mjB 61) (mjX 61) (mjT 61)) := rfl
set_option maxRecDepth 100000 in
theorem CW62 : lw_tbl[617]? = some (.code (mjY 62) (mjB 62) (mjX 62) (mjT 62)) := rfl
set_option maxRecDepth 100000 in
theorem CW63 : lw_tbl[630]? = some (.code (mjY 63) (mjB 63) (mjX 63) (mjT 63)) := rfl
set_option maxRecDepth 100000 in
theorem CW64 : lw_tbl[652]? = some (.code (mjY 64) (mjB 64) (mjX 64) (mjT 64)) := rfl
set_option maxRecDepth 100000 in
theorem CW65 : lw_tbl[70]? = some (.code (mjY 65) (mjB 65) (mjX 65) (mjT 65)) := rfl
set_option maxRecDepth 100000 in
theorem CW66 : lw_tbl[332]? = some (.code (mjY 66) (mjB 66) (mjX 66) (mjT 66)) := rfl
set_option maxRecDepth 100000 in
theorem CW67 : lw_tbl[387]? = some (.code (mjY 67) (mjB 67) (mjX 67) (mjT 67)) := rfl
set_option maxRecDepth 100000 in
theorem CW68 : lw_tbl[400]? = some (.code (mjY 68) (mjB 68) (mjX 68) (mjT 68)) := rfl
set_option maxRecDepth 100000 in
theorem CW69 : lw_tbl[412]? = some (.code (mjY 69) (mjB 69) (mjX 69) (mjT 69)) := rfl
set_option maxRecDepth 100000 in
theorem CW70 : lw_tbl[425]? = some (.code (mjY 70) (mjB 70) (mjX 70) (mjT 70)) := rfl
set_option maxRecDepth 100000 in
theorem CW71 : lw_tbl[433]? = some (.code (mjY 71) (mjB 71) (mjX 71) (mjT 71)) := rfl
set_option maxRecDepth 100000 in
theorem CW72 : lw_tbl[437]? = some (.code (mjY 72) (mjB 72) (mjX 72) (mjT 72)) := rfl
set_option maxRecDepth 100000 in
theorem CW73 : lw_tbl[450]? = some (.code (mjY 73) (mjB 73) (mjX 73) (mjT 73)) := rfl
set_option maxRecDepth 100000 in
theorem CW74 : lw_tbl[466]? = some (.code (mjY 74) (mjB 74) (mjX 74) (mjT 74)) := rfl
set_option maxRecDepth 100000 in
theorem CW75 : lw_tbl[488]? = some (.code (mjY 75) (mjB 75) (mjX 75) (mjT 75)) := rfl
set_option maxRecDepth 100000 in
theorem CW76 : lw_tbl[513]? = some (.code (mjY 76) (mjB 76) (mjX 76) (mjT 76)) := rfl
set_option maxRecDepth 100000 in
theorem CW77 : lw_tbl[520]? = some (.code (mjY 77) (mjB 77) (mjX 77) (mjT 77)) := rfl
set_option maxRecDepth 100000 in
theorem CW78 : lw_tbl[528]? = some (.code (mjY 78) (mjB 78) (mjX 78) (mjT 78)) := rfl
set_option maxRecDepth 100000 in
theorem CW79 : lw_tbl[532]? = some (.code (mjY 79) (mjB 79) (mjX 79) (mjT 79)) := rfl
set_option maxRecDepth 100000 in
theorem CW80 : lw_tbl[553]? = some (.code (mjY 80) (mjB 80) (mjX 80) (mjT 80)) := rfl
set_option maxRecDepth 100000 in
theorem CW81 : lw_tbl[557]? = some (.code (mjY 81) (mjB 81) (mjX 81) (mjT 81)) := rfl
set_option maxRecDepth 100000 in
theorem CW82 : lw_tbl[561]? = some (.code (mjY 82) (mjB 82) (mjX 82) (mjT 82)) := rfl
set_option maxRecDepth 100000 in
theorem CW83 : lw_tbl[699]? = some (.code (mjY 83) (mjB 83) (mjX 83) (mjT 83)) := rfl
set_option maxRecDepth 100000 in
theorem CW84 : lw_tbl[703]? = some (.code (mjY 84) (mjB 84) (mjX 84) (mjT 84)) := rfl
set_option maxRecDepth 100000 in
theorem CW85 : lw_tbl[712]? = some (.code (mjY 85) (mjB 85) (mjX 85) (mjT 85)) := rfl
set_option maxRecDepth 100000 in
theorem CW86 : lw_tbl[717]? = some (.code (mjY 86) (mjB 86) (mjX 86) (mjT 86)) := rfl
set_option maxRecDepth 100000 in
theorem CW87 : lw_tbl[734]? = some (.code (mjY 87) (mjB 87) (mjX 87) (mjT 87)) := rfl
set_option maxRecDepth 100000 in
theorem CW88 : lw_tbl[738]? = some (.code (mjY 88) (mjB 88) (mjX 88) (mjT 88)) := rfl
set_option maxRecDepth 100000 in
theorem CW89 : lw_tbl[742]? = some (.code (mjY 89) (mjB 89) (mjX 89) (mjT 89)) := rfl
set_option maxRecDepth 100000 in
theorem CW90 : lw_tbl[761]? = some (.code (mjY 90) (mjB 90) (mjX 90) (mjT 90)) := rfl
set_option maxRecDepth 100000 in
theorem CW91 : lw_tbl[765]? = some (.code (mjY 91) (mjB 91) (mjX 91) (mjT 91)) := rfl
set_option maxRecDepth 100000 in
theorem CW92 : lw_tbl[779]? = some (.code (mjY 92) (mjB 92) (mjX 92) (mjT 92)) := rfl
set_option maxRecDepth 100000 in
theorem CW93 : lw_tbl[783]? = some (.code (mjY 93) (mjB 93) (mjX 93) (mjT 93)) := rfl
set_option maxRecDepth 100000 in
theorem CW94 : lw_tbl[810]? = some (.code (mjY 94) (mjB 94) (mjX 94) (mjT 94)) := rfl
set_option maxRecDepth 100000 in
theorem CW95 : lw_tbl[339]? = some (.code (mjY 95) (mjB 95) (mjX 95) (mjT 95)) := rfl
set_option maxRecDepth 100000 in
theorem CW96 : lw_tbl[492]? = some (.code (mjY 96) (mjB 96) (mjX 96) (mjT 96)) := rfl
set_option maxRecDepth 100000 in
theorem CW97 : lw_tbl[496]? = some (.code (mjY 97) (mjB 97) (mjX 97) (mjT 97)) := rfl
set_option maxRecDepth 100000 in
theorem CW98 : lw_tbl[549]? = some (.code (mjY 98) (mjB 98) (mjX 98) (mjT 98)) := rfl
set_option maxRecDepth 100000 in
theorem CW99 : lw_tbl[757]? = some (.code (mjY 99) (mjB 99) (mjX 99) (mjT 99)) := rfl
set_option maxRecDepth 100000 in
theorem CW100 : lw_tbl[775]? = some (.code (mjY 100) (mjB 100) (mjX 100) (mjT 100)) := rfl
set_option maxRecDepth 100000 in
theorem CW101 : lw_tbl[787]? = some (.code (mjY 101) (mjB 101) (mjX 101) (mjT 101)) := rfl
set_option maxRecDepth 100000 in
theorem CW102 : lw_tbl[792]? = some (.code (mjY 102) (mjB 102) (mjX 102) (mjT 102)) := rfl
set_option maxRecDepth 100000 in
theorem CW103 : lw_tbl[796]? = some (.code (mjY 103) (mjB 103) (mjX 103) (mjT 103)) := rfl
set_option maxRecDepth 100000 in
theorem CW104 : lw_tbl[806]? = some (.code (mjY 104) (mjB 104) (mjX 104) (mjT 104)) := rfl
set_option maxRecDepth 100000 in
theorem CW105 : lw_tbl[799]? = some (.code (mjY 105) (mjB 105) (mjX 105) (mjT 105)) := rfl
set_option maxRecDepth 100000 in
theorem CW106 : lw_tbl[802]? = some (.code (mjY 106) (mjB 106) (mjX 106) (mjT 106)) := rfl
set_option maxRecDepth 100000 in
theorem CW107 : lw_tbl[335]? = some (.code (mjY 107) (mjB 107) (mjX 107) (mjT 107)) := rfl
set_option maxRecDepth 100000 in
theorem CW108 : lw_tbl[391]? = some (.code (mjY 108) (mjB 108) (mjX 108) (mjT 108)) := rfl
set_option maxRecDepth 100000 in
theorem CW109 : lw_tbl[469]? = some (.code (mjY 109) (mjB 109) (mjX 109) (mjT 109)) := rfl
set_option maxRecDepth 100000 in
theorem CW110 : lw_tbl[610]? = some (.code (mjY 110) (mjB 110) (mjX 110) (mjT 110)) := rfl
set_option maxRecDepth 100000 in
theorem CW111 : lw_tbl[613]? = some (.code (mjY 111) (mjB 111) (mjX 111) (mjT 111)) := rfl
set_option maxRecDepth 100000 in
theorem CW112 : lw_tbl[349]? = some (.code (mjY 112) (mjB 112) (mjX 112) (mjT 112)) := rfl
set_option maxRecDepth 100000 in
theorem CW113 : lw_tbl[364]? = some (.code (mjY 113) (mjB 113) (mjX 113) (mjT 113)) := rfl
set_option maxRecDepth 100000 in
theorem CW114 : lw_tbl[346]? = some (.code (mjY 114) (mjB 114) (mjX 114) (mjT 114)) := rfl
set_option maxRecDepth 100000 in
theorem CW115 : lw_tbl[361]? = some (.code (mjY 115) (mjB 115) (mjX 115) (mjT 115)) := rfl
set_option maxRecDepth 100000 in
theorem CW116 : lw_tbl[352]? = some (.code (mjY 116) (mjB 116) (mjX 116) (mjT 116)) := rfl
set_option maxRecDepth 100000 in
theorem CW117 : lw_tbl[768]? = some (.code (mjY 117) (mjB 117) (mjX 117) (mjT 117)) := rfl
set_option maxRecDepth 100000 in
theorem CW118 : lw_tbl[771]? = some (.code (mjY 118) (mjB 118) (mjX 118) (mjT 118)) := rfl
set_option maxRecDepth 100000 in
theorem CW119 : lw_tbl[815]? = some (.code (mjY 119) (mjB 119) (mjX 119) (mjT 119)) := rfl
set_option maxRecDepth 100000 in
theorem CW120 : lw_tbl[986]? = some (.code (mjY 120) (mjB 120) (mjX 120) (mjT 120)) := rfl
set_option maxRecDepth 100000 in
theorem CW121 : lw_tbl[990]? = some (.code (mjY 121) (mjB 121) (mjX 121) (mjT 121)) := rfl
set_option maxRecDepth 100000 in
theorem CW122 : lw_tbl[983]? = some (.code (mjY 122) (mjB 122) (mjX 122) (mjT 122)) := rfl
set_option maxRecDepth 100000 in
theorem CW123 : lw_tbl[1133]? = some (.code (mjY 123) (mjB 123) (mjX 123) (mjT 123)) := rfl
set_option maxRecDepth 100000 in
theorem CW124 : lw_tbl[997]? = some (.code (mjY 124) (mjB 124) (mjX 124) (mjT 124)) := rfl
set_option maxRecDepth 100000 in
theorem CW125 : lw_tbl[1000]? = some (.code (mjY 125) (mjB 125) (mjX 125) (mjT 125)) := rfl
set_option maxRecDepth 100000 in
theorem CW126 : lw_tbl[1012]? = some (.code (mjY 126) (mjB 126) (mjX 126) (mjT 126)) := rfl
set_option maxRecDepth 100000 in
theorem CW127 : lw_tbl[994]? = some (.code (mjY 127) (mjB 127) (mjX 127) (mjT 127)) := rfl
set_option maxRecDepth 100000 in
theorem CW128 : lw_tbl[1004]? = some (.code (mjY 128) (mjB 128) (mjX 128) (mjT 128)) := rfl
set_option maxRecDepth 100000 in
theorem CW129 : lw_tbl[980]? = some (.code (mjY 129) (mjB 129) (mjX 129) (mjT 129)) := rfl
set_option maxRecDepth 100000 in
theorem CW130 : lw_tbl[1008]? = some (.code (mjY 130) (mjB 130) (mjX 130) (mjT 130)) := rfl
set_option maxRecDepth 100000 in
theorem CW131 : lw_tbl[1020]? = some (.code (mjY 131) (mjB 131) (mjX 131) (mjT 131)) := rfl
set_option maxRecDepth 100000 in
theorem CW132 : lw_tbl[1016]? = some (.code (mjY 132) (mjB 132) (mjX 132) (mjT 132)) := rfl
set_option maxRecDepth 100000 in
theorem CW133 : lw_tbl[1024]? = some (.code (mjY 133) (mjB 133) (mjX 133) (mjT 133)) := rfl
set_option maxRecDepth 100000 in
theorem CW134 : lw_tbl[1028]? = some (.code (mjY 134) (mjB 134) (mjX 134) (mjT 134)) := rfl
set_option maxRecDepth 100000 in
theorem CW135 : lw_tbl[1032]? = some (.code (mjY 135) (mjB 135) (mjX 135) (mjT 135)) := rfl
set_option maxRecDepth 100000 in
theorem CW136 : lw_tbl[1098]? = some (.code (mjY 136) (mjB 136) (mjX 136) (mjT 136)) := rfl
set_option maxRecDepth 100000 in
theorem CW137 : lw_tbl[1249]? = some (.code (mjY 137) (mjB 137) (mjX 137) (mjT 137)) := rfl
set_option maxRecDepth 100000 in
theorem CW138 : lw_tbl[1036]? = some (.code (mjY 138) (mjB 138) (mjX 138) (mjT 138)) := rfl
set_option maxRecDepth 100000 in
theorem CW139 : lw_tbl[1043]? = some (.code (mjY 139) (mjB 139) (mjX 139) (mjT 139)) := rfl
set_option maxRecDepth 100000 in
theorem CW140 : lw_tbl[1055]? = some (.code (mjY 140) (mjB 140) (mjX 140) (mjT 140)) := rfl
set_option maxRecDepth 100000 in
theorem CW141 : lw_tbl[1051]? = some (.code (mjY 141) (mjB 141) (mjX 141) (mjT 141)) := rfl
set_option maxRecDepth 100000 in
theorem CW142 : lw_tbl[1058]? = some (.code (mjY 142) (mjB 142) (mjX 142) (mjT 142)) := rfl
set_option maxRecDepth 100000 in
theorem CW143 : lw_tbl[1040]? = some (.code (mjY 143) (mjB 143) (mjX 143) (mjT 143)) := rfl
set_option maxRecDepth 100000 in
theorem CW144 : lw_tbl[1047]? = some (.code (mjY 144) (mjB 144) (mjX 144) (mjT 144)) := rfl
set_option maxRecDepth 100000 in
theorem CW145 : lw_tbl[1062]? = some (.code (mjY 145) (mjB 145) (mjX 145) (mjT 145)) := rfl
set_option maxRecDepth 100000 in
theorem CW146 : lw_tbl[1066]? = some (.code (mjY 146) (mjB 146) (mjX 146) (mjT 146)) := rfl
set_option maxRecDepth 100000 in
theorem CW147 : lw_tbl[1070]? = some (.code (mjY 147) (mjB 147) (mjX 147) (mjT 147)) := rfl
set_option maxRecDepth 100000 in
theorem CW148 : lw_tbl[1082]? = some (.code (mjY 148) (mjB 148) (mjX 148) (mjT 148)) := rfl
set_option maxRecDepth 100000 in
theorem CW149 : lw_tbl[1078]? = some (.code (mjY 149) (mjB 149) (mjX 149) (mjT 149)) := rfl
set_option maxRecDepth 100000 in
theorem CW150 : lw_tbl[1090]? = some (.code (mjY 150) (mjB 150) (mjX 150) (mjT 150)) := rfl
set_option maxRecDepth 100000 in
theorem CW151 : lw_tbl[1086]? = some (.code (mjY 151) (mjB 151) (mjX 151) (mjT 151)) := rfl
set_option maxRecDepth 100000 in
theorem CW152 : lw_tbl[1074]? = some (.code (mjY 152) (mjB 152) (mjX 152) (mjT 152)) := rfl
set_option maxRecDepth 100000 in
theorem CW153 : lw_tbl[1094]? = some (.code (mjY 153) (mjB 153) (mjX 153) (mjT 153)) := rfl
set_option maxRecDepth 100000 in
theorem CW154 : lw_tbl[1102]? = some (.code (mjY 154) (mjB 154) (mjX 154) (mjT 154)) := rfl
set_option maxRecDepth 100000 in
theorem CW155 : lw_tbl[1118]? = some (.code (mjY 155) (mjB 155) (mjX 155) (mjT 155)) := rfl
set_option maxRecDepth 100000 in
theorem CW156 : lw_tbl[1130]? = some (.code (mjY 156) (mjB 156) (mjX 156) (mjT 156)) := rfl
set_option maxRecDepth 100000 in
theorem CW157 : lw_tbl[1149]? = some (.code (mjY 157) (mjB 157) (mjX 157) (mjT 157)) := rfl
set_option maxRecDepth 100000 in
theorem CW158 : lw_tbl[1137]? = some (.code (mjY 158) (mjB 158) (mjX 158) (mjT 158)) := rfl
set_option maxRecDepth 100000 in
theorem CW159 : lw_tbl[1141]? = some (.code (mjY 159) (mjB 159) (mjX 159) (mjT 159)) := rfl
set_option maxRecDepth 100000 in
theorem CW160 : lw_tbl[1145]? = some (.code (mjY 160) (mjB 160) (mjX 160) (mjT 160)) := rfl
set_option maxRecDepth 100000 in
theorem CW161 : lw_tbl[1153]? = some (.code (mjY 161) (mjB 161) (mjX 161) (mjT 161)) := rfl
set_option maxRecDepth 100000 in
theorem CW162 : lw_tbl[1156]? = some (.code (mjY 162) (mjB 162) (mjX 162) (mjT 162)) := rfl
set_option maxRecDepth 100000 in
theorem CW163 : lw_tbl[1114]? = some (.code (mjY 163) (mjB 163) (mjX 163) (mjT 163)) := rfl
set_option maxRecDepth 100000 in
theorem CW164 : lw_tbl[1122]? = some (.code (mjY 164) (mjB 164) (mjX 164) (mjT 164)) := rfl
set_option maxRecDepth 100000 in
theorem CW165 : lw_tbl[1126]? = some (.code (mjY 165) (mjB 165) (mjX 165) (mjT 165)) := rfl
set_option maxRecDepth 100000 in
theorem CW166 : lw_tbl[1110]? = some (.code (mjY 166) (mjB 166) (mjX 166) (mjT 166)) := rfl
set_option maxRecDepth 100000 in
theorem CW167 : lw_tbl[1106]? = some (.code (mjY 167) (mjB 167) (mjX 167) (mjT 167)) := rfl
set_option maxRecDepth 100000 in
theorem CW168 : lw_tbl[1160]? = some (.code (mjY 168) (mjB 168) (mjX 168) (mjT 168)) := rfl
set_option maxRecDepth 100000 in
theorem CW169 : lw_tbl[1164]? = some (.code (mjY 169) (mjB 169) (mjX 169) (mjT 169)) := rfl
set_option maxRecDepth 100000 in
theorem CW170 : lw_tbl[1168]? = some (.code (mjY 170) (mjB 170) (mjX 170) (mjT 170)) := rfl
set_option maxRecDepth 100000 in
theorem CW171 : lw_tbl[1172]? = some (.code (mjY 171) (mjB 171) (mjX 171) (mjT 171)) := rfl
set_option maxRecDepth 100000 in
theorem CW172 : lw_tbl[1184]? = some (.code (mjY 172) (mjB 172) (mjX 172) (mjT 172)) := rfl
set_option maxRecDepth 100000 in
theorem CW173 : lw_tbl[1180]? = some (.code (mjY 173) (mjB 173) (mjX 173) (mjT 173)) := rfl
set_option maxRecDepth 100000 in
theorem CW174 : lw_tbl[1176]? = some (.code (mjY 174) (mjB 174) (mjX 174) (mjT 174)) := rfl
set_option maxRecDepth 100000 in
theorem CW175 : lw_tbl[1197]? = some (.code (mjY 175) (mjB 175) (mjX 175) (mjT 175)) := rfl
set_option maxRecDepth 100000 in
theorem CW176 : lw_tbl[1193]? = some (.code (mjY 176) (mjB 176) (mjX 176) (mjT 176)) := rfl
set_option maxRecDepth 100000 in
theorem CW177 : lw_tbl[1188]? = some (.code (mjY 177) (mjB 177) (mjX 177) (mjT 177)) := rfl
set_option maxRecDepth 100000 in
theorem CW178 : lw_tbl[1201]? = some (.code (mjY 178) (mjB 178) (mjX 178) (mjT 178)) := rfl
set_option maxRecDepth 100000 in
theorem CW179 : lw_tbl[1209]? = some (.code (mjY 179) (mjB 179) (mjX 179) (mjT 179)) := rfl
set_option maxRecDepth 100000 in
theorem CW180 : lw_tbl[1205]? = some (.code (mjY 180) (mjB 180) (mjX 180) (mjT 180)) := rfl
set_option maxRecDepth 100000 in
theorem CW181 : lw_tbl[1213]? = some (.code (mjY 181) (mjB 181) (mjX 181) (mjT 181)) := rfl
set_option maxRecDepth 100000 in
theorem CW182 : lw_tbl[1225]? = some (.code (mjY 182) (mjB 182) (mjX 182) (mjT 182)) := rfl
set_option maxRecDepth 100000 in
theorem CW183 : lw_tbl[1221]? = some (.code (mjY 183) (mjB 183) (mjX 183) (mjT 183)) := rfl
set_option maxRecDepth 100000 in
theorem CW184 : lw_tbl[1229]? = some (.code (mjY 184) (mjB 184) (mjX 184) (mjT 184)) := rfl
set_option maxRecDepth 100000 in
theorem CW185 : lw_tbl[1217]? = some (.code (mjY 185) (mjB 185) (mjX 185) (mjT 185)) := rfl
set_option maxRecDepth 100000 in
theorem CW186 : lw_tbl[1233]? = some (.code (mjY 186) (mjB 186) (mjX 186) (mjT 186)) := rfl
set_option maxRecDepth 100000 in
theorem CW187 : lw_tbl[1237]? = some (.code (mjY 187) (mjB 187) (mjX 187) (mjT 187)) := rfl
set_option maxRecDepth 100000 in
theorem CW188 : lw_tbl[1241]? = some (.code (mjY 188) (mjB 188) (mjX 188) (mjT 188)) := rfl
set_option maxRecDepth 100000 in
theorem CW189 : lw_tbl[1245]? = some (.code (mjY 189) (mjB 189) (mjX 189) (mjT 189)) := rfl
set_option maxRecDepth 100000 in
theorem CW190 : lw_tbl[355]? = some (.code (mjY 190) (mjB 190) (mjX 190) (mjT 190)) := rfl
set_option maxRecDepth 100000 in
theorem CWw : ∀ q ∈ CWp, lw_tbl[q.1]? = some (.code (mjY q.2) (mjB q.2) (mjX q.2) (mjT q.2)) := List.forall_mem_cons.mpr ⟨CW0, List.forall_mem_cons.mpr ⟨CW1, List.forall_mem_cons.mpr ⟨CW2, List.forall_mem_cons.mpr ⟨CW3, List.forall_mem_cons.mpr ⟨CW4, List.forall_mem_cons.mpr ⟨CW5, List.forall_mem_cons.mpr ⟨CW6, List.forall_mem_cons.mpr ⟨CW7, List.forall_mem_cons.mpr ⟨CW8, List.forall_mem_cons.mpr ⟨CW9, List.forall_mem_cons.mpr ⟨CW10, List.forall_mem_cons.mpr ⟨CW11, List.forall_mem_cons.mpr ⟨CW12, List.forall_mem_cons.mpr ⟨CW13, List.forall_mem_cons.mpr ⟨CW14, List.forall_mem_cons.mpr ⟨CW15, List.forall_mem_cons.mpr ⟨CW16, List.forall_mem_cons.mpr ⟨CW17, List.forall_mem_cons.mpr ⟨CW18, List.forall_mem_cons.mpr ⟨CW19, List.forall_mem_cons.mpr ⟨CW20, List.forall_mem_cons.mpr ⟨CW21, List.forall_mem_cons.mpr ⟨CW22, List.forall_mem_cons.mpr ⟨CW23, List.forall_mem_cons.mpr ⟨CW24, List.forall_mem_cons.mpr ⟨CW25, List.forall_mem_cons.mpr ⟨CW26, List.forall_mem_cons.mpr ⟨CW27, List.forall_mem_cons.mpr ⟨CW28, List.forall_mem_cons.mpr ⟨CW29, List.forall_mem_cons.mpr ⟨CW30, List.forall_mem_cons.mpr ⟨CW31, List.forall_mem_cons.mpr ⟨CW32, List.forall_mem_cons.mpr ⟨CW33, List.forall_mem_cons.mpr ⟨CW34, List.forall_mem_cons.mpr ⟨CW35, List.forall_mem_cons.mpr ⟨CW36, List.forall_mem_cons.mpr ⟨CW37, List.forall_mem_cons.mpr ⟨CW38, List.forall_mem_cons.mpr ⟨CW39, List.forall_mem_cons.mpr ⟨CW40, List.forall_mem_cons.mpr ⟨CW41, List.forall_mem_cons.mpr ⟨CW42, List.forall_mem_cons.mpr ⟨CW43, List.forall_mem_cons.mpr ⟨CW44, List.forall_mem_cons.mpr ⟨CW45, List.forall_mem_cons.mpr ⟨CW46, List.forall_mem_cons.mpr ⟨CW47, List.forall_mem_cons.mpr ⟨CW48, List.forall_mem_cons.mpr ⟨CW49, List.forall_mem_cons.mpr ⟨CW50, List.forall_mem_cons.mpr ⟨CW51, List.forall_mem_cons.mpr ⟨CW52, List.forall_mem_cons.mpr ⟨CW53, List.forall_mem_cons.mpr ⟨CW54, List.forall_mem_cons.mpr ⟨CW55, List.forall_mem_cons.mpr ⟨CW56, List.forall_mem_cons.mpr ⟨CW57, List.forall_mem_cons.mpr ⟨CW58, List.forall_mem_cons.mpr ⟨CW59, List.forall_mem_cons.mpr ⟨CW60, List.forall_mem_cons.mpr ⟨CW61, List.forall_mem_cons.mpr ⟨CW62, List.forall_mem_cons.mpr ⟨CW63, List.forall_mem_cons.mpr ⟨CW64, List.forall_mem_cons.mpr ⟨CW65, List.forall_mem_cons.mpr ⟨CW66, List.forall_mem_cons.mpr ⟨CW67, List.forall_mem_cons.mpr ⟨CW68, List.forall_mem_cons.mpr ⟨CW69, List.forall_mem_cons.mpr ⟨CW70, List.forall_mem_cons.mpr ⟨CW71, List.forall_mem_cons.mpr ⟨CW72, List.forall_mem_cons.mpr ⟨CW73, List.forall_mem_cons.mpr ⟨CW74, List.forall_mem_cons.mpr ⟨CW75, List.forall_mem_cons.mpr ⟨CW76, List.forall_mem_cons.mpr ⟨CW77, List.forall_mem_cons.mpr ⟨CW78, List.forall_mem_cons.mpr ⟨CW79, List.forall_mem_cons.mpr ⟨CW80, List.forall_mem_cons.mpr ⟨CW81, List.forall_mem_cons.mpr ⟨CW82, List.forall_mem_cons.mpr ⟨CW83, List.forall_mem_cons.mpr ⟨CW84, List.forall_mem_cons.mpr ⟨CW85, List.forall_mem_cons.mpr ⟨CW86, List.forall_mem_cons.mpr ⟨CW87, List.forall_mem_cons.mpr ⟨CW88, List.forall_mem_cons.mpr ⟨CW89, List.forall_mem_cons.mpr ⟨CW90, List.forall_mem_cons.mpr ⟨CW91, List.forall_mem_cons.mpr ⟨CW92, List.forall_mem_cons.mpr ⟨CW93, List.forall_mem_cons.mpr ⟨CW94, List.forall_mem_cons.mpr ⟨CW95, List.forall_mem_cons.mpr ⟨CW96, List.forall_mem_cons.mpr ⟨CW97, List.forall_mem_cons.mpr ⟨CW98, List.forall_mem_cons.mpr ⟨CW99, List.forall_mem_cons.mpr ⟨CW100, List.forall_mem_cons.mpr ⟨CW101, List.forall_mem_cons.mpr ⟨CW102, List.forall_mem_cons.mpr ⟨CW103, List.forall_mem_cons.mpr ⟨CW104, List.forall_mem_cons.mpr ⟨CW105, List.forall_mem_cons.mpr ⟨CW106, List.forall_mem_cons.mpr ⟨CW107, List.forall_mem_cons.mpr ⟨CW108, List.forall_mem_cons.mpr ⟨CW109, List.forall_mem_cons.mpr ⟨CW110, List.forall_mem_cons.mpr ⟨CW111, List.forall_mem_cons.mpr ⟨CW112, List.forall_mem_cons.mpr ⟨CW113, List.forall_mem_cons.mpr ⟨CW114, List.forall_mem_cons.mpr ⟨CW115, List.forall_mem_cons.mpr ⟨CW116, List.forall_mem_cons.mpr ⟨CW117, List.forall_mem_cons.mpr ⟨CW118, List.forall_mem_cons.mpr ⟨CW119, List.forall_mem_cons.mpr ⟨CW120, List.forall_mem_cons.mpr ⟨CW121, List.forall_mem_cons.mpr ⟨CW122, List.forall_mem_cons.mpr ⟨CW123, List.forall_mem_cons.mpr ⟨CW124, List.forall_mem_cons.mpr ⟨CW125, List.forall_mem_cons.mpr ⟨CW126, List.forall_mem_cons.mpr ⟨CW127, List.forall_mem_cons.mpr ⟨CW128, List.forall_mem_cons.mpr ⟨CW129, List.forall_mem_cons.mpr ⟨CW130, List.forall_mem_cons.mpr ⟨CW131, List.forall_mem_cons.mpr ⟨CW132, List.forall_mem_cons.mpr ⟨CW133, List.forall_mem_cons.mpr ⟨CW134, List.forall_mem_cons.mpr ⟨CW135, List.forall_mem_cons.mpr ⟨CW136, List.forall_mem_cons.mpr ⟨CW137, List.forall_mem_cons.mpr ⟨CW138, List.forall_mem_cons.mpr ⟨CW139, List.forall_mem_cons.mpr ⟨CW140, List.forall_mem_cons.mpr ⟨CW141, List.forall_mem_cons.mpr ⟨CW142, List.forall_mem_cons.mpr ⟨CW143, List.forall_mem_cons.mpr ⟨CW144, List.forall_mem_cons.mpr ⟨CW145, List.forall_mem_cons.mpr ⟨CW146, List.forall_mem_cons.mpr ⟨CW147, List.forall_mem_cons.mpr ⟨CW148, List.forall_mem_cons.mpr ⟨CW149, List.forall_mem_cons.mpr ⟨CW150, List.forall_mem_cons.mpr ⟨CW151, List.forall_mem_cons.mpr ⟨CW152, List.forall_mem_cons.mpr ⟨CW153, List.forall_mem_cons.mpr ⟨CW154, List.forall_mem_cons.mpr ⟨CW155, List.forall_mem_cons.mpr ⟨CW156, List.forall_mem_cons.mpr ⟨CW157, List.forall_mem_cons.mpr ⟨CW158, List.forall_mem_cons.mpr ⟨CW159, List.forall_mem_cons.mpr ⟨CW160, List.forall_mem_cons.mpr ⟨CW161, List.forall_mem_cons.mpr ⟨CW162, List.forall_mem_cons.mpr ⟨CW163, List.forall_mem_cons.mpr ⟨CW164, List.forall_mem_cons.mpr ⟨CW165, List.forall_mem_cons.mpr ⟨CW166, List.forall_mem_cons.mpr ⟨CW167, List.forall_mem_cons.mpr ⟨CW168, List.forall_mem_cons.mpr ⟨CW169, List.forall_mem_cons.mpr ⟨CW170, List.forall_mem_cons.mpr ⟨CW171, List.forall_mem_cons.mpr ⟨CW172, List.forall_mem_cons.mpr ⟨CW173, List.forall_mem_cons.mpr ⟨CW174, List.forall_mem_cons.mpr ⟨CW175, List.forall_mem_cons.mpr ⟨CW176, List.forall_mem_cons.mpr ⟨CW177, List.forall_mem_cons.mpr ⟨CW178, List.forall_mem_cons.mpr ⟨CW179, List.forall_mem_cons.mpr ⟨CW180, List.forall_mem_cons.mpr ⟨CW181, List.forall_mem_cons.mpr ⟨CW182, List.forall_mem_cons.mpr ⟨CW183, List.forall_mem_cons.mpr ⟨CW184, List.forall_mem_cons.mpr ⟨CW185, List.forall_mem_cons.mpr ⟨CW186, List.forall_mem_cons.mpr ⟨CW187, List.forall_mem_cons.mpr ⟨CW188, List.forall_mem_cons.mpr ⟨CW189, List.forall_mem_cons.mpr ⟨CW190, fun _ h => absurd h List.not_mem_nil⟩⟩⟩⟩⟩⟩⟩⟩⟩⟩⟩⟩⟩⟩⟩⟩⟩⟩⟩⟩⟩⟩⟩⟩⟩⟩⟩⟩⟩⟩⟩⟩⟩⟩⟩⟩⟩⟩⟩⟩⟩⟩⟩⟩⟩⟩⟩⟩⟩⟩⟩⟩⟩⟩⟩⟩⟩⟩⟩⟩⟩⟩⟩⟩⟩⟩⟩⟩⟩⟩⟩⟩⟩⟩⟩⟩⟩⟩⟩⟩⟩⟩⟩⟩⟩⟩⟩⟩⟩⟩⟩⟩⟩⟩⟩⟩⟩⟩⟩⟩⟩⟩⟩⟩⟩⟩⟩⟩⟩⟩⟩⟩⟩⟩⟩⟩⟩⟩⟩⟩⟩⟩⟩⟩⟩⟩⟩⟩⟩⟩⟩⟩⟩⟩⟩⟩⟩⟩⟩⟩⟩⟩⟩⟩⟩⟩⟩⟩⟩⟩⟩⟩⟩⟩⟩⟩⟩⟩⟩⟩⟩⟩⟩⟩⟩⟩⟩⟩⟩⟩⟩⟩⟩⟩⟩⟩⟩⟩⟩⟩⟩⟩⟩⟩⟩⟩⟩⟩⟩⟩⟩
set_option maxRecDepth 100000 in
theorem OBw : lw_tbl[72]? = some (.instanceMethod objectInit) ∧ lw_tbl[73]? = some (.code objectInit ⟨#[0xb1]⟩ 1 none) := by decide +kernel
theorem AC_int : lw_tbl[117]? = some (.arrayClass .int) := by decide +kernel
theorem AC_boolean : lw_tbl[118]? = some (.arrayClass .boolean) := by decide +kernel
theorem AC_long : lw_tbl[484]? = some (.arrayClass .long) := by decide +kernel
theorem AO_RX4 : lw_tbl[75]? = some (.arrayOver (.object RX4)) := by decide +kernel
theorem AO_RX3 : lw_tbl[77]? = some (.arrayOver (.object RX3)) := by decide +kernel
theorem CP_lw : lw_tbl[514]? = some (.methodLink "FallChain" 168 arraycopyName) := by decide +kernel
theorem CP_nw : lw_tbl[516]? = some (.native arraycopyName) := by decide +kernel
theorem CP_sw : lw_tbl[515]? = some (.static arraycopyName) := by decide +kernel
theorem CP_iw : lw_tbl[65]? = some (.initialized "java/lang/System") := by decide +kernel
set_option maxRecDepth 100000 in
theorem LY0 : ∀ w ∈ u_ws (cN 0) (cT 0) (cF 0), w ∈ tblG := by
  intro w hw
  have h1 := goodIn_r (big := lw_tbl) (u_ws (cN 0) (cT 0) (cF 0)) [210, 212, 214, 216, 218, 220, 222, 224, 226] (by decide +kernel) (by decide +kernel) w hw
  exact List.mem_filter.mpr ⟨h1.1, List.all_eq_true.mp (show (u_ws (cN 0) (cT 0) (cF 0)).all goodWord = true by decide +kernel) w hw⟩
set_option maxRecDepth 100000 in
theorem LY1 : ∀ w ∈ u_ws (cN 1) (cT 1) (cF 1), w ∈ tblG := by
  intro w hw
  have h1 := goodIn_r (big := lw_tbl) (u_ws (cN 1) (cT 1) (cF 1)) [138, 140, 142, 144, 146, 148, 150, 152] (by decide +kernel) (by decide +kernel) w hw
  exact List.mem_filter.mpr ⟨h1.1, List.all_eq_true.mp (show (u_ws (cN 1) (cT 1) (cF 1)).all goodWord = true by decide +kernel) w hw⟩
set_option maxRecDepth 100000 in
theorem LY2 : ∀ w ∈ u_ws (cN 2) (cT 2) (cF 2), w ∈ tblG := by
  intro w hw
  have h1 := goodIn_r (big := lw_tbl) (u_ws (cN 2) (cT 2) (cF 2)) [173, 175, 177, 179, 181] (by decide +kernel) (by decide +kernel) w hw
  exact List.mem_filter.mpr ⟨h1.1, List.all_eq_true.mp (show (u_ws (cN 2) (cT 2) (cF 2)).all goodWord = true by decide +kernel) w hw⟩
set_option maxRecDepth 100000 in
theorem LY3 : ∀ w ∈ u_ws (cN 3) (cT 3) (cF 3), w ∈ tblG := by
  intro w hw
  have h1 := goodIn_r (big := lw_tbl) (u_ws (cN 3) (cT 3) (cF 3)) [98, 100, 102, 104, 106, 108, 110, 112, 114] (by decide +kernel) (by decide +kernel) w hw
  exact List.mem_filter.mpr ⟨h1.1, List.all_eq_true.mp (show (u_ws (cN 3) (cT 3) (cF 3)).all goodWord = true by decide +kernel) w hw⟩
set_option maxRecDepth 100000 in
theorem LY4 : ∀ w ∈ u_ws (cN 4) (cT 4) (cF 4), w ∈ tblG := by
  intro w hw
  have h1 := goodIn_r (big := lw_tbl) (u_ws (cN 4) (cT 4) (cF 4)) [479, 481] (by decide +kernel) (by decide +kernel) w hw
  exact List.mem_filter.mpr ⟨h1.1, List.all_eq_true.mp (show (u_ws (cN 4) (cT 4) (cF 4)).all goodWord = true by decide +kernel) w hw⟩
set_option maxRecDepth 100000 in
theorem LY5 : ∀ w ∈ u_ws (cN 5) (cT 5) (cF 5), w ∈ tblG := by
  intro w hw
  have h1 := goodIn_r (big := lw_tbl) (u_ws (cN 5) (cT 5) (cF 5)) [253, 255, 257, 259, 261, 263, 265, 267, 269, 271, 273, 275, 277] (by decide +kernel) (by decide +kernel) w hw
  exact List.mem_filter.mpr ⟨h1.1, List.all_eq_true.mp (show (u_ws (cN 5) (cT 5) (cF 5)).all goodWord = true by decide +kernel) w hw⟩
set_option maxRecDepth 100000 in
theorem LY6 : ∀ w ∈ u_ws (cN 6) (cT 6) (cF 6), w ∈ tblG := by
  intro w hw
  have h1 := goodIn_r (big := lw_tbl) (u_ws (cN 6) (cT 6) (cF 6)) [296, 298, 300, 302, 304, 306, 308, 310, 312, 314, 316, 318, 320, 322, 324, 326] (by decide +kernel) (by decide +kernel) w hw
  exact List.mem_filter.mpr ⟨h1.1, List.all_eq_true.mp (show (u_ws (cN 6) (cT 6) (cF 6)).all goodWord = true by decide +kernel) w hw⟩
set_option maxRecDepth 100000 in
theorem LY7 : ∀ w ∈ u_ws (cN 7) (cT 7) (cF 7), w ∈ tblG := by
  intro w hw
  have h1 := goodIn_r (big := lw_tbl) (u_ws (cN 7) (cT 7) (cF 7)) [870, 872, 874, 876, 878, 880, 882, 884, 886, 888, 890, 892, 894, 896, 898, 900, 902, 904, 906, 908, 910, 912, 914, 916, 918, 920, 922, 924, 926, 928, 930, 932, 934, 936, 938, 940, 942, 944, 946, 948, 950, 952, 954, 956, 958, 960, 962, 964, 966, 968, 970, 972, 974] (by decide +kernel) (by decide +kernel) w hw
  exact List.mem_filter.mpr ⟨h1.1, List.all_eq_true.mp (show (u_ws (cN 7) (cT 7) (cF 7)).all goodWord = true by decide +kernel) w hw⟩
def tyok (t : FieldType) (k : Nat) : Bool := match t, k with | .int, 0 => true | .long, 1 => true | .object _, 2 => true | .array _, 2 => true | _, _ => false
theorem fdecl : ∀ j, j < 8 → ∀ k, k < cF j → (cT j k).1 = cN j ∧ tyok (cY j k) (fTag j k) = true ∧ fTag j k ≤ 2 ∧ parseFieldDescriptor (cT j k).2.2.1 = some (cY j k) := by decide +kernel
theorem cls_ok : ∀ j, j < 8 → (∀ w ∈ u_ws (cN j) (cT j) (cF j), w ∈ tblG) ∧ (∀ a, a < cF j → ∀ b, b < cF j → a ≠ b → (cT j a).2.1 ≠ (cT j b).2.1) ∧ vwCl[j]? = some (cN j, cT j, cF j) := by
  intro j hj
  match j, hj with
  | 0, _ => exact ⟨LY0, nmX0, rfl⟩
  | 1, _ => exact ⟨LY1, nmX1, rfl⟩
  | 2, _ => exact ⟨LY2, nmX2, rfl⟩
  | 3, _ => exact ⟨LY3, nmX3, rfl⟩
  | 4, _ => exact ⟨LY4, nmX4, rfl⟩
  | 5, _ => exact ⟨LY5, nmX5, rfl⟩
  | 6, _ => exact ⟨LY6, nmX6, rfl⟩
  | 7, _ => exact ⟨LY7, nmX7, rfl⟩
def okE (M : Nat) (e : Ent) : Bool := match e with
  | (pc, i, len, x, y) => match i with
    | .aload _ => decide (len = 2)
    | .iload _ => decide (len = 2)
    | .lload _ => decide (len = 2)
    | .istore _ => decide (len = 2)
    | .astore _ => decide (len = 2)
    | .iinc _ _ => decide (len = 3)
    | .bipush _ => decide (len = 2)
    | .sipush _ => decide (len = 3)
    | .ldc_w idx => decide (len = 3 ∧ (mjO M, idx, x) ∈ KCp.map (·.2))
    | .ldc2_w idx => decide (len = 3 ∧ (mjO M, idx, x) ∈ KLp.map (·.2))
    | .ifCond _ o => decide (len = 3 ∧ (pc : Int) + o = x)
    | .if_icmp _ o => decide (len = 3 ∧ (pc : Int) + o = x)
    | .goto o => decide (len = 3 ∧ (pc : Int) + o = x)
    | .ifnull o => decide (len = 3 ∧ (pc : Int) + o = x)
    | .ifnonnull o => decide (len = 3 ∧ (pc : Int) + o = x)
    | .tableswitch _ _ _ _ => true
    | .lookupswitch _ ps => (ps.toList.zip (ps.toList.drop 1)).all (fun (a, b) => decide (a.1 < b.1))
    | .getfield idx => decide (len = 3 ∧ y < cF x ∧ (mjO M, idx, x, y) ∈ mjFL)
    | .putfield idx => decide (len = 3 ∧ y < cF x ∧ (mjO M, idx, x, y) ∈ mjFL ∧ ((cT x y).2.2.2 = false ∨ (mjY M).name = "<init>" ∧ x = mjO M))
    | .newarray t => decide (len = 2 ∧ (t = .int ∧ x = 10 ∨ t = .boolean ∧ x = 11 ∨ t = .long ∧ x = 12))
    | .anewarray idx => decide (len = 3 ∧ (x = 13 ∧ mjO M = 6 ∧ idx = 9 ∨ x = 14 ∧ mjO M = 6 ∧ idx = 15))
    | .new idx => decide (len = 3 ∧ (mjO M, idx, x) ∈ CLp.map (·.2))
    | .invokevirtual idx => decide (len = 3 ∧ 0 < x ∧ x ≤ NM ∧ (mjO M, idx, x - 1, 0) ∈ mjML ∧ y = mjN (x - 1) + 1 ∧ mjF (x - 1) + 1 ≤ mjF M ∧ 8 + (mjX (x - 1) + 11) + mjL (x - 1) ≤ mjL M)
    | .invokestatic idx => if x = 1000 then decide (len = 3 ∧ mjO M = 6 ∧ idx = 168 ∧ 1 ≤ mjF M ∧ 40 ≤ mjL M) else decide (len = 3 ∧ 0 < x ∧ x ≤ NM ∧ ((mjO M, idx, x - 1, 1) ∈ mjML ∨ (mjO M, idx, x - 1, 4) ∈ mjML) ∧ y = mjN (x - 1) ∧ mjF (x - 1) + 1 ≤ mjF M ∧ 8 + (mjX (x - 1) + 11) + mjL (x - 1) ≤ mjL M)
    | .invokespecial idx => if x = 0 then decide (len = 3 ∧ (mjO M, idx) ∈ OIp.map (·.2) ∧ 1 ≤ mjF M ∧ 20 ≤ mjL M) else decide (len = 3 ∧ x ≤ NM ∧ ((mjO M, idx, x - 1, 2) ∈ mjML ∨ (mjO M, idx, x - 1, 5) ∈ mjML) ∧ (mjY (x - 1)).name = "<init>" ∧ y = mjN (x - 1) + 1 ∧ mjF (x - 1) + 1 ≤ mjF M ∧ 8 + (mjX (x - 1) + 11) + mjL (x - 1) ≤ mjL M)
    | _ => decide (len = 1)
set_option maxRecDepth 100000 in
set_option maxHeartbeats 4000000 in
theorem okAll : ∀ M ∈ List.range NM, (mjProg M).all (fun e => okE M e && okN e) = true := by decide +kernel
set_option maxRecDepth 100000 in
theorem npAll : ∀ c ∈ List.range NM, (parseMethodDescriptor (mjY c).desc).map (fun d => d.parameters.length) = some (mjN c) ∧ (mjY c).cls = cN (mjO c) ∧ mjO c ≤ 9 ∧ ((mjY c).cls ≠ "java/lang/invoke/MethodHandle" ∧ (mjY c).cls ≠ "java/lang/invoke/VarHandle") ∧ plainName (mjY c).cls = true := by decide +kernel
set_option maxRecDepth 100000 in
theorem rkAll : ∀ c ∈ List.range NM, (mjK c = 0 → mjT c = none) ∧ (mjK c = 1 → mjT c = some .int) ∧ (mjK c = 2 → mjT c = some .boolean) ∧ (mjK c = 3 → mjT c = some .long) ∧ (mjK c = 4 → mjT c = some (.object RX4)) := by decide +kernel
