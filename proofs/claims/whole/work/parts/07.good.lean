/-! the links of the tables, and that the tables are those of the bytecode -/
def xFl : List (Nat × Nat × Nat × Nat) := [(0, 15, 0, 2), (0, 18, 0, 3), (0, 21, 0, 4), (0, 24, 0, 5), (0, 27, 0, 6), (0, 30, 0, 7), (0, 35, 0, 9), (0, 38, 0, 10), (0, 41, 3, 0), (0, 47, 0, 0), (0, 48, 3, 3), (0, 51, 0, 8), (0, 52, 3, 6), (0, 75, 3, 7), (0, 85, 3, 4), (0, 88, 3, 5), (0, 9, 0, 1), (2, 17, 1, 2), (2, 20, 1, 3), (2, 23, 1, 0), (2, 41, 1, 5), (2, 44, 1, 4), (2, 50, 1, 7), (2, 53, 1, 6), (2, 78, 1, 8), (2, 9, 1, 1), (3, 15, 2, 2), (3, 19, 2, 1), (3, 9, 2, 0), (4, 15, 3, 4), (4, 19, 3, 5), (4, 22, 3, 6), (4, 25, 3, 7), (4, 28, 3, 8), (4, 31, 3, 3), (4, 34, 3, 1), (4, 37, 3, 2), (4, 9, 3, 0), (5, 15, 4, 1), (5, 9, 4, 0), (6, 10, 5, 0), (6, 100, 1, 2), (6, 107, 3, 2), (6, 114, 0, 4), (6, 117, 0, 5), (6, 120, 0, 6), (6, 123, 0, 7), (6, 132, 0, 3), (6, 135, 0, 2), (6, 138, 3, 1), (6, 141, 3, 8), (6, 149, 3, 6), (6, 152, 0, 1), (6, 153, 0, 0), (6, 156, 3, 0), (6, 16, 5, 1), (6, 169, 3, 7), (6, 188, 2, 0), (6, 19, 5, 2), (6, 191, 2, 1), (6, 220, 5, 8), (6, 233, 2, 2), (6, 245, 3, 4), (6, 25, 5, 3), (6, 253, 3, 5), (6, 32, 5, 4), (6, 38, 5, 5), (6, 44, 5, 6), (6, 76, 3, 3), (6, 89, 1, 0), (6, 90, 5, 7), (6, 96, 1, 1), (7, 113, 6, 8), (7, 116, 6, 4), (7, 13, 6, 1), (7, 133, 6, 6), (7, 136, 6, 20), (7, 139, 6, 19), (7, 142, 6, 21), (7, 148, 6, 23), (7, 151, 6, 22), (7, 162, 6, 24), (7, 168, 6, 26), (7, 17, 6, 2), (7, 172, 6, 27), (7, 179, 6, 25), (7, 192, 6, 13), (7, 195, 6, 14), (7, 198, 6, 15), (7, 20, 6, 5), (7, 201, 6, 16), (7, 204, 6, 17), (7, 207, 6, 18), (7, 23, 6, 7), (7, 26, 6, 9), (7, 29, 6, 10), (7, 32, 6, 11), (7, 340, 6, 28), (7, 35, 6, 29), (7, 378, 6, 37), (7, 38, 6, 30), (7, 381, 6, 36), (7, 41, 6, 31), (7, 422, 6, 42), (7, 425, 6, 43), (7, 428, 6, 44), (7, 44, 6, 32), (7, 47, 6, 33), (7, 50, 6, 34), (7, 53, 6, 35), (7, 56, 6, 38), (7, 59, 6, 39), (7, 62, 6, 40), (7, 65, 6, 41), (7, 68, 6, 45), (7, 72, 6, 46), (7, 75, 6, 47), (7, 78, 6, 48), (7, 85, 6, 3), (7, 88, 6, 12)]
def xSfl : List (Nat × Nat) := [(15, 1), (9, 0)]
def xStl : List (Nat × Nat × Nat) := [(10, 1053, 4000), (10, 38, 1), (1, 9, 3000)]
def xMlk4 : List (Nat × Nat × Nat × Nat) := [(10, 1059, 198, 313), (10, 335, 194, 291), (10, 492, 195, 301), (10, 495, 197, 305), (11, 9, 196, 308), (13, 101, 179, 1266), (13, 102, 65, 688), (13, 105, 180, 1272), (13, 106, 66, 692), (13, 109, 181, 1276), (13, 110, 67, 696), (13, 113, 182, 1280), (13, 114, 68, 704), (13, 117, 184, 1284), (13, 118, 69, 711), (13, 12, 94, 740), (13, 121, 185, 1285), (13, 122, 70, 715), (13, 126, 186, 1289), (13, 127, 71, 724), (13, 13, 44, 444), (13, 131, 187, 1293), (13, 132, 72, 729), (13, 135, 189, 1298), (13, 17, 98, 896), (13, 18, 45, 471), (13, 21, 100, 925), (13, 22, 46, 479), (13, 26, 101, 932), (13, 27, 47, 484), (13, 31, 104, 933), (13, 32, 48, 489), (13, 36, 151, 938), (13, 37, 49, 490), (13, 40, 152, 1133), (13, 41, 50, 494), (13, 44, 160, 1137), (13, 45, 51, 553), (13, 48, 161, 1168), (13, 49, 52, 561), (13, 52, 162, 1180), (13, 53, 53, 565), (13, 56, 163, 1184), (13, 57, 54, 572), (13, 60, 165, 1190), (13, 61, 55, 592), (13, 64, 166, 1198), (13, 65, 56, 600), (13, 68, 167, 1202), (13, 69, 57, 604), (13, 72, 168, 1206), (13, 73, 58, 608), (13, 76, 169, 1210), (13, 77, 59, 612), (13, 80, 170, 1214), (13, 81, 60, 616), (13, 84, 172, 1220), (13, 85, 61, 628), (13, 88, 174, 1228), (13, 89, 62, 659), (13, 9, 43, 107), (13, 92, 175, 1242), (13, 93, 63, 671), (13, 96, 178, 1253), (13, 97, 64, 680), (0, 101, 10, 551), (0, 104, 191, 521), (0, 53, 3, 510), (0, 57, 5, 517), (0, 61, 41, 527), (0, 78, 4, 544), (0, 91, 8, 514), (0, 97, 9, 548), (2, 27, 192, 287), (2, 33, 193, 297), (2, 37, 13, 335), (2, 47, 23, 347), (2, 56, 16, 380), (2, 59, 17, 384), (2, 62, 22, 392), (2, 66, 18, 388), (2, 69, 19, 396), (2, 72, 20, 400), (2, 75, 21, 404), (2, 81, 26, 351), (2, 84, 24, 354), (2, 87, 27, 374), (2, 90, 28, 377), (2, 95, 25, 359), (4, 46, 10, 464), (5, 26, 42, 531), (6, 103, 40, 408), (6, 110, 80, 498), (6, 126, 73, 452), (6, 129, 6, 557), (6, 146, 91, 571), (6, 157, 76, 576), (6, 160, 82, 579), (6, 163, 81, 583), (6, 166, 83, 596), (6, 172, 35, 587), (6, 174, 7, 620), (6, 177, 190, 624), (6, 182, 77, 632), (6, 185, 75, 635), (6, 192, 84, 639), (6, 196, 86, 643), (6, 200, 87, 651), (6, 203, 88, 655), (6, 206, 30, 663), (6, 209, 31, 667), (6, 211, 89, 675), (6, 217, 90, 685), (6, 224, 38, 700), (6, 227, 78, 708), (6, 230, 32, 719), (6, 242, 45, 728), (6, 248, 11, 733), (6, 256, 1, 502), (6, 259, 2, 506), (6, 263, 85, 647), (6, 52, 14, 283), (6, 56, 48, 339), (6, 60, 74, 448), (6, 64, 79, 456), (6, 68, 36, 460), (6, 72, 37, 467), (6, 80, 34, 475), (6, 85, 13, 488), (6, 93, 15, 343), (7, 101, 97, 908), (7, 105, 101, 911), (7, 109, 99, 921), (7, 128, 102, 917), (7, 145, 105, 950), (7, 175, 108, 963), (7, 182, 107, 971), (7, 185, 106, 946), (7, 188, 109, 959), (7, 210, 110, 1023), (7, 213, 111, 987), (7, 217, 112, 1027), (7, 221, 113, 1019), (7, 224, 114, 1015), (7, 229, 115, 1011), (7, 234, 116, 1007), (7, 237, 117, 1049), (7, 240, 118, 1045), (7, 243, 119, 1041), (7, 246, 120, 1037), (7, 249, 121, 1033), (7, 252, 122, 1003), (7, 255, 123, 1069), (7, 258, 124, 1065), (7, 261, 125, 1061), (7, 264, 126, 1057), (7, 267, 127, 1053), (7, 270, 128, 999), (7, 273, 129, 1089), (7, 276, 130, 1085), (7, 279, 131, 1081), (7, 282, 132, 1077), (7, 285, 133, 1073), (7, 288, 134, 995), (7, 291, 135, 1109), (7, 294, 136, 1105), (7, 297, 137, 1101), (7, 300, 138, 1097), (7, 303, 139, 1093), (7, 306, 140, 991), (7, 309, 141, 1129), (7, 312, 142, 1125), (7, 315, 143, 1121), (7, 318, 144, 1117), (7, 321, 145, 1113), (7, 324, 146, 983), (7, 327, 147, 979), (7, 330, 148, 975), (7, 333, 149, 967), (7, 337, 150, 942), (7, 343, 153, 1154), (7, 346, 93, 1157), (7, 350, 154, 1150), (7, 353, 155, 1164), (7, 356, 103, 1146), (7, 360, 156, 1160), (7, 364, 157, 1142), (7, 370, 158, 1172), (7, 373, 159, 1176), (7, 384, 164, 1194), (7, 391, 171, 1224), (7, 396, 183, 1233), (7, 399, 173, 1236), (7, 408, 184, 1247), (7, 412, 176, 1257), (7, 415, 177, 1262), (7, 435, 100, 1297), (7, 438, 188, 1302), (7, 81, 95, 744), (7, 91, 92, 901), (7, 97, 96, 904)]
def xMw : List (Nat × Nat × Nat × Nat) := [(167, 92, 166, 0), (505, 92, 503, 504), (509, 92, 507, 508), (513, 92, 512, 14), (547, 92, 546, 16), (520, 92, 519, 15), (560, 92, 558, 559), (623, 92, 621, 622), (516, 102, 515, 0), (550, 102, 549, 0), (466, 102, 465, 0), (735, 102, 734, 0), (215, 93, 214, 0), (338, 93, 336, 337), (286, 93, 284, 285), (346, 93, 344, 345), (383, 93, 382, 3), (387, 93, 386, 4), (391, 93, 390, 5), (399, 93, 398, 7), (403, 93, 402, 8), (407, 93, 406, 9), (395, 93, 394, 6), (350, 93, 349, 0), (357, 93, 356, 1), (362, 93, 361, 2), (353, 93, 352, 0), (376, 93, 375, 0), (379, 93, 378, 0), (267, 95, 266, 0), (666, 95, 664, 665), (670, 95, 668, 669), (722, 95, 720, 721), (117, 91, 116, 0), (478, 91, 476, 477), (590, 91, 588, 589), (463, 91, 461, 462), (470, 91, 468, 469), (703, 91, 701, 702), (255, 94, 254, 0), (411, 94, 409, 410), (530, 94, 528, 529), (533, 94, 532, 0), (109, 90, 108, 0), (447, 90, 445, 446), (474, 90, 472, 473), (482, 90, 480, 481), (487, 90, 485, 486), (342, 90, 340, 341), (493, 90, 491, 492), (497, 90, 495, 496), (556, 90, 554, 555), (564, 90, 562, 563), (568, 90, 566, 567), (575, 90, 573, 574), (595, 90, 593, 594), (603, 90, 601, 602), (607, 90, 605, 606), (611, 90, 609, 610), (615, 90, 613, 614), (619, 90, 617, 618), (631, 90, 629, 630), (662, 90, 660, 661), (674, 90, 672, 673), (683, 90, 681, 682), (691, 90, 689, 690), (695, 90, 693, 694), (699, 90, 697, 698), (707, 90, 705, 706), (714, 90, 712, 713), (718, 90, 716, 717), (727, 90, 725, 726), (732, 90, 730, 731), (455, 90, 454, 11), (451, 90, 450, 10), (638, 90, 637, 20), (578, 90, 577, 0), (634, 90, 633, 0), (710, 90, 709, 0), (459, 90, 458, 12), (501, 90, 500, 13), (586, 90, 585, 18), (582, 90, 581, 17), (599, 90, 598, 19), (642, 90, 641, 21), (650, 90, 649, 23), (646, 90, 645, 22), (654, 90, 653, 24), (658, 90, 657, 25), (678, 90, 677, 26), (687, 90, 686, 0), (536, 90, 535, 0), (903, 101, 902, 0), (1159, 101, 1158, 0), (742, 101, 741, 0), (747, 101, 746, 27), (907, 101, 906, 28), (910, 101, 909, 0), (899, 101, 897, 898), (924, 101, 923, 30), (928, 101, 926, 927), (914, 101, 912, 913), (920, 101, 919, 29), (1149, 101, 1148, 78), (936, 101, 934, 935), (953, 101, 952, 33), (949, 101, 948, 32), (974, 101, 973, 37), (966, 101, 965, 35), (962, 101, 961, 34), (1026, 101, 1025, 50), (990, 101, 989, 41), (1030, 101, 1029, 51), (1022, 101, 1021, 49), (1018, 101, 1017, 48), (1014, 101, 1013, 47), (1010, 101, 1009, 46), (1052, 101, 1051, 56), (1048, 101, 1047, 55), (1044, 101, 1043, 54), (1040, 101, 1039, 53), (1036, 101, 1035, 52), (1006, 101, 1005, 45), (1072, 101, 1071, 61), (1068, 101, 1067, 60), (1064, 101, 1063, 59), (1060, 101, 1059, 58), (1056, 101, 1055, 57), (1002, 101, 1001, 44), (1092, 101, 1091, 66), (1088, 101, 1087, 65), (1084, 101, 1083, 64), (1080, 101, 1079, 63), (1076, 101, 1075, 62), (998, 101, 997, 43), (1112, 101, 1111, 71), (1108, 101, 1107, 70), (1104, 101, 1103, 69), (1100, 101, 1099, 68), (1096, 101, 1095, 67), (994, 101, 993, 42), (1132, 101, 1131, 76), (1128, 101, 1127, 75), (1124, 101, 1123, 74), (1120, 101, 1119, 73), (1116, 101, 1115, 72), (986, 101, 985, 40), (982, 101, 981, 39), (978, 101, 977, 38), (970, 101, 969, 36), (945, 101, 944, 31), (941, 101, 939, 940), (1136, 101, 1134, 1135), (1156, 101, 1155, 0), (1153, 101, 1152, 79), (1167, 101, 1166, 81), (1163, 101, 1162, 80), (1145, 101, 1144, 77), (1175, 101, 1174, 82), (1179, 101, 1178, 83), (1140, 101, 1138, 1139), (1171, 101, 1169, 1170), (1183, 101, 1181, 1182), (1187, 101, 1185, 1186), (1197, 101, 1196, 84), (1193, 101, 1191, 1192), (1201, 101, 1199, 1200), (1205, 101, 1203, 1204), (1209, 101, 1207, 1208), (1213, 101, 1211, 1212), (1217, 101, 1215, 1216), (1227, 101, 1226, 85), (1223, 101, 1221, 1222), (1239, 101, 1238, 86), (1231, 101, 1229, 1230), (1245, 101, 1243, 1244), (1260, 101, 1259, 87), (1265, 101, 1264, 88), (1256, 101, 1254, 1255), (1269, 101, 1267, 1268), (1275, 101, 1273, 1274), (1279, 101, 1277, 1278), (1283, 101, 1281, 1282), (1235, 101, 1234, 0), (1250, 101, 1248, 1249), (1288, 101, 1286, 1287), (1292, 101, 1290, 1291), (1296, 101, 1294, 1295), (1304, 101, 1303, 0), (1301, 101, 1299, 1300), (626, 103, 625, 0), (523, 103, 522, 0), (290, 96, 288, 289), (300, 96, 298, 299), (294, 96, 292, 293), (304, 96, 302, 303), (310, 96, 309, 0), (307, 97, 306, 0), (315, 98, 314, 0)]
def xNlk : List (Nat × Nat × Nat) := [(0, 65, 91), (6, 24, 0), (6, 31, 12), (6, 48, 39), (6, 49, 29), (6, 9, 33)]
def xObl : List (Nat × Nat) := [(0, 3), (2, 3), (3, 3), (4, 3), (5, 3), (6, 1), (7, 7)]
def xCpl : List (Nat × Nat) := [(4, 40), (5, 18), (6, 236)]
def xMml : List (Nat × Nat × Nat) := [(0, 69, 996), (0, 82, 995), (6, 268, 995), (6, 273, 996)]
def xKl : List (Nat × Nat × Nat) := [(13, 7, 5), (13, 10, 6), (6, 7, 3), (6, 22, 0), (6, 29, 1), (6, 36, 4), (6, 36, 10), (6, 42, 2), (6, 42, 9)]
def xCo : List (Nat × Nat × Int32) := [(8, 264, 65536), (8, 265, 1431655765), (8, 266, 858993459), (8, 267, 252645135), (6, 144, (-999999)), (6, 145, 999999), (6, 267, 1103515245), (6, 84, (-1000000)), (7, 127, (-1000000)), (7, 376, (-999999)), (7, 377, 999999), (7, 411, 1103515245)]
def xCoL : List (Nat × Nat × Int64) := [(6, 215, (-4611686018427387904)), (7, 119, 5), (7, 121, 9), (7, 123, 63), (7, 125, 7), (7, 131, 255), (7, 154, 97), (7, 156, 122), (7, 158, 48), (7, 160, 57), (7, 166, 10), (7, 227, 43), (7, 232, 60), (7, 368, 3), (7, 387, (-9999)), (7, 389, 9999), (7, 394, 69), (7, 402, 50), (7, 404, 59), (7, 406, 6), (7, 418, 20), (7, 420, (-4611686018427387904)), (7, 431, (-1)), (7, 433, 2), (7, 95, 4)]
def xStr : List (Nat × Nat × Nat) := [(6, 50, 1000), (2, 93, 1001), (2, 99, 1002), (2, 101, 1003), (2, 103, 1004), (2, 105, 1005), (2, 107, 1006), (2, 109, 1007), (2, 111, 1008), (2, 113, 1009), (2, 115, 1010), (2, 117, 1011), (2, 119, 1012)]
def xNM : Nat := 199
def xBW : List Cond := lw_tbl.filter goodWord
theorem xBW_of {w : Cond} (h : w ∈ lw_tbl ∧ goodWord w = true) : w ∈ xBW := List.mem_filter.mpr h
def xCn (c : Nat) : String := [RX0, RX1, RX2, RX3, RX4, RX5, RX6, RX7, RJ6, RJ9, RJ0, RJ1, RJ3, RL].getD c ""
def xRn (c : Nat) : String := [RX0, RX2, RX3, RX4, RX5, RX6, RX7].getD c ""
def xTt : Nat → u_T := fun ci => match ci with
  | 0 => TX0
  | 1 => TX2
  | 2 => TX3
  | 3 => TX4
  | 4 => TX5
  | 5 => TX6
  | _ => TX7
theorem xCl_at : ∀ ci, ci < 7 → vwCl[ci]? = some (xRn ci, xTt ci, xNf ci)
  | 0, _ => rfl
  | 1, _ => rfl
  | 2, _ => rfl
  | 3, _ => rfl
  | 4, _ => rfl
  | 5, _ => rfl
  | 6, _ => rfl
  | n + 7, h => absurd h (by omega)
def xIn (w : Cond) : Bool := decide (w ∈ lw_tbl) && goodWord w
theorem xIn_ok {w : Cond} (h : xIn w = true) : w ∈ xBW := by
  unfold xIn at h
  rw [Bool.and_eq_true, decide_eq_true_eq] at h
  exact xBW_of h
def xInK (k : Nat) (w : Cond) : Bool := decide (lw_tbl[k]? = some w) && goodWord w
theorem xInK_ok {k : Nat} {w : Cond} (h : xInK k w = true) : w ∈ xBW := by
  unfold xInK at h
  rw [Bool.and_eq_true, decide_eq_true_eq] at h
  exact xBW_of ⟨List.mem_of_getElem? h.1, h.2⟩
theorem xFl_ok : xFl.all (fun x => xIn (.fieldLink (xCn x.1) x.2.1 ((xTt x.2.2.1) x.2.2.2).1 ((xTt x.2.2.1) x.2.2.2).2.1 ((xTt x.2.2.1) x.2.2.2).2.2.1) && decide (x.2.2.2 < xNf x.2.2.1) && decide (x.2.2.1 < 7)) = true := by decide +kernel
theorem xSfl_ok : xSfl.all (fun x => xIn (.fieldLink "java/lang/String" x.1 "java/lang/String" (if x.2 = 0 then "value" else "coder") (if x.2 = 0 then "[B" else "B"))) = true := by decide +kernel
def xSt3 (a : Nat) : String × String × String := if a = 1 then ("java/lang/String", "COMPACT_STRINGS", "Z") else if a = 3000 then ("TepidByTreaty$Kinds", "ABOVE", "[I") else ("jdk/internal/util/Preconditions", "SIOOBE_FORMATTER", "Ljava/util/function/BiFunction;")
theorem xStl_ok : xStl.all (fun x => xIn (.fieldLink (xCn x.1) x.2.1 (xSt3 x.2.2).1 (xSt3 x.2.2).2.1 (xSt3 x.2.2).2.2) && (decide (x.2.2 = 1) || decide (x.2.2 = 3000) || decide (x.2.2 = 4000))) = true := by decide +kernel
def xMy (i : Nat) : MethodName := (xMt i).2.1
def xMc (i : Nat) : ByteArray := (xMt i).2.2.1
def xMr (i : Nat) : Option FieldType := (xMt i).2.2.2.2.1
def xMa (i : Nat) : Nat := (xMt i).2.2.2.2.2.1
def xMk (i : Nat) : Nat := (xMt i).2.2.2.2.2.2.1
def xMo (i : Nat) : Nat := (xMt i).1
def xMlk : List (Nat × Nat × Nat) := xMlk4.map fun q => (q.1, q.2.1, q.2.2.1)
theorem xMlk4_ok : xMlk4.all (fun x => xInK x.2.2.2 (.methodLink (xCn x.1) x.2.1 (xMy x.2.2.1)) && decide (x.2.2.1 < xNM)) = true := by decide +kernel
theorem xNlk_ok : xNlk.all (fun x => decide (Cond.methodLinkNest (xCn x.1) x.2.1 (xMy x.2.2) "TepidByTreaty" ∈ lw_tbl) && decide (x.2.2 < xNM)) = true := by decide +kernel
theorem xObl_ok : xObl.all (fun x => xIn (.methodLink (xCn x.1) x.2 objectInit)) = true := by decide +kernel
theorem xOb_ok : (xIn (.instanceMethod objectInit) && xIn (.code objectInit ⟨#[0xb1]⟩ 1 none)) = true := by decide +kernel
theorem xMml_ok : xMml.all (fun x => xIn (.methodLink (xCn x.1) x.2.1 (if x.2.2 = 996 then Lib.Math.max.name else Lib.Math.min.name)) && (decide (x.2.2 = 996) || decide (x.2.2 = 995))) = true := by decide +kernel
theorem xMm_ok : (xIn (.static Lib.Math.max.name) && xIn (.static Lib.Math.min.name) && xIn (.initialized "java/lang/Math") && xIn (.code Lib.Math.max.name Lib.Math.max.code 2 (some .int)) && xIn (.code Lib.Math.min.name Lib.Math.min.code 2 (some .int))) = true := by decide +kernel
theorem xCpl_ok : xCpl.all (fun x => xIn (.methodLink (xCn x.1) x.2 arraycopyName)) = true := by decide +kernel
theorem xCp_ok : (xIn (.native arraycopyName) && xIn (.static arraycopyName) && xIn (.initialized "java/lang/System")) = true := by decide +kernel
def xKc (a : Nat) : String := if a = 9 then RX3 else if a = 10 then RX5 else xRn a
theorem xKl_ok : xKl.all (fun x => xIn (.classLink (xCn x.1) x.2.1 (xKc x.2.2))) = true := by decide +kernel
theorem xKi_ok : (List.range 7).all (fun c => xIn (.instantiable (xRn c) (xNf c)) && xIn (.initialized (xRn c)) && (u_ws (xRn c) (xTt c) (xNf c)).all xIn) = true := by decide +kernel
theorem xAr_ok : (xIn (.arrayClass .int) && xIn (.arrayClass .boolean) && decide (Cond.arrayOver (.object RX3) ∈ lw_tbl) && decide (Cond.arrayOver (.object RX5) ∈ lw_tbl)) = true := by decide +kernel
theorem xCo_ok : xCo.all (fun x => xIn (.constant (xCn x.1) x.2.1 x.2.2)) = true := by decide +kernel
theorem xCoL_ok : xCoL.all (fun x => xIn (.constantLong (xCn x.1) x.2.1 x.2.2)) = true := by decide +kernel
theorem xStr_ok : xStr.all (fun x => decide (1000 ≤ x.2.2) && decide (x.2.2 < 1013)) = true := by decide +kernel
/-- what the tables say of every method -/
def xMok (i : Nat) : Bool := xInK (xMw.getD i (0, 0, 0, 0)).1 (.code (xMy i) (xMc i) (xMl i) (xMr i)) && xInK (xMw.getD i (0, 0, 0, 0)).2.1 (.initialized (xMy i).cls) && plainFor (xMy i) && decide ((xMy i).cls ≠ "java/lang/invoke/MethodHandle") && decide ((xMy i).cls ≠ "java/lang/invoke/VarHandle") && decide ((parseMethodDescriptor (xMy i).desc).map (fun d => d.parameters.length) = some (if xMk i = 1 then xMa i else xMa i - 1)) && decide ((xMy i).cls = xCn (xMo i)) && decide (xMl i ≤ 100) &&
  (if xMk i = 0 then decide (1 ≤ xMa i) && xInK (xMw.getD i (0, 0, 0, 0)).2.2.1 (.instanceMethod (xMy i)) && xInK (xMw.getD i (0, 0, 0, 0)).2.2.2 (.selects (xMy i).cls (xMy i) (xMy i)) && (decide (xRk i < 7) && decide ((xMy i).cls = xRn (xRk i)) || decide (xRk i = 100) && decide ((xMy i).cls = "java/lang/String")) else if xMk i = 1 then xInK (xMw.getD i (0, 0, 0, 0)).2.2.1 (.static (xMy i)) && decide (xRk i = 99) else decide (xMk i = 2) && decide (1 ≤ xMa i) && decide ((xMy i).name = "<init>") && xInK (xMw.getD i (0, 0, 0, 0)).2.2.1 (.instanceMethod (xMy i)) && decide (xRk i = 98) && decide (xMr i = none)) && (decide (xMr i = none) || decide (xMr i = some .int) || decide (xMr i = some .boolean) || decide (xMr i = some .long) || decide (xMr i = some .char) || decide (xMr i = some .byte))
def xLen : Instr → Nat
  | .iload _ => 2
  | .lload _ => 2
  | .aload _ => 2
  | .istore _ => 2
  | .astore _ => 2
  | .lstore _ => 2
  | .iinc _ _ => 3
  | .bipush _ => 2
  | .sipush _ => 3
  | .ldc _ => 2
  | .ldc_w _ => 3
  | .ldc2_w _ => 3
  | .goto _ => 3
  | .ifCond _ _ => 3
  | .if_icmp _ _ => 3
  | .getfield _ => 3
  | .putfield _ => 3
  | .getstatic _ => 3
  | .new _ => 3
  | .newarray _ => 2
  | .anewarray _ => 3
  | .invokevirtual _ => 3
  | .invokestatic _ => 3
  | .invokespecial _ => 3
  | _ => 1
def xGts (pc : Nat) (lo : Int) : List Int → List (Int32 × Nat) → Bool
  | [], [] => true
  | o :: os, (k, t) :: ts => decide (k = Int32.ofInt lo) && decide ((pc : Int) + o = (t : Int)) && xGts pc (lo + 1) os ts
  | _, _ => false
def xGlu (pc : Nat) : List (Int × Int) → List (Int32 × Nat) → Bool
  | [], [] => true
  | (q, o) :: os, (k, t) :: ts => decide (k = Int32.ofInt q) && decide (-2147483648 ≤ q) && decide (q < 2147483648) && decide ((pc : Int) + o = (t : Int)) && xGlu pc os ts
  | _, _ => false
def xRt (b : Nat) : FieldType := match b with
  | 0 => .int
  | 1 => .boolean
  | 2 => .char
  | _ => .byte
/-- a terminal instruction: what stands behind it isn't read -/
def xTm : Instr → Bool
  | .goto _ => true
  | .tableswitch _ _ _ _ => true
  | .lookupswitch _ _ => true
  | .ireturn => true
  | .lreturn => true
  | .return_ => true
  | _ => false
def xGk (own : Nat) (rt : Option FieldType) (ini : Bool) (pc a b : Nat) (v : Int32) (w : Int64) (ts : List (Int32 × Nat)) : Instr → Bool
  | .iinc _ n => decide (Int32.ofInt n = v)
  | .iconst n => decide (Int32.ofInt n = v)
  | .bipush n => decide ((Int8.ofInt n).toInt32 = v)
  | .sipush n => decide ((Int16.ofInt n).toInt32 = v)
  | .ldc ix => if a = 0 then decide ((own, ix, v) ∈ xCo) else decide ((own, ix, a) ∈ xStr)
  | .ldc_w ix => decide ((own, ix, v) ∈ xCo)
  | .lconst n => decide (Int64.ofNat n.val = w)
  | .ldc2_w ix => decide ((own, ix, w) ∈ xCoL)
  | .getfield ix => if a = 100 then decide (own = 10) && decide ((ix, b) ∈ xSfl) && decide (b < 2) else decide ((own, ix, a, b) ∈ xFl)
  | .putfield ix => decide ((own, ix, a, b) ∈ xFl) && (!((xTt a) b).2.2.2 || (ini && decide (((xTt a) b).1 = xCn own)))
  | .getstatic ix => decide ((own, ix, a) ∈ xStl)
  | .new ix => decide ((own, ix, a) ∈ xKl) && decide (a < 7)
  | .newarray t => decide (t = .int) && decide (a = 7) || decide (t = .boolean) && decide (a = 8)
  | .anewarray ix => decide ((own, ix, a) ∈ xKl) && (decide (a = 9) || decide (a = 10))
  | .goto off => decide ((pc : Int) + off = (a : Int))
  | .ifCond _ off => decide ((pc : Int) + off = (a : Int))
  | .if_icmp _ off => decide ((pc : Int) + off = (a : Int))
  | .tableswitch d lo hi offs => decide ((pc : Int) + d = (a : Int)) && xGts pc lo offs.toList ts && decide (hi = lo + offs.toList.length - 1) && decide (-2147483648 ≤ lo) && decide (hi < 2147483648)
  | .lookupswitch d ps => decide ((pc : Int) + d = (a : Int)) && xGlu pc ps.toList ts && (ps.toList.zip (ps.toList.drop 1)).all (fun q => decide (q.1.1 < q.2.1))
  | .ireturn => decide (rt = some (xRt b))
  | .lreturn => decide (rt = some .long)
  | .return_ => decide (rt = none)
  | .invokevirtual ix => decide (a = 997) || decide ((own, ix, a) ∈ xMlk) && decide (xMk a = 0) && decide (xMa a = b)
  | .invokestatic ix => decide (a = 997) || (decide (a = 998) && decide ((own, ix) ∈ xCpl)) || (decide (a = 996 ∨ a = 995) && decide ((own, ix, a) ∈ xMml)) || (decide ((own, ix, a) ∈ xMlk) || decide ((own, ix, a) ∈ xNlk)) && decide (xMk a = 1) && decide (xMa a = b)
  | .invokespecial ix => decide (a = 999) && decide ((own, ix) ∈ xObl) || (decide ((own, ix, a) ∈ xMlk) || decide ((own, ix, a) ∈ xNlk)) && decide (xMk a = 2) && decide (xMa a = b)
  | _ => true
def xSwI : Instr → Bool
  | .tableswitch _ _ _ _ => true
  | .lookupswitch _ _ => true
  | _ => false
def xGe (i pc : Nat) (el : xEl) : Bool := decide (decode (xMc i) pc = .ok (el.1, el.2.1.2.1)) && (xSwI el.1 || decide (el.2.1.2.1 = xLen el.1)) && decide (el.2.1.1 = pc) && xGk (xMo i) (xMr i) (decide (xMk i = 2)) pc el.2.1.2.2.1 el.2.1.2.2.2 el.2.2.1 el.2.2.2.1 el.2.2.2.2 el.1
def xGl (i ep : Nat) : Nat → List xEl → Bool
  | pc, [] => decide (pc = ep)
  | pc, el :: l => xGe i pc el && (xTm el.1 || xGl i ep (pc + el.2.1.2.1) l)
def xGb (i : Nat) : Bool := (xBl i).all (fun q => xGl i q.2.1 q.1 q.2.2)

