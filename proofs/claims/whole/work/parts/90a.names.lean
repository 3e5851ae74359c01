theorem mem_r {big : List Cond} (ws : List Cond) (ps : List Nat) (hp : ws = ps.filterMap (fun i => big[i]?)) : ∀ w ∈ ws, w ∈ big := by
  intro w hw
  rw [hp] at hw
  obtain ⟨i, -, hi⟩ := List.mem_filterMap.mp hw
  first | exact List.mem_of_getElem? hi | exact List.getElem?_mem hi
set_option maxRecDepth 100000 in
theorem wsL_law_r1_inL : ∀ w ∈ wsL_law_r1, w ∈ lw_tbl := mem_r _ [120, 121, 104, 859, 832, 117, 1279, 122, 123, 124, 125, 126, 127, 128, 406, 407, 130, 408, 409, 410, 171, 411, 412, 132] rfl
set_option maxRecDepth 100000 in
theorem wsL_law_r2_inL : ∀ w ∈ wsL_law_r2, w ∈ lw_tbl := mem_r _ [413, 134, 135, 105, 414, 173, 174, 106, 415, 198, 199, 107, 416, 228, 417, 418, 419, 420, 229, 108, 137, 138, 139, 141] rfl
set_option maxRecDepth 100000 in
theorem wsL_law_r3_inL : ∀ w ∈ wsL_law_r3, w ∈ lw_tbl := mem_r _ [142, 143, 144, 145, 146, 172, 147, 148, 149, 140, 176, 177, 178, 179, 180, 181, 182, 183, 184, 201, 202, 203, 204, 207] rfl
set_option maxRecDepth 100000 in
theorem wsL_law_r4_inL : ∀ w ∈ wsL_law_r4, w ∈ lw_tbl := mem_r _ [208, 209, 210, 211, 212, 206, 231, 232, 233, 234, 236, 238, 248, 249, 250, 109, 251, 1280, 252, 253, 254, 255, 256, 1281] rfl
set_option maxRecDepth 100000 in
theorem wsL_law_r5_inL : ∀ w ∈ wsL_law_r5, w ∈ lw_tbl := mem_r _ [258, 259, 260, 261, 262, 263, 264, 265, 266, 267, 110, 268, 269, 270, 271, 272, 274, 275, 111, 276, 277, 278, 112, 279] rfl
set_option maxRecDepth 100000 in
theorem wsL_law_r6_inL : ∀ w ∈ wsL_law_r6, w ∈ lw_tbl := mem_r _ [280, 281, 282, 283, 284, 285, 286, 287, 288, 289, 290, 292, 294, 298, 0, 299, 300, 301, 113, 302, 303, 305, 1, 306] rfl
set_option maxRecDepth 100000 in
theorem wsL_law_r7_inL : ∀ w ∈ wsL_law_r7, w ∈ lw_tbl := mem_r _ [307, 308, 309, 310, 312, 2, 313, 314, 316, 3, 317, 319, 320, 321, 322, 323, 324, 326, 4, 327, 328, 329, 330, 331] rfl
set_option maxRecDepth 100000 in
theorem wsL_law_r8_inL : ∀ w ∈ wsL_law_r8, w ∈ lw_tbl := mem_r _ [333, 5, 334, 335, 337, 6, 338, 339, 341, 7, 342, 343, 345, 8, 355, 357, 11, 358, 346, 347, 349, 9, 350, 351] rfl
set_option maxRecDepth 100000 in
theorem wsL_law_r9_inL : ∀ w ∈ wsL_law_r9, w ∈ lw_tbl := mem_r _ [353, 10, 354, 359, 361, 12, 370, 367, 369, 14, 362, 363, 365, 13, 366, 373, 15, 374, 375, 376, 114, 391, 381, 382] rfl
set_option maxRecDepth 100000 in
theorem wsL_law_r10_inL : ∀ w ∈ wsL_law_r10, w ∈ lw_tbl := mem_r _ [383, 384, 392, 377, 378, 115, 379, 380, 386, 387, 388, 390, 389, 116, 394, 395, 396, 397, 399, 860, 861, 862, 863, 868] rfl
set_option maxRecDepth 100000 in
theorem wsL_law_r11_inL : ∀ w ∈ wsL_law_r11, w ∈ lw_tbl := mem_r _ [869, 870, 871, 872, 873, 874, 875, 876, 877, 878, 879, 880, 881, 882, 883, 884, 885, 886, 887, 888, 889, 890, 891, 892] rfl
set_option maxRecDepth 100000 in
theorem wsL_law_r12_inL : ∀ w ∈ wsL_law_r12, w ∈ lw_tbl := mem_r _ [893, 894, 895, 896, 1010, 897, 898, 899, 900, 901, 902, 903, 904, 905, 906, 907, 908, 909, 910, 911, 912, 913, 914, 864] rfl
set_option maxRecDepth 100000 in
theorem wsL_law_r13_inL : ∀ w ∈ wsL_law_r13, w ∈ lw_tbl := mem_r _ [866, 61, 867, 452, 453, 454, 455, 456, 118, 458, 459, 460, 469, 471, 472, 461, 467, 463, 465, 825, 826, 827, 828, 829] rfl
set_option maxRecDepth 100000 in
theorem wsL_law_r14_inL : ∀ w ∈ wsL_law_r14, w ∈ lw_tbl := mem_r _ [831, 56, 833, 834, 836, 57, 837, 838, 840, 58, 841, 488, 489, 490, 491, 496, 492, 494, 16, 495, 499, 17, 500, 842] rfl
set_option maxRecDepth 100000 in
theorem wsL_law_r15_inL : ∀ w ∈ wsL_law_r15, w ∈ lw_tbl := mem_r _ [843, 844, 845, 850, 846, 848, 59, 849, 851, 853, 60, 854, 501, 502, 503, 504, 855, 856, 857, 858, 505, 506, 507, 508] rfl
set_option maxRecDepth 100000 in
theorem wsL_law_r16_inL : ∀ w ∈ wsL_law_r16, w ∈ lw_tbl := mem_r _ [1011, 1012, 1013, 1014, 1015, 509, 510, 511, 512, 1016, 1017, 1018, 1019, 1050, 1051, 1020, 1022, 62, 1023, 1024, 1026, 63, 1027, 1028] rfl
set_option maxRecDepth 100000 in
theorem wsL_law_r17_inL : ∀ w ∈ wsL_law_r17, w ∈ lw_tbl := mem_r _ [1030, 64, 1031, 1032, 1034, 65, 1035, 1036, 1038, 66, 1039, 1040, 1041, 1042, 1043, 1044, 1045, 1046, 1048, 67, 1049, 1052, 1054, 68] rfl
set_option maxRecDepth 100000 in
theorem wsL_law_r18_inL : ∀ w ∈ wsL_law_r18, w ∈ lw_tbl := mem_r _ [1055, 1056, 1058, 69, 1059, 1060, 1062, 70, 1063, 1064, 1066, 71, 1067, 1068, 1070, 72, 1071, 1072, 1074, 73, 1075, 1076, 1078, 74] rfl
set_option maxRecDepth 100000 in
theorem wsL_law_r19_inL : ∀ w ∈ wsL_law_r19, w ∈ lw_tbl := mem_r _ [1079, 1080, 1082, 75, 1083, 1084, 1086, 76, 1087, 1088, 1090, 77, 1091, 1092, 1094, 78, 1095, 513, 514, 515, 516, 1096, 1097, 1098] rfl
set_option maxRecDepth 100000 in
theorem wsL_law_r20_inL : ∀ w ∈ wsL_law_r20, w ∈ lw_tbl := mem_r _ [1099, 517, 518, 519, 520, 523, 18, 524, 525, 526, 527, 530, 19, 531, 532, 533, 534, 542, 535, 537, 20, 538, 539, 540] rfl
set_option maxRecDepth 100000 in
theorem wsL_law_r21_inL : ∀ w ∈ wsL_law_r21, w ∈ lw_tbl := mem_r _ [541, 1100, 1101, 1102, 1103, 1104, 1106, 79, 1107, 1108, 1110, 80, 1111, 1112, 1114, 81, 1115, 543, 544, 545, 546, 553, 547, 548] rfl
set_option maxRecDepth 100000 in
theorem wsL_law_r22_inL : ∀ w ∈ wsL_law_r22, w ∈ lw_tbl := mem_r _ [549, 550, 551, 552, 554, 556, 21, 557, 558, 560, 22, 561, 564, 23, 565, 568, 24, 569, 570, 572, 25, 573, 575, 576] rfl
set_option maxRecDepth 100000 in
theorem wsL_law_r23_inL : ∀ w ∈ wsL_law_r23, w ∈ lw_tbl := mem_r _ [578, 26, 579, 580, 582, 27, 583, 584, 586, 28, 587, 588, 590, 29, 591, 596, 592, 593, 594, 595, 597, 599, 30, 600] rfl
set_option maxRecDepth 100000 in
theorem wsL_law_r24_inL : ∀ w ∈ wsL_law_r24, w ∈ lw_tbl := mem_r _ [601, 603, 31, 604, 605, 606, 608, 32, 609, 611, 612, 613, 614, 617, 33, 618, 621, 34, 622, 623, 624, 625, 626, 627] rfl
set_option maxRecDepth 100000 in
theorem wsL_law_r25_inL : ∀ w ∈ wsL_law_r25, w ∈ lw_tbl := mem_r _ [628, 629, 630, 631, 1116, 1117, 1118, 1119, 1124, 1120, 1122, 82, 1123, 1125, 1127, 83, 1128, 1129, 1131, 84, 1132, 1133, 1135, 85] rfl
set_option maxRecDepth 100000 in
theorem wsL_law_r26_inL : ∀ w ∈ wsL_law_r26, w ∈ lw_tbl := mem_r _ [1136, 1137, 1139, 86, 1140, 1141, 1143, 87, 1144, 1145, 1147, 88, 1148, 1157, 1158, 1149, 1151, 89, 1152, 1153, 1155, 90, 1156, 1159] rfl
set_option maxRecDepth 100000 in
theorem wsL_law_r27_inL : ∀ w ∈ wsL_law_r27, w ∈ lw_tbl := mem_r _ [1161, 91, 1162, 1163, 1165, 92, 1166, 1167, 1169, 93, 1170, 1171, 1173, 94, 1174, 632, 633, 634, 635, 638, 35, 639, 642, 36] rfl
set_option maxRecDepth 100000 in
theorem wsL_law_r28_inL : ∀ w ∈ wsL_law_r28, w ∈ lw_tbl := mem_r _ [643, 1175, 1176, 1177, 1178, 645, 646, 647, 648, 649, 650, 651, 652, 655, 37, 656, 657, 1179, 1180, 1181, 1182, 1183, 1185, 95] rfl
set_option maxRecDepth 100000 in
theorem wsL_law_r29_inL : ∀ w ∈ wsL_law_r29, w ∈ lw_tbl := mem_r _ [1186, 1187, 658, 659, 660, 661, 664, 38, 665, 666, 668, 39, 669, 670, 673, 40, 674, 675, 676, 119, 677, 678, 679, 680] rfl
set_option maxRecDepth 100000 in
theorem wsL_law_r30_inL : ∀ w ∈ wsL_law_r30, w ∈ lw_tbl := mem_r _ [681, 682, 685, 41, 686, 687, 689, 42, 690, 692, 693, 694, 691, 1188, 1189, 1190, 1191, 1192, 1194, 96, 1195, 1196, 1198, 97] rfl
set_option maxRecDepth 100000 in
theorem wsL_law_r31_inL : ∀ w ∈ wsL_law_r31, w ∈ lw_tbl := mem_r _ [1199, 1200, 1202, 98, 1203, 1208, 1204, 1206, 99, 1207, 1209, 1211, 100, 1212, 695, 696, 697, 698, 699, 701, 43, 702, 703, 1213] rfl
set_option maxRecDepth 100000 in
theorem wsL_law_r32_inL : ∀ w ∈ wsL_law_r32, w ∈ lw_tbl := mem_r _ [1214, 1215, 1216, 704, 705, 706, 707, 708, 1217, 1218, 1219, 1220, 709, 710, 711, 712, 713, 715, 44, 716, 719, 45, 720, 722] rfl
set_option maxRecDepth 100000 in
theorem wsL_law_r33_inL : ∀ w ∈ wsL_law_r33, w ∈ lw_tbl := mem_r _ [721, 723, 725, 46, 726, 1221, 1222, 1223, 1224, 1229, 1225, 1227, 101, 1228, 727, 728, 729, 730, 731, 734, 47, 735, 737, 1230] rfl
set_option maxRecDepth 100000 in
theorem wsL_law_r34_inL : ∀ w ∈ wsL_law_r34, w ∈ lw_tbl := mem_r _ [1231, 1232, 1233, 1234, 1236, 102, 1237, 1238, 738, 739, 740, 741, 1239, 1240, 1241, 1242, 742, 743, 744, 745, 748, 48, 749, 750] rfl
set_option maxRecDepth 100000 in
theorem wsL_law_r35_inL : ∀ w ∈ wsL_law_r35, w ∈ lw_tbl := mem_r _ [751, 752, 753, 756, 49, 757, 1243, 1244, 1245, 1246, 758, 759, 760, 761, 764, 50, 765, 766, 1247, 1248, 1249, 1250, 767, 768] rfl
set_option maxRecDepth 100000 in
theorem wsL_law_r36_inL : ∀ w ∈ wsL_law_r36, w ∈ lw_tbl := mem_r _ [769, 770, 773, 51, 774, 1251, 1252, 1253, 1254, 775, 776, 777, 778, 779, 781, 52, 782, 783, 785, 53, 786, 1255, 1256, 1257] rfl
set_option maxRecDepth 100000 in
theorem wsL_law_r37_inL : ∀ w ∈ wsL_law_r37, w ∈ lw_tbl := mem_r _ [1258, 787, 788, 789, 790, 793, 54, 794, 795, 796, 797, 1259, 1260, 1261, 1262, 798, 799, 800, 801, 804, 55, 805, 1263, 1264] rfl
set_option maxRecDepth 100000 in
theorem wsL_law_r38_inL : ∀ w ∈ wsL_law_r38, w ∈ lw_tbl := mem_r _ [1265, 1266, 806, 807, 808, 809, 810, 1267, 1268, 1269, 1270, 811, 812, 813, 814, 815, 1271, 1272, 1273, 1274, 816, 817, 818, 819] rfl
set_option maxRecDepth 100000 in
theorem wsL_law_r39_inL : ∀ w ∈ wsL_law_r39, w ∈ lw_tbl := mem_r _ [820, 821, 822, 823, 1275, 1276, 1277, 1278] rfl
set_option maxRecDepth 100000 in
theorem wsX60_inL : ∀ w ∈ wsX60, w ∈ lw_tbl := mem_r _ [421, 423, 425, 427, 429, 431, 433, 435, 437, 439, 441, 443, 445, 447, 449] rfl
set_option maxRecDepth 100000 in
theorem wsX70_inL : ∀ w ∈ wsX70, w ∈ lw_tbl := mem_r _ [915, 917, 919, 921, 923, 925, 927, 929, 931, 933, 935, 937, 939, 941, 943, 945, 947, 949, 951, 953, 955, 957, 959, 961, 963, 965, 967, 969, 971, 973, 975, 977, 979, 981, 983, 985, 987, 989, 991, 993, 995, 997, 999, 1001, 1003, 1005, 1007] rfl
set_option maxRecDepth 100000 in
theorem wsX30_inL : ∀ w ∈ wsX30, w ∈ lw_tbl := mem_r _ [150, 152, 154, 156, 158, 160, 162, 164, 166, 168] rfl
set_option maxRecDepth 100000 in
theorem wsX00_inL : ∀ w ∈ wsX00, w ∈ lw_tbl := mem_r _ [185, 187, 189, 191, 193, 195] rfl
set_option maxRecDepth 100000 in
theorem wsX10_inL : ∀ w ∈ wsX10, w ∈ lw_tbl := mem_r _ [213, 215, 217, 219, 221, 223, 225] rfl
set_option maxRecDepth 100000 in
theorem wsX40_inL : ∀ w ∈ wsX40, w ∈ lw_tbl := mem_r _ [240, 242, 244] rfl
set_option maxRecDepth 100000 in
theorem wsX50_inL : ∀ w ∈ wsX50, w ∈ lw_tbl := mem_r _ [401, 403] rfl
set_option maxRecDepth 100000 in
theorem wsX20_inL : ∀ w ∈ wsX20, w ∈ lw_tbl := mem_r _ [473, 475, 477, 479, 481, 483, 485] rfl
theorem wsL_law_in : ∀ w ∈ wsL_law, w ∈ lw_tbl := List.forall_mem_append.mpr ⟨List.forall_mem_append.mpr ⟨List.forall_mem_append.mpr ⟨List.forall_mem_append.mpr ⟨List.forall_mem_append.mpr ⟨List.forall_mem_append.mpr ⟨List.forall_mem_append.mpr ⟨List.forall_mem_append.mpr ⟨List.forall_mem_append.mpr ⟨List.forall_mem_append.mpr ⟨wsL_law_r1_inL, List.forall_mem_append.mpr ⟨wsL_law_r2_inL, List.forall_mem_append.mpr ⟨wsL_law_r3_inL, List.forall_mem_append.mpr ⟨wsL_law_r4_inL, List.forall_mem_append.mpr ⟨wsL_law_r5_inL, List.forall_mem_append.mpr ⟨wsL_law_r6_inL, List.forall_mem_append.mpr ⟨wsL_law_r7_inL, List.forall_mem_append.mpr ⟨wsL_law_r8_inL, List.forall_mem_append.mpr ⟨wsL_law_r9_inL, List.forall_mem_append.mpr ⟨wsL_law_r10_inL, List.forall_mem_append.mpr ⟨wsL_law_r11_inL, List.forall_mem_append.mpr ⟨wsL_law_r12_inL, List.forall_mem_append.mpr ⟨wsL_law_r13_inL, List.forall_mem_append.mpr ⟨wsL_law_r14_inL, List.forall_mem_append.mpr ⟨wsL_law_r15_inL, List.forall_mem_append.mpr ⟨wsL_law_r16_inL, List.forall_mem_append.mpr ⟨wsL_law_r17_inL, List.forall_mem_append.mpr ⟨wsL_law_r18_inL, List.forall_mem_append.mpr ⟨wsL_law_r19_inL, List.forall_mem_append.mpr ⟨wsL_law_r20_inL, List.forall_mem_append.mpr ⟨wsL_law_r21_inL, List.forall_mem_append.mpr ⟨wsL_law_r22_inL, List.forall_mem_append.mpr ⟨wsL_law_r23_inL, List.forall_mem_append.mpr ⟨wsL_law_r24_inL, List.forall_mem_append.mpr ⟨wsL_law_r25_inL, List.forall_mem_append.mpr ⟨wsL_law_r26_inL, List.forall_mem_append.mpr ⟨wsL_law_r27_inL, List.forall_mem_append.mpr ⟨wsL_law_r28_inL, List.forall_mem_append.mpr ⟨wsL_law_r29_inL, List.forall_mem_append.mpr ⟨wsL_law_r30_inL, List.forall_mem_append.mpr ⟨wsL_law_r31_inL, List.forall_mem_append.mpr ⟨wsL_law_r32_inL, List.forall_mem_append.mpr ⟨wsL_law_r33_inL, List.forall_mem_append.mpr ⟨wsL_law_r34_inL, List.forall_mem_append.mpr ⟨wsL_law_r35_inL, List.forall_mem_append.mpr ⟨wsL_law_r36_inL, List.forall_mem_append.mpr ⟨wsL_law_r37_inL, List.forall_mem_append.mpr ⟨wsL_law_r38_inL, wsL_law_r39_inL⟩⟩⟩⟩⟩⟩⟩⟩⟩⟩⟩⟩⟩⟩⟩⟩⟩⟩⟩⟩⟩⟩⟩⟩⟩⟩⟩⟩⟩⟩⟩⟩⟩⟩⟩⟩⟩⟩, wsX60_inL⟩, wsX70_inL⟩, wsX30_inL⟩, wsX00_inL⟩, wsX10_inL⟩, wsX40_inL⟩, wsX50_inL⟩, wsX20_inL⟩, fun _ h => absurd h List.not_mem_nil⟩
theorem inlX0 : ∀ w ∈ wsX00, w ∈ wsL_law := fun _ h => List.mem_append_left _ (List.mem_append_left _ (List.mem_append_left _ (List.mem_append_left _ (List.mem_append_left _ (List.mem_append_right _ h)))))
theorem inX0 : ∀ w ∈ wsX00, w ∈ lw_tbl := fun w h => wsL_law_in w (inlX0 w h)
theorem inlX1 : ∀ w ∈ wsX10, w ∈ wsL_law := fun _ h => List.mem_append_left _ (List.mem_append_left _ (List.mem_append_left _ (List.mem_append_left _ (List.mem_append_right _ h))))
theorem inX1 : ∀ w ∈ wsX10, w ∈ lw_tbl := fun w h => wsL_law_in w (inlX1 w h)
theorem inlX2 : ∀ w ∈ wsX20, w ∈ wsL_law := fun _ h => List.mem_append_left _ (List.mem_append_right _ h)
theorem inX2 : ∀ w ∈ wsX20, w ∈ lw_tbl := fun w h => wsL_law_in w (inlX2 w h)
theorem inlX3 : ∀ w ∈ wsX30, w ∈ wsL_law := fun _ h => List.mem_append_left _ (List.mem_append_left _ (List.mem_append_left _ (List.mem_append_left _ (List.mem_append_left _ (List.mem_append_left _ (List.mem_append_right _ h))))))
theorem inX3 : ∀ w ∈ wsX30, w ∈ lw_tbl := fun w h => wsL_law_in w (inlX3 w h)
theorem inlX4 : ∀ w ∈ wsX40, w ∈ wsL_law := fun _ h => List.mem_append_left _ (List.mem_append_left _ (List.mem_append_left _ (List.mem_append_right _ h)))
theorem inX4 : ∀ w ∈ wsX40, w ∈ lw_tbl := fun w h => wsL_law_in w (inlX4 w h)
theorem inlX5 : ∀ w ∈ wsX50, w ∈ wsL_law := fun _ h => List.mem_append_left _ (List.mem_append_left _ (List.mem_append_right _ h))
theorem inX5 : ∀ w ∈ wsX50, w ∈ lw_tbl := fun w h => wsL_law_in w (inlX5 w h)
theorem inlX6 : ∀ w ∈ wsX60, w ∈ wsL_law := fun _ h => List.mem_append_left _ (List.mem_append_left _ (List.mem_append_left _ (List.mem_append_left _ (List.mem_append_left _ (List.mem_append_left _ (List.mem_append_left _ (List.mem_append_left _ (List.mem_append_right _ h))))))))
theorem inX6 : ∀ w ∈ wsX60, w ∈ lw_tbl := fun w h => wsL_law_in w (inlX6 w h)
theorem inlX7 : ∀ w ∈ wsX70, w ∈ wsL_law := fun _ h => List.mem_append_left _ (List.mem_append_left _ (List.mem_append_left _ (List.mem_append_left _ (List.mem_append_left _ (List.mem_append_left _ (List.mem_append_left _ (List.mem_append_right _ h)))))))
theorem inX7 : ∀ w ∈ wsX70, w ∈ lw_tbl := fun w h => wsL_law_in w (inlX7 w h)
theorem inJx145de : ∀ w ∈ wsJx145de0, w ∈ lw_tbl := by decide +kernel
theorem inJx9f9b0 : ∀ w ∈ wsJx9f9b00, w ∈ lw_tbl := by decide +kernel
theorem inJx8e188 : ∀ w ∈ wsJx8e1880, w ∈ lw_tbl := by decide +kernel
theorem inJxb160c : ∀ w ∈ wsJxb160c0, w ∈ lw_tbl := by decide +kernel
theorem inJ6 : ∀ w ∈ wsJ60, w ∈ lw_tbl := by decide +kernel
theorem inJ9 : ∀ w ∈ wsJ90, w ∈ lw_tbl := by decide +kernel
theorem inJ0 : ∀ w ∈ wsJ00, w ∈ lw_tbl := by decide +kernel
theorem inJ1 : ∀ w ∈ wsJ10, w ∈ lw_tbl := by decide +kernel
theorem inJ2 : ∀ w ∈ wsJ20, w ∈ lw_tbl := by decide +kernel
theorem inJ10 : ∀ w ∈ wsJ100, w ∈ lw_tbl := by decide +kernel
theorem inJxfd54e : ∀ w ∈ wsJxfd54e0, w ∈ lw_tbl := by decide +kernel
theorem inJx3cf43 : ∀ w ∈ wsJx3cf430, w ∈ lw_tbl := by decide +kernel
theorem inJ7 : ∀ w ∈ wsJ70, w ∈ lw_tbl := by decide +kernel
theorem inJ3 : ∀ w ∈ wsJ30, w ∈ lw_tbl := by decide +kernel
