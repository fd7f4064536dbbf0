/-! the words of the one list, by their places in the tables -/
theorem ps_in {big ws : List Cond} (ps : List Nat) (h : ws = ps.filterMap (fun i => big[i]?)) : ∀ w ∈ ws, w ∈ big := by
  intro w hw
  rw [h] at hw
  obtain ⟨i, -, hi⟩ := List.mem_filterMap.mp hw
  exact List.mem_of_getElem? hi
theorem ps_1 : ∀ w ∈ wsL_law0_r1, w ∈ lw_tbl := ps_in [61, 62, 33, 988, 989, 37, 1227, 63, 64, 65, 66, 67, 68, 69, 70, 36, 95, 96, 97, 98, 99, 100, 101, 71] (by decide +kernel)
theorem ps_2 : ∀ w ∈ wsL_law0_r2, w ∈ lw_tbl := ps_in [72, 73, 81, 83, 74, 75, 35, 76, 85, 77, 78, 34, 79, 80, 990, 991, 992, 993, 319, 996, 998, 1000, 1001, 1003] (by decide +kernel)
theorem ps_3 : ∀ w ∈ wsL_law0_r3, w ∈ lw_tbl := ps_in [1004, 1005, 1006, 1007, 1008, 1009, 1010, 1011, 1012, 183, 184, 32, 185, 186, 187, 188, 189, 190, 191, 198, 41, 267, 42, 283] (by decide +kernel)
theorem ps_4 : ∀ w ∈ wsL_law0_r4, w ∈ lw_tbl := ps_in [284, 43, 192, 193, 194, 195, 196, 197, 121, 122, 123, 124, 84, 285, 286, 287, 288, 298, 300, 289, 291, 292, 294, 296] (by decide +kernel)
theorem ps_5 : ∀ w ∈ wsL_law0_r5, w ∈ lw_tbl := ps_in [297, 320, 321, 322, 323, 86, 87, 324, 326, 4, 327, 328, 330, 5, 331, 332, 334, 6, 335, 375, 172, 45, 173, 376] (by decide +kernel)
theorem ps_6 : ∀ w ∈ wsL_law0_r6, w ∈ lw_tbl := ps_in [336, 337, 44, 338, 339, 340, 341, 342, 343, 344, 345, 46, 346, 347, 1251, 348, 362, 363, 364, 365, 366, 368, 369, 370] (by decide +kernel)
theorem ps_7 : ∀ w ∈ wsL_law0_r7, w ∈ lw_tbl := ps_in [371, 372, 374, 373, 47, 1056, 1057, 1058, 1059, 994, 995, 1067, 1060, 1061, 1062, 1063, 1065, 18, 1066, 1052, 1053, 1054, 1055, 377] (by decide +kernel)
theorem ps_8 : ∀ w ∈ wsL_law0_r8, w ∈ lw_tbl := ps_in [378, 379, 380, 381, 382, 383, 384, 299, 301, 385, 387, 7, 388, 389, 48, 283, 129, 130, 131, 132, 133, 134, 49, 135] (by decide +kernel)
theorem ps_9 : ∀ w ∈ wsL_law0_r9, w ∈ lw_tbl := ps_in [136, 137, 50, 138, 139, 140, 141, 142, 405, 406, 407, 410, 412, 8, 413, 166, 161, 143, 609, 414, 415, 416, 51, 417] (by decide +kernel)
theorem ps_10 : ∀ w ∈ wsL_law0_r10, w ∈ lw_tbl := ps_in [497, 499, 501, 503, 418, 419, 420, 52, 421, 540, 542, 544, 422, 423, 424, 53, 425, 610, 613, 615, 617, 426, 428, 9] (by decide +kernel)
theorem ps_11 : ∀ w ∈ wsL_law0_r11, w ∈ lw_tbl := ps_in [429, 603, 539, 612, 607, 537, 614, 293, 295, 618, 616, 541, 504, 430, 431, 432, 433, 434, 435, 436, 437, 611, 438, 600] (by decide +kernel)
theorem ps_12 : ∀ w ∈ wsL_law0_r12, w ∈ lw_tbl := ps_in [439, 441, 10, 442, 605, 443, 444, 445, 446, 604, 447, 448, 449, 450, 451, 452, 453, 545, 454, 455, 456, 457, 458, 459] (by decide +kernel)
theorem ps_13 : ∀ w ∈ wsL_law0_r13, w ∈ lw_tbl := ps_in [460, 461, 462, 1068, 1069, 1070, 1071, 1072, 1074, 19, 1075, 463, 464, 465, 466, 467, 468, 469, 470, 471, 472, 1076, 1077, 1078] (by decide +kernel)
theorem ps_14 : ∀ w ∈ wsL_law0_r14, w ∈ lw_tbl := ps_in [1079, 474, 475, 476, 477, 478, 479, 480, 486, 166, 490, 481, 482, 483, 484, 491, 492, 493, 494, 495, 496, 1080, 1081, 1082] (by decide +kernel)
theorem ps_15 : ∀ w ∈ wsL_law0_r15, w ∈ lw_tbl := ps_in [1083, 1084, 1085, 997, 518, 519, 520, 521, 522, 523, 524, 161, 531, 525, 527, 11, 528, 532, 533, 534, 535, 536, 538, 1086] (by decide +kernel)
theorem ps_16 : ∀ w ∈ wsL_law0_r16, w ∈ lw_tbl := ps_in [1087, 1088, 1089, 999, 1090, 1092, 20, 1093, 559, 560, 561, 562, 563, 564, 565, 290, 566, 568, 12, 569, 571, 573, 13, 574] (by decide +kernel)
theorem ps_17 : ∀ w ∈ wsL_law0_r17, w ∈ lw_tbl := ps_in [1094, 1095, 1096, 1097, 1098, 1100, 21, 1101, 575, 576, 577, 578, 579, 580, 581, 498, 1102, 1103, 1104, 1105, 582, 583, 584, 585] (by decide +kernel)
theorem ps_18 : ∀ w ∈ wsL_law0_r18, w ∈ lw_tbl := ps_in [586, 587, 588, 589, 143, 594, 595, 596, 597, 598, 599, 602, 608, 606, 638, 640, 14, 641, 642, 643, 644, 645, 887, 646] (by decide +kernel)
theorem ps_19 : ∀ w ∈ wsL_law0_r19, w ∈ lw_tbl := ps_in [648, 15, 649, 1106, 1107, 1108, 1109, 1110, 1002, 888, 889, 890, 891, 892, 893, 894, 895, 897, 17, 898, 1111, 1112, 1113, 1114] (by decide +kernel)
theorem ps_20 : ∀ w ∈ wsL_law0_r20, w ∈ lw_tbl := ps_in [1115, 1117, 22, 1118, 117, 118, 119, 120, 1119, 1120, 1121, 1122, 901, 902, 903, 904, 905, 906, 907, 601, 1123, 1124, 1125, 1126] (by decide +kernel)
theorem ps_21 : ∀ w ∈ wsL_law0_r21, w ∈ lw_tbl := ps_in [909, 910, 911, 912, 913, 914, 915, 1127, 1128, 1129, 1130, 1131, 1133, 23, 1134, 1135, 1136, 1137, 916, 917, 918, 919, 920, 921] (by decide +kernel)
theorem ps_22 : ∀ w ∈ wsL_law0_r22, w ∈ lw_tbl := ps_in [922, 179, 180, 181, 182, 1138, 1139, 1140, 1141, 1142, 1144, 24, 1145, 1146, 1148, 25, 1149, 1150, 1155, 1151, 1153, 26, 1154, 1156] (by decide +kernel)
theorem ps_23 : ∀ w ∈ wsL_law0_r23, w ∈ lw_tbl := ps_in [1158, 27, 1159, 125, 126, 127, 128, 1160, 1161, 1162, 1163, 924, 925, 926, 927, 928, 929, 930, 1164, 1165, 1166, 1167, 1168, 1170] (by decide +kernel)
theorem ps_24 : ∀ w ∈ wsL_law0_r24, w ∈ lw_tbl := ps_in [28, 1171, 931, 932, 933, 934, 935, 936, 937, 1172, 1173, 1174, 1175, 939, 940, 941, 942, 943, 944, 945, 1176, 1177, 1178, 1179] (by decide +kernel)
theorem ps_25 : ∀ w ∈ wsL_law0_r25, w ∈ lw_tbl := ps_in [1180, 1182, 29, 1183, 946, 947, 948, 949, 950, 951, 952, 167, 168, 169, 170, 171, 174, 1184, 1185, 1186, 1187, 1188, 1190, 30] (by decide +kernel)
theorem ps_26 : ∀ w ∈ wsL_law0_r26, w ∈ lw_tbl := ps_in [1191, 1192, 953, 954, 955, 956, 957, 958, 959, 500, 1193, 1194, 1195, 1196, 960, 961, 962, 963, 964, 965, 966, 502, 1197, 1198] (by decide +kernel)
theorem ps_27 : ∀ w ∈ wsL_law0_r27, w ∈ lw_tbl := ps_in [1199, 1200, 967, 968, 969, 970, 971, 972, 973, 543, 1201, 1202, 1203, 1204, 974, 975, 976, 977, 978, 979, 980, 1205, 1206, 1207] (by decide +kernel)
theorem ps_28 : ∀ w ∈ wsL_law0_r28, w ∈ lw_tbl := ps_in [1208, 1209, 1211, 31, 1212, 981, 982, 983, 984, 985, 986, 987, 1213, 1214, 1215, 1216, 144, 145, 146, 147, 1217, 1218, 1219, 1220] (by decide +kernel)
theorem ps_29 : ∀ w ∈ wsL_law0_r29, w ∈ lw_tbl := ps_in [148, 149, 150, 151, 152, 153, 154, 155, 156, 157, 159, 0, 160, 162, 164, 1, 165, 175, 177, 2, 178, 1221, 1222, 1223] (by decide +kernel)
theorem ps_30 : ∀ w ∈ wsL_law0_r30, w ∈ lw_tbl := ps_in [1224, 1225, 1226] (by decide +kernel)
theorem pu_X4 : ∀ w ∈ wsX40, w ∈ lw_tbl := ps_in [102, 104, 106, 108, 110, 112, 114] (by decide +kernel)
theorem pu_X5 : ∀ w ∈ wsX50, w ∈ lw_tbl := ps_in [1013, 1015, 1017, 1019, 1021, 1023, 1025, 1027, 1029, 1031, 1033, 1035, 1037, 1039, 1041, 1043, 1045, 1047, 1049] (by decide +kernel)
theorem pu_Jx4a65c : ∀ w ∈ wsJx4a65c0, w ∈ lw_tbl := ps_in [92, 88, 90] (by decide +kernel)
theorem pu_X3 : ∀ w ∈ wsX30, w ∈ lw_tbl := ps_in [302, 304, 306, 308, 310, 312, 314, 316] (by decide +kernel)
theorem pu_X1 : ∀ w ∈ wsX10, w ∈ lw_tbl := ps_in [619, 621, 623, 625, 627, 629, 631, 633, 635] (by decide +kernel)
theorem pu_X0 : ∀ w ∈ wsX00, w ∈ lw_tbl := ps_in [505, 507, 509, 511, 513, 515] (by decide +kernel)
theorem pu_X2 : ∀ w ∈ wsX20, w ∈ lw_tbl := ps_in [546, 548, 550, 552, 554, 556] (by decide +kernel)
theorem wsL_law_in0 : ∀ w ∈ wsL_law0, w ∈ lw_tbl := by
  unfold wsL_law0
  exact List.forall_mem_append.mpr ⟨List.forall_mem_append.mpr ⟨List.forall_mem_append.mpr ⟨List.forall_mem_append.mpr ⟨List.forall_mem_append.mpr ⟨List.forall_mem_append.mpr ⟨List.forall_mem_append.mpr ⟨List.forall_mem_append.mpr ⟨List.forall_mem_append.mpr ⟨ps_1, List.forall_mem_append.mpr ⟨ps_2, List.forall_mem_append.mpr ⟨ps_3, List.forall_mem_append.mpr ⟨ps_4, List.forall_mem_append.mpr ⟨ps_5, List.forall_mem_append.mpr ⟨ps_6, List.forall_mem_append.mpr ⟨ps_7, List.forall_mem_append.mpr ⟨ps_8, List.forall_mem_append.mpr ⟨ps_9, List.forall_mem_append.mpr ⟨ps_10, List.forall_mem_append.mpr ⟨ps_11, List.forall_mem_append.mpr ⟨ps_12, List.forall_mem_append.mpr ⟨ps_13, List.forall_mem_append.mpr ⟨ps_14, List.forall_mem_append.mpr ⟨ps_15, List.forall_mem_append.mpr ⟨ps_16, List.forall_mem_append.mpr ⟨ps_17, List.forall_mem_append.mpr ⟨ps_18, List.forall_mem_append.mpr ⟨ps_19, List.forall_mem_append.mpr ⟨ps_20, List.forall_mem_append.mpr ⟨ps_21, List.forall_mem_append.mpr ⟨ps_22, List.forall_mem_append.mpr ⟨ps_23, List.forall_mem_append.mpr ⟨ps_24, List.forall_mem_append.mpr ⟨ps_25, List.forall_mem_append.mpr ⟨ps_26, List.forall_mem_append.mpr ⟨ps_27, List.forall_mem_append.mpr ⟨ps_28, List.forall_mem_append.mpr ⟨ps_29, ps_30⟩⟩⟩⟩⟩⟩⟩⟩⟩⟩⟩⟩⟩⟩⟩⟩⟩⟩⟩⟩⟩⟩⟩⟩⟩⟩⟩⟩⟩, pu_X4⟩, pu_X5⟩, pu_Jx4a65c⟩, pu_X3⟩, pu_X1⟩, pu_X0⟩, pu_X2⟩, fun _ h => absurd h List.not_mem_nil⟩
theorem wsL_law_x0 : ∀ w ∈ (vx_atS RX4 43 "java/lang/IllegalArgumentException" ["java/lang/RuntimeException", "java/lang/Exception"]).filter goodWord, w ∈ lw_tbl := by decide +kernel
theorem wsL_law_x1 : ∀ w ∈ (vx_atS RX4 60 "java/lang/IllegalStateException" ["java/lang/RuntimeException", "java/lang/Exception"]).filter goodWord, w ∈ lw_tbl := by decide +kernel
theorem wsL_law_x2 : ∀ w ∈ (vx_atS RX4 170 "java/lang/IndexOutOfBoundsException" ["java/lang/RuntimeException", "java/lang/Exception"]).filter goodWord, w ∈ lw_tbl := by decide +kernel
theorem wsL_law_in : ∀ w ∈ wsL_law, w ∈ lw_tbl := fun w h => (List.mem_append.mp h).elim (fun h => (List.mem_append.mp h).elim (fun h => (List.mem_append.mp h).elim (fun h => wsL_law_in0 w h) (fun h => wsL_law_x0 w h)) (fun h => wsL_law_x1 w h)) (fun h => wsL_law_x2 w h)
theorem inX0 : ∀ w ∈ wsX00, w ∈ lw_tbl := fun w h => wsL_law_in w (inlX0 w h)
theorem inX1 : ∀ w ∈ wsX10, w ∈ lw_tbl := fun w h => wsL_law_in w (inlX1 w h)
theorem inX2 : ∀ w ∈ wsX20, w ∈ lw_tbl := fun w h => wsL_law_in w (inlX2 w h)
theorem inX3 : ∀ w ∈ wsX30, w ∈ lw_tbl := fun w h => wsL_law_in w (inlX3 w h)
theorem inX4 : ∀ w ∈ wsX40, w ∈ lw_tbl := fun w h => wsL_law_in w (inlX4 w h)
theorem inX5 : ∀ w ∈ wsX50, w ∈ lw_tbl := fun w h => wsL_law_in w (inlX5 w h)
theorem inJx4a65c : ∀ w ∈ wsJx4a65c0, w ∈ lw_tbl := fun w h => wsL_law_in w (inlJx4a65c w h)
