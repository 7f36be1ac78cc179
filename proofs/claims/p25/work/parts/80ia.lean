/-! the law: its words in the tables, part a. Packed by wip/gen25/p25names.py -/
theorem mem_pos {big ws : List Cond} (ps : List Nat) (hp : ws = ps.filterMap (fun i => big[i]?)) : ∀ w ∈ ws, w ∈ big := by
  intro w hw
  rw [hp] at hw
  obtain ⟨i, -, hi⟩ := List.mem_filterMap.mp hw
  exact List.mem_of_getElem? hi
set_option maxRecDepth 100000 in
theorem mtb_isRefused : Cond.code yL_isRefused cL_isRefused 10 (some .boolean) ∈ lw_tbl := by
  have h : Cond.code yL_isRefused cL_isRefused 10 (some .boolean) ∈ tables_1 := by
    unfold tables_1
    exact (List.mem_append_right _ (List.mem_append_right _ (List.mem_append_right _ (List.mem_append_right _ (List.mem_of_getElem? (l := tables_1_5) (i := 145) rfl)))))
  unfold lw_tbl
  exact List.mem_append_right _ h
theorem mem_mid {big ws : List Cond} {c : Cond} (k : Nat) (h : ws = ws.take k ++ (c :: ws.drop (k + 1))) (hc : c ∈ big) (h1 : ∀ w ∈ ws.take k, w ∈ big) (h2 : ∀ w ∈ ws.drop (k + 1), w ∈ big) : ∀ w ∈ ws, w ∈ big := by
  intro w hw
  rw [h] at hw
  rcases List.mem_append.mp hw with q | q
  · exact h1 w q
  · rcases List.mem_cons.mp q with q | q
    · rw [q]; exact hc
    · exact h2 w q
set_option maxRecDepth 100000 in
theorem mtb_areSound : Cond.code yL_areSound cL_areSound 18 (some .boolean) ∈ lw_tbl := by
  have h : Cond.code yL_areSound cL_areSound 18 (some .boolean) ∈ tables_1 := by
    unfold tables_1
    exact (List.mem_append_right _ (List.mem_append_right _ (List.mem_append_right _ (List.mem_append_right _ (List.mem_of_getElem? (l := tables_1_5) (i := 148) rfl)))))
  unfold lw_tbl
  exact List.mem_append_right _ h
set_option maxRecDepth 100000 in
theorem inL_r1 : ∀ w ∈ wsL_law0_r1, w ∈ lw_tbl := mem_pos [62, 63, 33, 124, 1150, 1151, 64, 65, 66, 67, 68, 69, 70, 71, 36, 303, 96, 97, 37, 304, 305, 176, 177, 39] (by decide +kernel)
set_option maxRecDepth 100000 in
theorem inL_r2 : ∀ w ∈ wsL_law0_r2, w ∈ lw_tbl := mem_pos [178, 179, 40, 306, 307, 308, 309, 310, 72, 73, 74, 82, 84, 75, 76, 35, 77, 86, 78, 79, 34, 80, 81, 98] (by decide +kernel)
set_option maxRecDepth 100000 in
theorem inL_r3 : ∀ w ∈ wsL_law0_r3, w ∈ lw_tbl := mem_pos [99, 100, 101, 102, 133, 134, 135, 104, 136, 137, 138, 106, 139, 108, 38, 140, 141, 142, 144, 145, 147, 103, 110, 111] (by decide +kernel)
set_option maxRecDepth 100000 in
theorem inL_r4 : ∀ w ∈ wsL_law0_r4, w ∈ lw_tbl := mem_pos [112, 113, 114, 115, 125, 127, 0, 128, 129, 130, 131, 132, 87, 88, 85, 180, 181, 182, 183, 184, 187, 189, 190, 200] (by decide +kernel)
set_option maxRecDepth 100000 in
theorem inL_r5 : ∀ w ∈ wsL_law0_r5, w ∈ lw_tbl := mem_pos [201, 202, 203, 238, 241, 243, 246, 249, 252, 255, 204, 205, 41, 261, 264, 221, 222, 42, 267, 270, 273, 258, 207, 208] (by decide +kernel)
set_option maxRecDepth 100000 in
theorem inL_r6 : ∀ w ∈ wsL_law0_r6, w ∈ lw_tbl := mem_mid 12 rfl mtb_isRefused (mem_pos [209, 210, 212, 224, 225, 226, 227, 228, 230, 1135, 1136, 32] (by decide +kernel)) (mem_pos [1129, 1130, 1131, 1132, 1133, 1134, 375, 376, 377, 378, 379] (by decide +kernel))
set_option maxRecDepth 100000 in
theorem inL_r7 : ∀ w ∈ wsL_law0_r7, w ∈ lw_tbl := mem_pos [380, 381, 382, 383, 396, 384, 385, 386, 387, 388, 389, 390, 391, 392, 393, 394, 395, 397, 398, 399, 400, 401, 402, 403] (by decide +kernel)
set_option maxRecDepth 100000 in
theorem inL_r8 : ∀ w ∈ wsL_law0_r8, w ∈ lw_tbl := mem_pos [404, 405, 406, 407, 408, 409, 410, 411, 412, 328, 329, 330, 331, 332, 333, 334, 335, 354, 336, 337, 338, 339, 340, 341] (by decide +kernel)
set_option maxRecDepth 100000 in
theorem inL_r9 : ∀ w ∈ wsL_law0_r9, w ∈ lw_tbl := mem_pos [342, 343, 344, 345, 43, 346, 347, 348, 44, 349, 350, 351, 352, 353, 355, 357, 1, 358, 239, 359, 360, 361, 362, 363] (by decide +kernel)
set_option maxRecDepth 100000 in
theorem inL_r10 : ∀ w ∈ wsL_law0_r10, w ∈ lw_tbl := mem_pos [364, 365, 366, 367, 368, 369, 370, 371, 372, 373, 374, 1087, 1088, 1089, 1090, 1008, 1010, 30, 1011, 539, 48, 176, 566, 1013] (by decide +kernel)
set_option maxRecDepth 100000 in
theorem inL_r11 : ∀ w ∈ wsL_law0_r11, w ∈ lw_tbl := mem_pos [1091, 1092, 1093, 1094, 1095, 1086, 1043, 1044, 1045, 1046, 535, 537, 4, 538, 1047, 1048, 1049, 1050, 1051, 1052, 1053, 974, 975, 976] (by decide +kernel)
set_option maxRecDepth 100000 in
theorem inL_r12 : ∀ w ∈ wsL_law0_r12, w ∈ lw_tbl := mem_pos [1054, 1055, 1056, 1057, 1058, 418, 419, 420, 421, 422, 423, 424, 425, 426, 427, 428, 49, 496, 50, 512, 513, 514, 515, 517] (by decide +kernel)
set_option maxRecDepth 100000 in
theorem inL_r13 : ∀ w ∈ wsL_law0_r13, w ∈ lw_tbl := mem_pos [518, 519, 520, 265, 262, 215, 522, 523, 524, 525, 527, 528, 529, 530, 253, 256, 531, 533, 3, 534, 555, 556, 557, 561] (by decide +kernel)
set_option maxRecDepth 100000 in
theorem inL_r14 : ∀ w ∈ wsL_law0_r14, w ∈ lw_tbl := mem_pos [563, 5, 564, 570, 571, 572, 573, 575, 6, 576, 240, 242, 245, 248, 251, 259, 577, 578, 579, 580, 581, 583, 7, 584] (by decide +kernel)
set_option maxRecDepth 100000 in
theorem inL_r15 : ∀ w ∈ wsL_law0_r15, w ∈ lw_tbl := mem_pos [585, 587, 8, 588, 589, 591, 9, 592, 635, 597, 52, 598, 636, 593, 594, 51, 595, 596, 599, 600, 601, 602, 603, 604] (by decide +kernel)
set_option maxRecDepth 100000 in
theorem inL_r16 : ∀ w ∈ wsL_law0_r16, w ∈ lw_tbl := mem_pos [53, 605, 606, 1176, 607, 622, 623, 624, 625, 626, 628, 629, 630, 631, 632, 634, 633, 54, 637, 638, 639, 640, 641, 643] (by decide +kernel)
set_option maxRecDepth 100000 in
theorem inL_r17 : ∀ w ∈ wsL_law0_r17, w ∈ lw_tbl := mem_pos [10, 644, 244, 260, 185, 188, 268, 229, 645, 646, 647, 648, 649, 650, 651, 652, 653, 655, 11, 656, 271, 274, 657, 658] (by decide +kernel)
set_option maxRecDepth 100000 in
theorem inL_r18 : ∀ w ∈ wsL_law0_r18, w ∈ lw_tbl := mem_pos [659, 660, 661, 662, 663, 664, 665, 666, 667, 668, 669, 670, 672, 12, 673, 674, 675, 676, 677, 919, 678, 680, 13, 681] (by decide +kernel)
set_option maxRecDepth 100000 in
theorem inL_r19 : ∀ w ∈ wsL_law0_r19, w ∈ lw_tbl := mem_pos [920, 922, 15, 923, 247, 250, 924, 926, 16, 927, 254, 257, 928, 930, 17, 931, 932, 934, 18, 935, 263, 936, 938, 19] (by decide +kernel)
set_option maxRecDepth 100000 in
theorem inL_r20 : ∀ w ∈ wsL_law0_r20, w ∈ lw_tbl := mem_pos [939, 266, 940, 941, 942, 943, 944, 946, 20, 947, 214, 948, 211, 949, 950, 951, 952, 953, 955, 21, 956, 957, 959, 22] (by decide +kernel)
set_option maxRecDepth 100000 in
theorem inL_r21 : ∀ w ∈ wsL_law0_r21, w ∈ lw_tbl := mem_pos [960, 961, 962, 963, 964, 965, 966, 967, 968, 969, 971, 23, 972, 973, 977, 979, 24, 980, 981, 983, 25, 984, 985, 987] (by decide +kernel)
set_option maxRecDepth 100000 in
theorem inL_r22 : ∀ w ∈ wsL_law0_r22, w ∈ lw_tbl := mem_pos [26, 988, 989, 991, 27, 992, 993, 995, 28, 996, 997, 999, 29, 1000, 1001, 1002, 1003, 1004, 1005, 1006, 1007, 1015, 1016, 1017] (by decide +kernel)
set_option maxRecDepth 100000 in
theorem inL_r23 : ∀ w ∈ wsL_law0_r23, w ∈ lw_tbl := mem_pos [1018, 213, 1020, 1021, 1022, 1023, 1024, 1025, 1026, 1030, 1031, 1032, 1033, 1034, 1035, 1036, 1037, 1039, 1040, 1041, 1042, 1059, 1060, 1061] (by decide +kernel)
set_option maxRecDepth 100000 in
theorem inL_r24 : ∀ w ∈ wsL_law0_r24, w ∈ lw_tbl := mem_pos [1062, 1063, 1065, 31, 1066, 1067, 1068, 1069, 1070, 1071, 1072, 1073, 1074, 1075, 1076, 1077, 1078, 1079, 1080, 1081, 1082, 1083, 1084, 1085] (by decide +kernel)
set_option maxRecDepth 100000 in
theorem inL_r25 : ∀ w ∈ wsL_law0_r25, w ∈ lw_tbl := mem_pos [1096, 1097, 1098, 1099, 1100, 1101, 1102, 1103, 1104, 1105, 1108, 1109, 1110, 1111, 186, 269, 1112, 1114, 1115, 1116, 1117, 1118, 1119, 1120] (by decide +kernel)
set_option maxRecDepth 100000 in
theorem inL_r26 : ∀ w ∈ wsL_law0_r26, w ∈ lw_tbl := mem_mid 17 rfl mtb_areSound (mem_pos [1121, 272, 1123, 1124, 1125, 1126, 275, 413, 414, 415, 416, 417, 1147, 1148, 1149, 1138, 1139] (by decide +kernel)) (mem_pos [1141, 1142, 1143, 1144, 1145, 1146] (by decide +kernel))
set_option maxRecDepth 100000 in
theorem inL_X6 : ∀ w ∈ wsX60, w ∈ lw_tbl := mem_pos [311, 313, 315, 317, 319, 321, 323, 325] (by decide +kernel)
set_option maxRecDepth 100000 in
theorem inL_Jx4a65c : ∀ w ∈ wsJx4a65c0, w ∈ lw_tbl := mem_pos [93, 89, 91] (by decide +kernel)
set_option maxRecDepth 100000 in
theorem inL_X5 : ∀ w ∈ wsX50, w ∈ lw_tbl := mem_pos [149, 151, 153, 155, 157, 159, 161, 163, 165, 167, 169, 171, 173] (by decide +kernel)
set_option maxRecDepth 100000 in
theorem inL_X0 : ∀ w ∈ wsX00, w ∈ lw_tbl := mem_pos [276, 278, 280, 282, 284, 286, 288, 290, 292, 294, 296, 298, 300] (by decide +kernel)
set_option maxRecDepth 100000 in
theorem inL_X3 : ∀ w ∈ wsX30, w ∈ lw_tbl := mem_pos [191, 193, 195, 197] (by decide +kernel)
set_option maxRecDepth 100000 in
theorem inL_X4 : ∀ w ∈ wsX40, w ∈ lw_tbl := mem_pos [117, 119, 121] (by decide +kernel)
set_option maxRecDepth 100000 in
theorem inL_X2 : ∀ w ∈ wsX20, w ∈ lw_tbl := mem_pos [216, 218] (by decide +kernel)
set_option maxRecDepth 100000 in
theorem inL_X1 : ∀ w ∈ wsX10, w ∈ lw_tbl := mem_pos [231, 233, 235] (by decide +kernel)
theorem wsL_law_in0 : ∀ w ∈ wsL_law0, w ∈ lw_tbl := fun w h => (fun h => (List.mem_append.mp h).elim (fun h => (List.mem_append.mp h).elim (fun h => (List.mem_append.mp h).elim (fun h => (List.mem_append.mp h).elim (fun h => (List.mem_append.mp h).elim (fun h => (List.mem_append.mp h).elim (fun h => (List.mem_append.mp h).elim (fun h => (List.mem_append.mp h).elim (fun h => (List.mem_append.mp h).elim (fun h => (List.mem_append.mp h).elim (fun h => inL_r1 w h) (fun h => (List.mem_append.mp h).elim (fun h => inL_r2 w h) (fun h => (List.mem_append.mp h).elim (fun h => inL_r3 w h) (fun h => (List.mem_append.mp h).elim (fun h => inL_r4 w h) (fun h => (List.mem_append.mp h).elim (fun h => inL_r5 w h) (fun h => (List.mem_append.mp h).elim (fun h => inL_r6 w h) (fun h => (List.mem_append.mp h).elim (fun h => inL_r7 w h) (fun h => (List.mem_append.mp h).elim (fun h => inL_r8 w h) (fun h => (List.mem_append.mp h).elim (fun h => inL_r9 w h) (fun h => (List.mem_append.mp h).elim (fun h => inL_r10 w h) (fun h => (List.mem_append.mp h).elim (fun h => inL_r11 w h) (fun h => (List.mem_append.mp h).elim (fun h => inL_r12 w h) (fun h => (List.mem_append.mp h).elim (fun h => inL_r13 w h) (fun h => (List.mem_append.mp h).elim (fun h => inL_r14 w h) (fun h => (List.mem_append.mp h).elim (fun h => inL_r15 w h) (fun h => (List.mem_append.mp h).elim (fun h => inL_r16 w h) (fun h => (List.mem_append.mp h).elim (fun h => inL_r17 w h) (fun h => (List.mem_append.mp h).elim (fun h => inL_r18 w h) (fun h => (List.mem_append.mp h).elim (fun h => inL_r19 w h) (fun h => (List.mem_append.mp h).elim (fun h => inL_r20 w h) (fun h => (List.mem_append.mp h).elim (fun h => inL_r21 w h) (fun h => (List.mem_append.mp h).elim (fun h => inL_r22 w h) (fun h => (List.mem_append.mp h).elim (fun h => inL_r23 w h) (fun h => (List.mem_append.mp h).elim (fun h => inL_r24 w h) (fun h => (List.mem_append.mp h).elim (fun h => inL_r25 w h) (fun h => inL_r26 w h)))))))))))))))))))))))))) (fun h => inL_X6 w h)) (fun h => inL_Jx4a65c w h)) (fun h => inL_X5 w h)) (fun h => inL_X0 w h)) (fun h => inL_X3 w h)) (fun h => inL_X4 w h)) (fun h => inL_X2 w h)) (fun h => inL_X1 w h)) (fun h => absurd h List.not_mem_nil)) h

theorem wsL_law_x0 : ∀ w ∈ (vx_atS RX6 193 "java/lang/IndexOutOfBoundsException" ["java/lang/RuntimeException", "java/lang/Exception"]).filter goodWord, w ∈ lw_tbl := by decide +kernel
theorem wsL_law_x1 : ∀ w ∈ (vx_atS RX6 57 "java/lang/IllegalArgumentException" ["java/lang/RuntimeException", "java/lang/Exception"]).filter goodWord, w ∈ lw_tbl := by decide +kernel
theorem wsL_law_x2 : ∀ w ∈ (vx_atS RX6 64 "java/lang/IllegalStateException" ["java/lang/RuntimeException", "java/lang/Exception"]).filter goodWord, w ∈ lw_tbl := by decide +kernel
theorem wsL_law_in : ∀ w ∈ wsL_law, w ∈ lw_tbl := fun w h => (List.mem_append.mp h).elim (fun h => (List.mem_append.mp h).elim (fun h => (List.mem_append.mp h).elim (fun h => wsL_law_in0 w h) (fun h => wsL_law_x0 w h)) (fun h => wsL_law_x1 w h)) (fun h => wsL_law_x2 w h)
theorem inlX0 : ∀ w ∈ wsX00, w ∈ wsL_law := fun _ h => List.mem_append_left _ (List.mem_append_left _ (List.mem_append_left _ (List.mem_append_left _ (List.mem_append_left _ (List.mem_append_left _ (List.mem_append_left _ (List.mem_append_left _ (List.mem_append_right _ h))))))))
theorem inX0 : ∀ w ∈ wsX00, w ∈ lw_tbl := fun w h => wsL_law_in w (inlX0 w h)
theorem inlX1 : ∀ w ∈ wsX10, w ∈ wsL_law := fun _ h => List.mem_append_left _ (List.mem_append_left _ (List.mem_append_left _ (List.mem_append_left _ (List.mem_append_right _ h))))
theorem inX1 : ∀ w ∈ wsX10, w ∈ lw_tbl := fun w h => wsL_law_in w (inlX1 w h)
theorem inlX2 : ∀ w ∈ wsX20, w ∈ wsL_law := fun _ h => List.mem_append_left _ (List.mem_append_left _ (List.mem_append_left _ (List.mem_append_left _ (List.mem_append_left _ (List.mem_append_right _ h)))))
theorem inX2 : ∀ w ∈ wsX20, w ∈ lw_tbl := fun w h => wsL_law_in w (inlX2 w h)
theorem inlX3 : ∀ w ∈ wsX30, w ∈ wsL_law := fun _ h => List.mem_append_left _ (List.mem_append_left _ (List.mem_append_left _ (List.mem_append_left _ (List.mem_append_left _ (List.mem_append_left _ (List.mem_append_left _ (List.mem_append_right _ h)))))))
theorem inX3 : ∀ w ∈ wsX30, w ∈ lw_tbl := fun w h => wsL_law_in w (inlX3 w h)
theorem inlX4 : ∀ w ∈ wsX40, w ∈ wsL_law := fun _ h => List.mem_append_left _ (List.mem_append_left _ (List.mem_append_left _ (List.mem_append_left _ (List.mem_append_left _ (List.mem_append_left _ (List.mem_append_right _ h))))))
theorem inX4 : ∀ w ∈ wsX40, w ∈ lw_tbl := fun w h => wsL_law_in w (inlX4 w h)
theorem inlX5 : ∀ w ∈ wsX50, w ∈ wsL_law := fun _ h => List.mem_append_left _ (List.mem_append_left _ (List.mem_append_left _ (List.mem_append_left _ (List.mem_append_left _ (List.mem_append_left _ (List.mem_append_left _ (List.mem_append_left _ (List.mem_append_left _ (List.mem_append_right _ h)))))))))
theorem inX5 : ∀ w ∈ wsX50, w ∈ lw_tbl := fun w h => wsL_law_in w (inlX5 w h)
theorem inlX6 : ∀ w ∈ wsX60, w ∈ wsL_law := fun _ h => List.mem_append_left _ (List.mem_append_left _ (List.mem_append_left _ (List.mem_append_left _ (List.mem_append_left _ (List.mem_append_left _ (List.mem_append_left _ (List.mem_append_left _ (List.mem_append_left _ (List.mem_append_left _ (List.mem_append_left _ (List.mem_append_right _ h)))))))))))
theorem inX6 : ∀ w ∈ wsX60, w ∈ lw_tbl := fun w h => wsL_law_in w (inlX6 w h)
theorem inX7 : ∀ w ∈ wsX70, w ∈ lw_tbl := by decide +kernel
theorem inlJx4a65c : ∀ w ∈ wsJx4a65c0, w ∈ wsL_law := fun _ h => List.mem_append_left _ (List.mem_append_left _ (List.mem_append_left _ (List.mem_append_left _ (List.mem_append_left _ (List.mem_append_left _ (List.mem_append_left _ (List.mem_append_left _ (List.mem_append_left _ (List.mem_append_left _ (List.mem_append_right _ h))))))))))
theorem inJx4a65c : ∀ w ∈ wsJx4a65c0, w ∈ lw_tbl := fun w h => wsL_law_in w (inlJx4a65c w h)
