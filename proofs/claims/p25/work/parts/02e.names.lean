theorem dX6_enact_26 : decode cX6_enact 26 = .ok (.dup, 1) := by decide +kernel
theorem dX6_enact_27 : decode cX6_enact 27 = .ok (.ldc 113, 2) := by decide +kernel
theorem dX6_enact_29 : decode cX6_enact 29 = .ok (.invokespecial 64, 3) := by decide +kernel
theorem dX6_enact_32 : decode cX6_enact 32 = .ok (.athrow, 1) := by decide +kernel
theorem dX6_enact_33 : decode cX6_enact 33 = .ok (.aload_n 0, 1) := by decide +kernel
theorem dX6_enact_34 : decode cX6_enact 34 = .ok (.getfield 36, 3) := by decide +kernel
theorem dX6_enact_37 : decode cX6_enact 37 = .ok (.getfield 89, 3) := by decide +kernel
theorem dX6_enact_40 : decode cX6_enact 40 = .ok (.getfield 100, 3) := by decide +kernel
theorem dX6_enact_43 : decode cX6_enact 43 = .ok (.ifCond .le 13, 3) := by decide +kernel
theorem dX6_enact_46 : decode cX6_enact 46 = .ok (.new 60, 3) := by decide +kernel
theorem dX6_enact_49 : decode cX6_enact 49 = .ok (.dup, 1) := by decide +kernel
theorem dX6_enact_50 : decode cX6_enact 50 = .ok (.ldc 115, 2) := by decide +kernel
theorem dX6_enact_52 : decode cX6_enact 52 = .ok (.invokespecial 64, 3) := by decide +kernel
theorem dX6_enact_55 : decode cX6_enact 55 = .ok (.athrow, 1) := by decide +kernel
theorem dX6_enact_56 : decode cX6_enact 56 = .ok (.aload_n 0, 1) := by decide +kernel
theorem dX6_enact_57 : decode cX6_enact 57 = .ok (.getfield 36, 3) := by decide +kernel
theorem dX6_enact_60 : decode cX6_enact 60 = .ok (.iload_n 1, 1) := by decide +kernel
theorem dX6_enact_61 : decode cX6_enact 61 = .ok (.putfield 117, 3) := by decide +kernel
theorem dX6_enact_64 : decode cX6_enact 64 = .ok (.aload_n 0, 1) := by decide +kernel
theorem dX6_enact_65 : decode cX6_enact 65 = .ok (.getfield 36, 3) := by decide +kernel
theorem dX6_enact_68 : decode cX6_enact 68 = .ok (.iload_n 2, 1) := by decide +kernel
theorem dX6_enact_69 : decode cX6_enact 69 = .ok (.iload_n 3, 1) := by decide +kernel
theorem dX6_enact_70 : decode cX6_enact 70 = .ok (.invokestatic 120, 3) := by decide +kernel
theorem dX6_enact_73 : decode cX6_enact 73 = .ok (.putfield 124, 3) := by decide +kernel
theorem dX6_enact_76 : decode cX6_enact 76 = .ok (.aload_n 0, 1) := by decide +kernel
theorem dX6_enact_77 : decode cX6_enact 77 = .ok (.iconst 0, 1) := by decide +kernel
theorem dX6_enact_78 : decode cX6_enact 78 = .ok (.aload_n 0, 1) := by decide +kernel
theorem dX6_enact_79 : decode cX6_enact 79 = .ok (.getfield 50, 3) := by decide +kernel
theorem dX6_enact_82 : decode cX6_enact 82 = .ok (.invokevirtual 127, 3) := by decide +kernel
theorem dX6_enact_85 : decode cX6_enact 85 = .ok (.aload_n 0, 1) := by decide +kernel
theorem dX6_enact_86 : decode cX6_enact 86 = .ok (.dup, 1) := by decide +kernel
theorem dX6_enact_87 : decode cX6_enact 87 = .ok (.getfield 50, 3) := by decide +kernel
theorem dX6_enact_90 : decode cX6_enact 90 = .ok (.iconst 1, 1) := by decide +kernel
theorem dX6_enact_91 : decode cX6_enact 91 = .ok (.iadd, 1) := by decide +kernel
theorem dX6_enact_92 : decode cX6_enact 92 = .ok (.putfield 50, 3) := by decide +kernel
theorem dX6_enact_95 : decode cX6_enact 95 = .ok (.aload_n 0, 1) := by decide +kernel
theorem dX6_enact_96 : decode cX6_enact 96 = .ok (.getfield 19, 3) := by decide +kernel
theorem dX6_enact_99 : decode cX6_enact 99 = .ok (.aload_n 0, 1) := by decide +kernel
theorem dX6_enact_100 : decode cX6_enact 100 = .ok (.getfield 10, 3) := by decide +kernel
theorem dX6_enact_103 : decode cX6_enact 103 = .ok (.invokevirtual 130, 3) := by decide +kernel
theorem dX6_enact_106 : decode cX6_enact 106 = .ok (.aload_n 0, 1) := by decide +kernel
theorem dX6_enact_107 : decode cX6_enact 107 = .ok (.getfield 50, 3) := by decide +kernel
theorem dX6_enact_110 : decode cX6_enact 110 = .ok (.iconst 1, 1) := by decide +kernel
theorem dX6_enact_111 : decode cX6_enact 111 = .ok (.isub, 1) := by decide +kernel
theorem dX6_enact_112 : decode cX6_enact 112 = .ok (.ireturn, 1) := by decide +kernel
set_option maxRecDepth 20000 in
theorem ggX6_instruct_X6_needInstruction : GoodIn wsX6_instruct wsX6_needInstruction := goodIn_ca (goodIn_r _ [14, 15, 16, 9, 17, 18, 19, 20, 21, 22, 23, 24, 25, 26, 27, 28, 29, 30, 31, 32, 33, 34, 35, 36, 37, 38, 39, 40, 361, 362, 363, 364, 365, 366, 367, 368, 382, 383, 384] (by decide +kernel) (by decide +kernel)) (goodIn_sub (fun _ h => List.mem_cons_of_mem _ (List.mem_append_right _ h)) (by decide +kernel))
set_option maxRecDepth 20000 in
theorem gX6_instruct_X6_needInstruction : GoodIn wsX6_instruct (wsV RX6 67 RX6 yX6_needInstruction wsX6_needInstruction) := goodIn_app (goodIn_of _ (by decide +kernel)) ggX6_instruct_X6_needInstruction
set_option maxRecDepth 20000 in
theorem ggX6_instruct_X6_needProvision : GoodIn wsX6_instruct wsX6_needProvision := goodIn_ca (goodIn_r _ [44, 15, 16, 45, 361, 362, 363, 364, 365, 366, 367, 368] (by decide +kernel) (by decide +kernel)) (goodIn_sub (fun _ h => List.mem_cons_of_mem _ (List.mem_append_right _ h)) (by decide +kernel))
set_option maxRecDepth 20000 in
theorem gX6_instruct_X6_needProvision : GoodIn wsX6_instruct (wsV RX6 134 RX6 yX6_needProvision wsX6_needProvision) := goodIn_app (goodIn_of _ (by decide +kernel)) ggX6_instruct_X6_needProvision
set_option maxRecDepth 20000 in
theorem ggX6_instruct_X6_needProvisionOrTop : GoodIn wsX6_instruct wsX6_needProvisionOrTop := goodIn_ca (goodIn_r _ [49, 41, 42, 43, 13, 44, 15, 16, 45, 361, 362, 363, 364, 365, 366, 367, 368] (by decide +kernel) (by decide +kernel)) (goodIn_sub (fun _ h => List.mem_cons_of_mem _ (List.mem_append_right _ h)) (by decide +kernel))
set_option maxRecDepth 20000 in
theorem gX6_instruct_X6_needProvisionOrTop : GoodIn wsX6_instruct (wsV RX6 103 RX6 yX6_needProvisionOrTop wsX6_needProvisionOrTop) := goodIn_app (goodIn_of _ (by decide +kernel)) ggX6_instruct_X6_needProvisionOrTop
set_option maxRecDepth 20000 in
theorem ggX6_instruct_X6_needLabel : GoodIn wsX6_instruct wsX6_needLabel := goodIn_ca (goodIn_r _ [52, 1, 2] (by decide +kernel) (by decide +kernel)) (goodIn_sub (fun _ h => List.mem_cons_of_mem _ (List.mem_append_left _ (List.mem_append_left _ (List.mem_append_right _ h)))) (by decide +kernel))
set_option maxRecDepth 20000 in
theorem gX6_instruct_X6_needLabel : GoodIn wsX6_instruct (va_wsS RX6 106 yX6_needLabel wsX6_needLabel) := goodIn_app (goodIn_of _ (by decide +kernel)) ggX6_instruct_X6_needLabel
set_option maxRecDepth 20000 in
theorem ggX6_instruct_X6_needRoomInAct : GoodIn wsX6_instruct wsX6_needRoomInAct := goodIn_ca (goodIn_r _ [56, 3, 4, 57, 58, 9, 18, 19, 20, 21, 22, 23, 361, 362, 363, 364, 365, 366, 367, 368, 382, 383, 384] (by decide +kernel) (by decide +kernel)) (goodIn_sub (fun _ h => List.mem_cons_of_mem _ (List.mem_append_left _ (List.mem_append_right _ h))) (by decide +kernel))
set_option maxRecDepth 20000 in
theorem gX6_instruct_X6_needRoomInAct : GoodIn wsX6_instruct (wsV RX6 110 RX6 yX6_needRoomInAct wsX6_needRoomInAct) := goodIn_app (goodIn_of _ (by decide +kernel)) ggX6_instruct_X6_needRoomInAct
set_option maxRecDepth 20000 in
theorem ggX6_instruct_X0_hasWordsFor : GoodIn wsX6_instruct wsX0_hasWordsFor := goodIn_r _ [63, 64, 65, 66, 369, 370, 371, 372, 373, 374, 375, 376, 377, 378, 379, 380, 381, 385, 386] (by decide +kernel) (by decide +kernel)
set_option maxRecDepth 20000 in
theorem gX6_instruct_X0_hasWordsFor : GoodIn wsX6_instruct (wsV RX6 139 RX0 yX0_hasWordsFor wsX0_hasWordsFor) := goodIn_app (goodIn_of _ (by decide +kernel)) ggX6_instruct_X0_hasWordsFor
set_option maxRecDepth 20000 in
theorem ggX6_instruct_X6_joinLabel : GoodIn wsX6_instruct wsX6_joinLabel := goodIn_r _ [69] (by decide +kernel) (by decide +kernel)
set_option maxRecDepth 20000 in
theorem gX6_instruct_X6_joinLabel : GoodIn wsX6_instruct (va_wsS RX6 120 yX6_joinLabel wsX6_joinLabel) := goodIn_app (goodIn_of _ (by decide +kernel)) ggX6_instruct_X6_joinLabel
set_option maxRecDepth 20000 in
theorem ggX6_instruct_X6_add : GoodIn wsX6_instruct wsX6_add := goodIn_r _ [73, 5, 9, 74, 75, 76, 58, 77, 78, 79, 80, 81, 62, 82, 18, 19, 20, 21, 22, 23, 83, 84, 85, 86, 87, 88, 40, 89, 90, 91, 92, 93, 94, 95, 96, 97, 98, 99, 100, 101, 102, 103, 104, 105, 106, 107, 108, 109, 110, 111, 112, 113, 114, 115, 116, 117, 118, 119, 120, 121, 122, 123, 124, 125, 126, 127, 128, 129, 130, 131, 132, 133, 134, 135, 136, 137, 138, 139, 140, 141, 142, 143, 144, 145, 146, 147, 148, 149, 150, 151, 66, 64, 152, 153, 154, 155, 156, 157, 158, 159, 160, 161, 162, 163, 164, 165, 166, 167, 168, 169, 170, 361, 362, 363, 364, 365, 366, 367, 368, 369, 370, 371, 372, 373, 374, 375, 376, 377, 378, 379, 380, 381, 382, 383, 384, 385, 386, 387, 388, 389] (by decide +kernel) (by decide +kernel)
set_option maxRecDepth 20000 in
theorem gX6_instruct_X6_add : GoodIn wsX6_instruct (wsV RX6 127 RX6 yX6_add wsX6_add) := goodIn_app (goodIn_of _ (by decide +kernel)) ggX6_instruct_X6_add
set_option maxRecDepth 20000 in
theorem ggX6_instruct_X5_build : GoodIn wsX6_instruct wsX5_build := goodIn_r _ [175, 176, 177, 178, 179, 180, 181, 182, 183, 174, 184, 185, 186, 187, 188, 189, 190, 191, 21, 192, 87, 88, 40, 23, 193, 19, 20, 22, 194, 25, 26, 27, 28, 29, 30, 31, 32, 33, 34, 35, 36, 37, 38, 39, 195, 196, 197, 198, 199, 200, 201, 202, 203, 204, 205, 206, 207, 208, 154, 209, 168, 210, 211, 212, 213, 214, 215, 216, 217, 218, 219, 220, 221, 222, 223, 224, 225, 226, 227, 228, 229, 230, 231, 232, 233, 234, 235, 236, 237, 238, 239, 240, 169, 170, 241, 242, 243, 244, 245, 246, 247, 248, 249, 250, 133, 134, 135, 251, 252, 253, 254, 93, 94, 95, 96, 97, 98, 99, 100, 101, 102, 103, 104, 105, 106, 107, 108, 109, 110, 111, 112, 113, 114, 115, 116, 117, 118, 119, 120, 121, 122, 123, 124, 125, 126, 127, 128, 129, 130, 131, 132, 255, 256, 257, 258, 259, 260, 261, 262, 263, 264, 265, 266, 267, 268, 269, 270, 271, 272, 273, 274, 275, 276, 277, 278, 279, 280, 281, 282, 283, 284, 285, 286, 287, 288, 289, 290, 291, 292, 293, 294, 295, 296, 297, 298, 299, 300, 301, 302, 303, 304, 305, 306, 307, 308, 309, 310, 311, 312, 313, 314, 315, 316, 317, 318, 319, 320, 321, 322, 323, 324, 325, 326, 327, 328, 329, 330, 331, 332, 333, 334, 335, 336, 337, 338, 339, 340, 341, 342, 343, 344, 345, 346, 347, 348, 349, 350, 351, 352, 353, 354, 355, 356, 357, 358, 359, 360, 390, 391, 392, 393, 394, 395, 396, 397, 398, 399, 400, 401, 402, 369, 370, 371, 372, 373, 374, 375, 376, 377, 378, 379, 380, 381, 382, 383, 384, 403, 404, 405, 406, 387, 388, 389, 407, 408, 409, 385, 386] (by decide +kernel) (by decide +kernel)
set_option maxRecDepth 20000 in
theorem gX6_instruct_X5_build : GoodIn wsX6_instruct (wsV RX6 130 RX5 yX5_build wsX5_build) := goodIn_app (goodIn_of _ (by decide +kernel)) ggX6_instruct_X5_build
set_option maxRecDepth 20000 in
theorem ggX6_instruct_Jx4a65c_size_8abf5 : GoodIn wsX6_instruct wsJx4a65c_size_8abf5 := goodIn_r _ [22, 23, 382, 383, 384] (by decide +kernel) (by decide +kernel)
set_option maxRecDepth 20000 in
theorem gX6_instruct_Jx4a65c_size_8abf5 : GoodIn wsX6_instruct (wsV RX6 144 RJx4a65c yJx4a65c_size_8abf5 wsJx4a65c_size_8abf5) := goodIn_app (goodIn_of _ (by decide +kernel)) ggX6_instruct_Jx4a65c_size_8abf5
theorem dX6_instruct_0 : decode cX6_instruct 0 = .ok (.iload_n 1, 1) := by decide +kernel
theorem dX6_instruct_1 : decode cX6_instruct 1 = .ok (.bipush 7, 2) := by decide +kernel
theorem dX6_instruct_3 : decode cX6_instruct 3 = .ok (.if_icmp .ne 12, 3) := by decide +kernel
theorem dX6_instruct_6 : decode cX6_instruct 6 = .ok (.aload_n 0, 1) := by decide +kernel
theorem dX6_instruct_7 : decode cX6_instruct 7 = .ok (.iload_n 2, 1) := by decide +kernel
theorem dX6_instruct_8 : decode cX6_instruct 8 = .ok (.invokevirtual 67, 3) := by decide +kernel
theorem dX6_instruct_11 : decode cX6_instruct 11 = .ok (.pop, 1) := by decide +kernel
theorem dX6_instruct_12 : decode cX6_instruct 12 = .ok (.goto 8, 3) := by decide +kernel
theorem dX6_instruct_15 : decode cX6_instruct 15 = .ok (.aload_n 0, 1) := by decide +kernel
theorem dX6_instruct_16 : decode cX6_instruct 16 = .ok (.iload_n 2, 1) := by decide +kernel
theorem dX6_instruct_17 : decode cX6_instruct 17 = .ok (.invokevirtual 134, 3) := by decide +kernel
theorem dX6_instruct_20 : decode cX6_instruct 20 = .ok (.iload_n 1, 1) := by decide +kernel
theorem dX6_instruct_21 : decode cX6_instruct 21 = .ok (.iconst 5, 1) := by decide +kernel
theorem dX6_instruct_22 : decode cX6_instruct 22 = .ok (.if_icmp .ne 8, 3) := by decide +kernel
theorem dX6_instruct_25 : decode cX6_instruct 25 = .ok (.aload_n 0, 1) := by decide +kernel
theorem dX6_instruct_26 : decode cX6_instruct 26 = .ok (.iload_n 3, 1) := by decide +kernel
theorem dX6_instruct_27 : decode cX6_instruct 27 = .ok (.invokevirtual 103, 3) := by decide +kernel
theorem dX6_instruct_30 : decode cX6_instruct 30 = .ok (.iload_n 1, 1) := by decide +kernel
theorem dX6_instruct_31 : decode cX6_instruct 31 = .ok (.iconst 1, 1) := by decide +kernel
theorem dX6_instruct_32 : decode cX6_instruct 32 = .ok (.if_icmp .lt 9, 3) := by decide +kernel
theorem dX6_instruct_35 : decode cX6_instruct 35 = .ok (.iload_n 1, 1) := by decide +kernel
theorem dX6_instruct_36 : decode cX6_instruct 36 = .ok (.bipush 7, 2) := by decide +kernel
theorem dX6_instruct_38 : decode cX6_instruct 38 = .ok (.if_icmp .le 13, 3) := by decide +kernel
theorem dX6_instruct_41 : decode cX6_instruct 41 = .ok (.new 53, 3) := by decide +kernel
theorem dX6_instruct_44 : decode cX6_instruct 44 = .ok (.dup, 1) := by decide +kernel
theorem dX6_instruct_45 : decode cX6_instruct 45 = .ok (.ldc 137, 2) := by decide +kernel
theorem dX6_instruct_47 : decode cX6_instruct 47 = .ok (.invokespecial 57, 3) := by decide +kernel
theorem dX6_instruct_50 : decode cX6_instruct 50 = .ok (.athrow, 1) := by decide +kernel
theorem dX6_instruct_51 : decode cX6_instruct 51 = .ok (.iload_n 1, 1) := by decide +kernel
theorem dX6_instruct_52 : decode cX6_instruct 52 = .ok (.iconst 4, 1) := by decide +kernel
theorem dX6_instruct_53 : decode cX6_instruct 53 = .ok (.if_icmp .ne 9, 3) := by decide +kernel
theorem dX6_instruct_56 : decode cX6_instruct 56 = .ok (.iload_n 3, 1) := by decide +kernel
theorem dX6_instruct_57 : decode cX6_instruct 57 = .ok (.iload 4, 2) := by decide +kernel
theorem dX6_instruct_59 : decode cX6_instruct 59 = .ok (.invokestatic 106, 3) := by decide +kernel
theorem dX6_instruct_62 : decode cX6_instruct 62 = .ok (.aload_n 0, 1) := by decide +kernel
theorem dX6_instruct_63 : decode cX6_instruct 63 = .ok (.invokevirtual 110, 3) := by decide +kernel
theorem dX6_instruct_66 : decode cX6_instruct 66 = .ok (.aload_n 0, 1) := by decide +kernel
theorem dX6_instruct_67 : decode cX6_instruct 67 = .ok (.getfield 36, 3) := by decide +kernel
theorem dX6_instruct_70 : decode cX6_instruct 70 = .ok (.iload_n 1, 1) := by decide +kernel
theorem dX6_instruct_71 : decode cX6_instruct 71 = .ok (.invokevirtual 139, 3) := by decide +kernel
theorem dX6_instruct_74 : decode cX6_instruct 74 = .ok (.ifCond .ne 13, 3) := by decide +kernel
theorem dX6_instruct_77 : decode cX6_instruct 77 = .ok (.new 60, 3) := by decide +kernel
theorem dX6_instruct_80 : decode cX6_instruct 80 = .ok (.dup, 1) := by decide +kernel
theorem dX6_instruct_81 : decode cX6_instruct 81 = .ok (.ldc 142, 2) := by decide +kernel
theorem dX6_instruct_83 : decode cX6_instruct 83 = .ok (.invokespecial 64, 3) := by decide +kernel
theorem dX6_instruct_86 : decode cX6_instruct 86 = .ok (.athrow, 1) := by decide +kernel
theorem dX6_instruct_87 : decode cX6_instruct 87 = .ok (.iload_n 1, 1) := by decide +kernel
theorem dX6_instruct_88 : decode cX6_instruct 88 = .ok (.iconst 5, 1) := by decide +kernel
theorem dX6_instruct_89 : decode cX6_instruct 89 = .ok (.if_icmp .ne 11, 3) := by decide +kernel
theorem dX6_instruct_92 : decode cX6_instruct 92 = .ok (.aload_n 0, 1) := by decide +kernel
theorem dX6_instruct_93 : decode cX6_instruct 93 = .ok (.getfield 36, 3) := by decide +kernel
theorem dX6_instruct_96 : decode cX6_instruct 96 = .ok (.iload_n 3, 1) := by decide +kernel
theorem dX6_instruct_97 : decode cX6_instruct 97 = .ok (.putfield 117, 3) := by decide +kernel
theorem dX6_instruct_100 : decode cX6_instruct 100 = .ok (.iload_n 1, 1) := by decide +kernel
theorem dX6_instruct_101 : decode cX6_instruct 101 = .ok (.iconst 4, 1) := by decide +kernel
theorem dX6_instruct_102 : decode cX6_instruct 102 = .ok (.if_icmp .ne 16, 3) := by decide +kernel
theorem dX6_instruct_105 : decode cX6_instruct 105 = .ok (.aload_n 0, 1) := by decide +kernel
theorem dX6_instruct_106 : decode cX6_instruct 106 = .ok (.getfield 36, 3) := by decide +kernel
theorem dX6_instruct_109 : decode cX6_instruct 109 = .ok (.iload_n 3, 1) := by decide +kernel
theorem dX6_instruct_110 : decode cX6_instruct 110 = .ok (.iload 4, 2) := by decide +kernel
theorem dX6_instruct_112 : decode cX6_instruct 112 = .ok (.invokestatic 120, 3) := by decide +kernel
theorem dX6_instruct_115 : decode cX6_instruct 115 = .ok (.putfield 124, 3) := by decide +kernel
theorem dX6_instruct_118 : decode cX6_instruct 118 = .ok (.aload_n 0, 1) := by decide +kernel
theorem dX6_instruct_119 : decode cX6_instruct 119 = .ok (.iload_n 1, 1) := by decide +kernel
theorem dX6_instruct_120 : decode cX6_instruct 120 = .ok (.iload_n 2, 1) := by decide +kernel
theorem dX6_instruct_121 : decode cX6_instruct 121 = .ok (.invokevirtual 127, 3) := by decide +kernel
theorem dX6_instruct_124 : decode cX6_instruct 124 = .ok (.aload_n 0, 1) := by decide +kernel
theorem dX6_instruct_125 : decode cX6_instruct 125 = .ok (.getfield 19, 3) := by decide +kernel
theorem dX6_instruct_128 : decode cX6_instruct 128 = .ok (.aload_n 0, 1) := by decide +kernel
theorem dX6_instruct_129 : decode cX6_instruct 129 = .ok (.getfield 10, 3) := by decide +kernel
theorem dX6_instruct_132 : decode cX6_instruct 132 = .ok (.invokevirtual 130, 3) := by decide +kernel
theorem dX6_instruct_135 : decode cX6_instruct 135 = .ok (.aload_n 0, 1) := by decide +kernel
theorem dX6_instruct_136 : decode cX6_instruct 136 = .ok (.getfield 10, 3) := by decide +kernel
theorem dX6_instruct_139 : decode cX6_instruct 139 = .ok (.invokevirtual 144, 3) := by decide +kernel
theorem dX6_instruct_142 : decode cX6_instruct 142 = .ok (.iconst 1, 1) := by decide +kernel
theorem dX6_instruct_143 : decode cX6_instruct 143 = .ok (.isub, 1) := by decide +kernel
theorem dX6_instruct_144 : decode cX6_instruct 144 = .ok (.ireturn, 1) := by decide +kernel
set_option maxRecDepth 20000 in
theorem ggX6_order_X6_needInstruction : GoodIn wsX6_order wsX6_needInstruction := goodIn_ca (goodIn_r _ [13, 14, 15, 8, 16, 17, 18, 19, 20, 21, 22, 23, 24, 25, 26, 27, 28, 29, 30, 31, 32, 33, 34, 35, 36, 37, 38, 39, 306, 307, 308, 309, 310, 311, 312, 313, 314, 315, 316] (by decide +kernel) (by decide +kernel)) (goodIn_sub (fun _ h => List.mem_cons_of_mem _ (List.mem_append_left _ (List.mem_append_right _ h))) (by decide +kernel))
set_option maxRecDepth 20000 in
theorem gX6_order_X6_needInstruction : GoodIn wsX6_order (wsV RX6 67 RX6 yX6_needInstruction wsX6_needInstruction) := goodIn_app (goodIn_of _ (by decide +kernel)) ggX6_order_X6_needInstruction
set_option maxRecDepth 20000 in
theorem ggX6_order_X6_needDay : GoodIn wsX6_order wsX6_needDay := goodIn_ca (goodIn_r _ [42, 43, 44] (by decide +kernel) (by decide +kernel)) (goodIn_sub (fun _ h => List.mem_cons_of_mem _ (List.mem_append_right _ h)) (by decide +kernel))
set_option maxRecDepth 20000 in
theorem gX6_order_X6_needDay : GoodIn wsX6_order (va_wsS RX6 73 yX6_needDay wsX6_needDay) := goodIn_app (goodIn_of _ (by decide +kernel)) ggX6_order_X6_needDay
set_option maxRecDepth 20000 in
theorem ggX6_order_X1_isGiven : GoodIn wsX6_order wsX1_isGiven := goodIn_r _ [49, 50, 317, 318, 319] (by decide +kernel) (by decide +kernel)
set_option maxRecDepth 20000 in
theorem gX6_order_X1_isGiven : GoodIn wsX6_order (wsV RX6 155 RX1 yX1_isGiven wsX1_isGiven) := goodIn_app (goodIn_of _ (by decide +kernel)) ggX6_order_X1_isGiven
set_option maxRecDepth 20000 in
theorem ggX6_order_X1_give : GoodIn wsX6_order wsX1_give := goodIn_r _ [54, 50, 55, 56, 317, 318, 319] (by decide +kernel) (by decide +kernel)
set_option maxRecDepth 20000 in
theorem gX6_order_X1_give : GoodIn wsX6_order (wsV RX6 163 RX1 yX1_give wsX1_give) := goodIn_app (goodIn_of _ (by decide +kernel)) ggX6_order_X1_give
set_option maxRecDepth 20000 in
theorem ggX6_order_X5_build : GoodIn wsX6_order wsX5_build := goodIn_r _ [61, 62, 63, 64, 65, 66, 67, 68, 69, 60, 70, 71, 72, 73, 74, 75, 76, 77, 20, 78, 79, 80, 39, 22, 81, 18, 19, 21, 82, 24, 25, 26, 27, 28, 29, 30, 31, 32, 33, 34, 35, 36, 37, 38, 83, 84, 85, 86, 87, 88, 89, 90, 91, 92, 93, 94, 95, 96, 48, 97, 50, 98, 46, 47, 49, 99, 100, 101, 102, 103, 104, 105, 106, 107, 108, 109, 110, 111, 112, 113, 114, 115, 116, 117, 118, 119, 120, 121, 122, 123, 124, 125, 55, 56, 126, 127, 128, 129, 130, 131, 132, 133, 134, 135, 136, 137, 138, 139, 140, 141, 142, 143, 144, 145, 146, 147, 148, 149, 150, 151, 152, 153, 154, 155, 156, 157, 158, 159, 160, 161, 162, 163, 164, 165, 166, 167, 168, 169, 170, 171, 172, 173, 174, 175, 176, 177, 178, 179, 180, 181, 182, 183, 184, 185, 186, 187, 188, 189, 190, 191, 192, 193, 194, 195, 196, 197, 198, 199, 200, 201, 202, 203, 204, 205, 206, 207, 208, 209, 210, 211, 212, 213, 214, 215, 216, 217, 218, 219, 220, 221, 222, 223, 224, 225, 226, 227, 228, 229, 230, 231, 232, 233, 234, 235, 236, 237, 238, 239, 240, 241, 242, 243, 244, 245, 246, 247, 248, 249, 250, 251, 252, 253, 254, 255, 256, 257, 258, 259, 260, 261, 262, 263, 264, 265, 266, 267, 268, 269, 270, 271, 272, 273, 274, 275, 276, 277, 278, 279, 280, 281, 282, 283, 284, 285, 286, 287, 288, 320, 321, 322, 323, 324, 325, 326, 327, 328, 329, 330, 331, 332, 289, 290, 291, 292, 293, 294, 295, 296, 297, 298, 299, 300, 301, 314, 315, 316, 302, 303, 304, 305, 317, 318, 319, 333, 334, 335, 336, 337] (by decide +kernel) (by decide +kernel)
set_option maxRecDepth 20000 in
theorem gX6_order_X5_build : GoodIn wsX6_order (wsV RX6 130 RX5 yX5_build wsX5_build) := goodIn_app (goodIn_of _ (by decide +kernel)) ggX6_order_X5_build
theorem dX6_order_0 : decode cX6_order 0 = .ok (.aload_n 0, 1) := by decide +kernel
theorem dX6_order_1 : decode cX6_order 1 = .ok (.iload_n 1, 1) := by decide +kernel
theorem dX6_order_2 : decode cX6_order 2 = .ok (.invokevirtual 67, 3) := by decide +kernel
theorem dX6_order_5 : decode cX6_order 5 = .ok (.astore_n 3, 1) := by decide +kernel
theorem dX6_order_6 : decode cX6_order 6 = .ok (.iload_n 2, 1) := by decide +kernel
theorem dX6_order_7 : decode cX6_order 7 = .ok (.invokestatic 73, 3) := by decide +kernel
theorem dX6_order_10 : decode cX6_order 10 = .ok (.aload_n 3, 1) := by decide +kernel
theorem dX6_order_11 : decode cX6_order 11 = .ok (.getfield 79, 3) := by decide +kernel
theorem dX6_order_14 : decode cX6_order 14 = .ok (.getfield 148, 3) := by decide +kernel
theorem dX6_order_17 : decode cX6_order 17 = .ok (.iconst 1, 1) := by decide +kernel
theorem dX6_order_18 : decode cX6_order 18 = .ok (.if_icmp .ne 13, 3) := by decide +kernel
theorem dX6_order_21 : decode cX6_order 21 = .ok (.aload_n 3, 1) := by decide +kernel
theorem dX6_order_22 : decode cX6_order 22 = .ok (.getfield 151, 3) := by decide +kernel
theorem dX6_order_25 : decode cX6_order 25 = .ok (.invokevirtual 155, 3) := by decide +kernel
theorem dX6_order_28 : decode cX6_order 28 = .ok (.ifCond .eq 13, 3) := by decide +kernel
theorem dX6_order_31 : decode cX6_order 31 = .ok (.new 60, 3) := by decide +kernel
theorem dX6_order_34 : decode cX6_order 34 = .ok (.dup, 1) := by decide +kernel
theorem dX6_order_35 : decode cX6_order 35 = .ok (.ldc 161, 2) := by decide +kernel
theorem dX6_order_37 : decode cX6_order 37 = .ok (.invokespecial 64, 3) := by decide +kernel
theorem dX6_order_40 : decode cX6_order 40 = .ok (.athrow, 1) := by decide +kernel
theorem dX6_order_41 : decode cX6_order 41 = .ok (.aload_n 3, 1) := by decide +kernel
theorem dX6_order_42 : decode cX6_order 42 = .ok (.getfield 151, 3) := by decide +kernel
theorem dX6_order_45 : decode cX6_order 45 = .ok (.aload_n 0, 1) := by decide +kernel
theorem dX6_order_46 : decode cX6_order 46 = .ok (.getfield 40, 3) := by decide +kernel
theorem dX6_order_49 : decode cX6_order 49 = .ok (.iload_n 2, 1) := by decide +kernel
theorem dX6_order_50 : decode cX6_order 50 = .ok (.iload_n 2, 1) := by decide +kernel
theorem dX6_order_51 : decode cX6_order 51 = .ok (.invokevirtual 163, 3) := by decide +kernel
theorem dX6_order_54 : decode cX6_order 54 = .ok (.aload_n 0, 1) := by decide +kernel
theorem dX6_order_55 : decode cX6_order 55 = .ok (.getfield 19, 3) := by decide +kernel
theorem dX6_order_58 : decode cX6_order 58 = .ok (.aload_n 0, 1) := by decide +kernel
theorem dX6_order_59 : decode cX6_order 59 = .ok (.getfield 10, 3) := by decide +kernel
theorem dX6_order_62 : decode cX6_order 62 = .ok (.invokevirtual 130, 3) := by decide +kernel
theorem dX6_order_65 : decode cX6_order 65 = .ok (.return_, 1) := by decide +kernel
set_option maxRecDepth 20000 in
theorem ggX6_strike_X6_needInstruction : GoodIn wsX6_strike wsX6_needInstruction := goodIn_ca (goodIn_r _ [11, 12, 13, 6, 14, 15, 16, 17, 18, 19, 20, 21, 22, 23, 24, 25, 26, 27, 28, 29, 30, 31, 32, 33, 34, 35, 36, 37, 300, 301, 302, 303, 304, 305, 306, 307, 308, 309, 310] (by decide +kernel) (by decide +kernel)) (goodIn_sub (fun _ h => List.mem_cons_of_mem _ (List.mem_append_left _ (List.mem_append_right _ h))) (by decide +kernel))
set_option maxRecDepth 20000 in
theorem gX6_strike_X6_needInstruction : GoodIn wsX6_strike (wsV RX6 67 RX6 yX6_needInstruction wsX6_needInstruction) := goodIn_app (goodIn_of _ (by decide +kernel)) ggX6_strike_X6_needInstruction
set_option maxRecDepth 20000 in
theorem ggX6_strike_X6_needDay : GoodIn wsX6_strike wsX6_needDay := goodIn_ca (goodIn_r _ [40, 41, 42] (by decide +kernel) (by decide +kernel)) (goodIn_sub (fun _ h => List.mem_cons_of_mem _ (List.mem_append_right _ h)) (by decide +kernel))
set_option maxRecDepth 20000 in
theorem gX6_strike_X6_needDay : GoodIn wsX6_strike (va_wsS RX6 73 yX6_needDay wsX6_needDay) := goodIn_app (goodIn_of _ (by decide +kernel)) ggX6_strike_X6_needDay
set_option maxRecDepth 20000 in
theorem ggX6_strike_X1_isGiven : GoodIn wsX6_strike wsX1_isGiven := goodIn_r _ [47, 48, 311, 312, 313] (by decide +kernel) (by decide +kernel)
set_option maxRecDepth 20000 in
theorem gX6_strike_X1_isGiven : GoodIn wsX6_strike (wsV RX6 155 RX1 yX1_isGiven wsX1_isGiven) := goodIn_app (goodIn_of _ (by decide +kernel)) ggX6_strike_X1_isGiven
set_option maxRecDepth 20000 in
theorem ggX6_strike_X1_give : GoodIn wsX6_strike wsX1_give := goodIn_r _ [52, 48, 53, 54, 311, 312, 313] (by decide +kernel) (by decide +kernel)
set_option maxRecDepth 20000 in
theorem gX6_strike_X1_give : GoodIn wsX6_strike (wsV RX6 163 RX1 yX1_give wsX1_give) := goodIn_app (goodIn_of _ (by decide +kernel)) ggX6_strike_X1_give
set_option maxRecDepth 20000 in
theorem ggX6_strike_X5_build : GoodIn wsX6_strike wsX5_build := goodIn_r _ [59, 60, 61, 62, 63, 64, 65, 66, 67, 58, 68, 69, 70, 71, 72, 73, 74, 75, 18, 76, 77, 78, 37, 20, 79, 16, 17, 19, 80, 22, 23, 24, 25, 26, 27, 28, 29, 30, 31, 32, 33, 34, 35, 36, 81, 82, 83, 84, 85, 86, 87, 88, 89, 90, 91, 92, 93, 94, 46, 95, 48, 96, 44, 45, 47, 97, 98, 99, 100, 101, 102, 103, 104, 105, 106, 107, 108, 109, 110, 111, 112, 113, 114, 115, 116, 117, 118, 119, 120, 121, 122, 123, 53, 54, 124, 125, 126, 127, 128, 129, 130, 131, 132, 133, 134, 135, 136, 137, 138, 139, 140, 141, 142, 143, 144, 145, 146, 147, 148, 149, 150, 151, 152, 153, 154, 155, 156, 157, 158, 159, 160, 161, 162, 163, 164, 165, 166, 167, 168, 169, 170, 171, 172, 173, 174, 175, 176, 177, 178, 179, 180, 181, 182, 183, 184, 185, 186, 187, 188, 189, 190, 191, 192, 193, 194, 195, 196, 197, 198, 199, 200, 201, 202, 203, 204, 205, 206, 207, 208, 209, 210, 211, 212, 213, 214, 215, 216, 217, 218, 219, 220, 221, 222, 223, 224, 225, 226, 227, 228, 229, 230, 231, 232, 233, 234, 235, 236, 237, 238, 239, 240, 241, 242, 243, 244, 245, 246, 247, 248, 249, 250, 251, 252, 253, 254, 255, 256, 257, 258, 259, 260, 261, 262, 263, 264, 265, 266, 267, 268, 269, 270, 271, 272, 273, 274, 275, 276, 277, 278, 279, 280, 281, 282, 283, 284, 285, 286, 314, 315, 316, 317, 318, 319, 320, 321, 322, 323, 324, 325, 326, 287, 288, 289, 290, 291, 292, 293, 294, 295, 296, 297, 298, 299, 308, 309, 310, 327, 328, 329, 330, 311, 312, 313, 331, 332, 333, 334, 335] (by decide +kernel) (by decide +kernel)
set_option maxRecDepth 20000 in
theorem gX6_strike_X5_build : GoodIn wsX6_strike (wsV RX6 130 RX5 yX5_build wsX5_build) := goodIn_app (goodIn_of _ (by decide +kernel)) ggX6_strike_X5_build
theorem dX6_strike_0 : decode cX6_strike 0 = .ok (.aload_n 0, 1) := by decide +kernel
theorem dX6_strike_1 : decode cX6_strike 1 = .ok (.iload_n 1, 1) := by decide +kernel
theorem dX6_strike_2 : decode cX6_strike 2 = .ok (.invokevirtual 67, 3) := by decide +kernel
theorem dX6_strike_5 : decode cX6_strike 5 = .ok (.astore_n 3, 1) := by decide +kernel
theorem dX6_strike_6 : decode cX6_strike 6 = .ok (.iload_n 2, 1) := by decide +kernel
theorem dX6_strike_7 : decode cX6_strike 7 = .ok (.invokestatic 73, 3) := by decide +kernel
theorem dX6_strike_10 : decode cX6_strike 10 = .ok (.aload_n 3, 1) := by decide +kernel
theorem dX6_strike_11 : decode cX6_strike 11 = .ok (.getfield 167, 3) := by decide +kernel
theorem dX6_strike_14 : decode cX6_strike 14 = .ok (.invokevirtual 155, 3) := by decide +kernel
theorem dX6_strike_17 : decode cX6_strike 17 = .ok (.ifCond .eq 13, 3) := by decide +kernel
theorem dX6_strike_20 : decode cX6_strike 20 = .ok (.new 60, 3) := by decide +kernel
theorem dX6_strike_23 : decode cX6_strike 23 = .ok (.dup, 1) := by decide +kernel
theorem dX6_strike_24 : decode cX6_strike 24 = .ok (.ldc 170, 2) := by decide +kernel
theorem dX6_strike_26 : decode cX6_strike 26 = .ok (.invokespecial 64, 3) := by decide +kernel
theorem dX6_strike_29 : decode cX6_strike 29 = .ok (.athrow, 1) := by decide +kernel
theorem dX6_strike_30 : decode cX6_strike 30 = .ok (.aload_n 3, 1) := by decide +kernel
theorem dX6_strike_31 : decode cX6_strike 31 = .ok (.getfield 167, 3) := by decide +kernel
theorem dX6_strike_34 : decode cX6_strike 34 = .ok (.aload_n 0, 1) := by decide +kernel
theorem dX6_strike_35 : decode cX6_strike 35 = .ok (.getfield 40, 3) := by decide +kernel
theorem dX6_strike_38 : decode cX6_strike 38 = .ok (.iload_n 2, 1) := by decide +kernel
theorem dX6_strike_39 : decode cX6_strike 39 = .ok (.sipush 5000, 3) := by decide +kernel
theorem dX6_strike_42 : decode cX6_strike 42 = .ok (.invokevirtual 163, 3) := by decide +kernel
theorem dX6_strike_45 : decode cX6_strike 45 = .ok (.aload_n 0, 1) := by decide +kernel
theorem dX6_strike_46 : decode cX6_strike 46 = .ok (.getfield 19, 3) := by decide +kernel
theorem dX6_strike_49 : decode cX6_strike 49 = .ok (.aload_n 0, 1) := by decide +kernel
theorem dX6_strike_50 : decode cX6_strike 50 = .ok (.getfield 10, 3) := by decide +kernel
theorem dX6_strike_53 : decode cX6_strike 53 = .ok (.invokevirtual 130, 3) := by decide +kernel
theorem dX6_strike_56 : decode cX6_strike 56 = .ok (.return_, 1) := by decide +kernel
set_option maxRecDepth 20000 in
theorem ggX6_suspend_X6_needInstruction : GoodIn wsX6_suspend wsX6_needInstruction := goodIn_ca (goodIn_r _ [13, 14, 15, 8, 16, 17, 18, 19, 20, 21, 22, 23, 24, 25, 26, 27, 28, 29, 30, 31, 32, 33, 34, 35, 36, 37, 38, 39, 300, 301, 302, 303, 304, 305, 306, 307, 308, 309, 310] (by decide +kernel) (by decide +kernel)) (goodIn_sub (fun _ h => List.mem_cons_of_mem _ (List.mem_append_right _ h)) (by decide +kernel))
set_option maxRecDepth 20000 in
theorem gX6_suspend_X6_needInstruction : GoodIn wsX6_suspend (wsV RX6 67 RX6 yX6_needInstruction wsX6_needInstruction) := goodIn_app (goodIn_of _ (by decide +kernel)) ggX6_suspend_X6_needInstruction
set_option maxRecDepth 20000 in
theorem ggX6_suspend_X6_needDay : GoodIn wsX6_suspend wsX6_needDay := goodIn_ca (goodIn_r _ [42, 1, 2] (by decide +kernel) (by decide +kernel)) (goodIn_sub (fun _ h => List.mem_cons_of_mem _ (List.mem_append_left _ (List.mem_append_left _ (List.mem_append_right _ h)))) (by decide +kernel))
set_option maxRecDepth 20000 in
theorem gX6_suspend_X6_needDay : GoodIn wsX6_suspend (va_wsS RX6 73 yX6_needDay wsX6_needDay) := goodIn_app (goodIn_of _ (by decide +kernel)) ggX6_suspend_X6_needDay
set_option maxRecDepth 20000 in
theorem ggX6_suspend_X1_isGiven : GoodIn wsX6_suspend wsX1_isGiven := goodIn_r _ [47, 48, 311, 312, 313] (by decide +kernel) (by decide +kernel)
set_option maxRecDepth 20000 in
theorem gX6_suspend_X1_isGiven : GoodIn wsX6_suspend (wsV RX6 155 RX1 yX1_isGiven wsX1_isGiven) := goodIn_app (goodIn_of _ (by decide +kernel)) ggX6_suspend_X1_isGiven
set_option maxRecDepth 20000 in
theorem ggX6_suspend_X1_give : GoodIn wsX6_suspend wsX1_give := goodIn_r _ [52, 48, 53, 54, 311, 312, 313] (by decide +kernel) (by decide +kernel)
set_option maxRecDepth 20000 in
theorem gX6_suspend_X1_give : GoodIn wsX6_suspend (wsV RX6 163 RX1 yX1_give wsX1_give) := goodIn_app (goodIn_of _ (by decide +kernel)) ggX6_suspend_X1_give
set_option maxRecDepth 20000 in
theorem ggX6_suspend_X5_build : GoodIn wsX6_suspend wsX5_build := goodIn_r _ [59, 60, 61, 62, 63, 64, 65, 66, 67, 58, 68, 69, 70, 71, 72, 73, 74, 75, 20, 76, 77, 78, 39, 22, 79, 18, 19, 21, 80, 24, 25, 26, 27, 28, 29, 30, 31, 32, 33, 34, 35, 36, 37, 38, 81, 82, 83, 84, 85, 86, 87, 88, 89, 90, 91, 92, 93, 94, 46, 95, 48, 96, 44, 45, 47, 97, 98, 99, 100, 101, 102, 103, 104, 105, 106, 107, 108, 109, 110, 111, 112, 113, 114, 115, 116, 117, 118, 119, 120, 121, 122, 123, 53, 54, 124, 125, 126, 127, 128, 129, 130, 131, 132, 133, 134, 135, 136, 137, 138, 139, 140, 141, 142, 143, 144, 145, 146, 147, 148, 149, 150, 151, 152, 153, 154, 155, 156, 157, 158, 159, 160, 161, 162, 163, 164, 165, 166, 167, 168, 169, 170, 171, 172, 173, 174, 175, 176, 177, 178, 179, 180, 181, 182, 183, 184, 185, 186, 187, 188, 189, 190, 191, 192, 193, 194, 195, 196, 197, 198, 199, 200, 201, 202, 203, 204, 205, 206, 207, 208, 209, 210, 211, 212, 213, 214, 215, 216, 217, 218, 219, 220, 221, 222, 223, 224, 225, 226, 227, 228, 229, 230, 231, 232, 233, 234, 235, 236, 237, 238, 239, 240, 241, 242, 243, 244, 245, 246, 247, 248, 249, 250, 251, 252, 253, 254, 255, 256, 257, 258, 259, 260, 261, 262, 263, 264, 265, 266, 267, 268, 269, 270, 271, 272, 273, 274, 275, 276, 277, 278, 279, 280, 281, 282, 283, 284, 285, 286, 314, 315, 316, 317, 318, 319, 320, 321, 322, 323, 324, 325, 326, 287, 288, 289, 290, 291, 292, 293, 294, 295, 296, 297, 298, 299, 308, 309, 310, 327, 328, 329, 330, 311, 312, 313, 331, 332, 333, 334, 335] (by decide +kernel) (by decide +kernel)
set_option maxRecDepth 20000 in
theorem gX6_suspend_X5_build : GoodIn wsX6_suspend (wsV RX6 130 RX5 yX5_build wsX5_build) := goodIn_app (goodIn_of _ (by decide +kernel)) ggX6_suspend_X5_build
theorem dX6_suspend_0 : decode cX6_suspend 0 = .ok (.aload_n 0, 1) := by decide +kernel
theorem dX6_suspend_1 : decode cX6_suspend 1 = .ok (.iload_n 1, 1) := by decide +kernel
theorem dX6_suspend_2 : decode cX6_suspend 2 = .ok (.invokevirtual 67, 3) := by decide +kernel
theorem dX6_suspend_5 : decode cX6_suspend 5 = .ok (.astore 4, 2) := by decide +kernel
theorem dX6_suspend_7 : decode cX6_suspend 7 = .ok (.iload_n 2, 1) := by decide +kernel
theorem dX6_suspend_8 : decode cX6_suspend 8 = .ok (.invokestatic 73, 3) := by decide +kernel
theorem dX6_suspend_11 : decode cX6_suspend 11 = .ok (.iload_n 3, 1) := by decide +kernel
theorem dX6_suspend_12 : decode cX6_suspend 12 = .ok (.invokestatic 73, 3) := by decide +kernel
theorem dX6_suspend_15 : decode cX6_suspend 15 = .ok (.iload_n 3, 1) := by decide +kernel
theorem dX6_suspend_16 : decode cX6_suspend 16 = .ok (.iload_n 2, 1) := by decide +kernel
theorem dX6_suspend_17 : decode cX6_suspend 17 = .ok (.if_icmp .ge 13, 3) := by decide +kernel
theorem dX6_suspend_20 : decode cX6_suspend 20 = .ok (.new 53, 3) := by decide +kernel
theorem dX6_suspend_23 : decode cX6_suspend 23 = .ok (.dup, 1) := by decide +kernel
theorem dX6_suspend_24 : decode cX6_suspend 24 = .ok (.ldc 172, 2) := by decide +kernel
theorem dX6_suspend_26 : decode cX6_suspend 26 = .ok (.invokespecial 57, 3) := by decide +kernel
theorem dX6_suspend_29 : decode cX6_suspend 29 = .ok (.athrow, 1) := by decide +kernel
theorem dX6_suspend_30 : decode cX6_suspend 30 = .ok (.aload 4, 2) := by decide +kernel
theorem dX6_suspend_32 : decode cX6_suspend 32 = .ok (.getfield 174, 3) := by decide +kernel
theorem dX6_suspend_35 : decode cX6_suspend 35 = .ok (.invokevirtual 155, 3) := by decide +kernel
theorem dX6_suspend_38 : decode cX6_suspend 38 = .ok (.ifCond .eq 13, 3) := by decide +kernel
theorem dX6_suspend_41 : decode cX6_suspend 41 = .ok (.new 60, 3) := by decide +kernel
theorem dX6_suspend_44 : decode cX6_suspend 44 = .ok (.dup, 1) := by decide +kernel
theorem dX6_suspend_45 : decode cX6_suspend 45 = .ok (.ldc 177, 2) := by decide +kernel
theorem dX6_suspend_47 : decode cX6_suspend 47 = .ok (.invokespecial 64, 3) := by decide +kernel
theorem dX6_suspend_50 : decode cX6_suspend 50 = .ok (.athrow, 1) := by decide +kernel
theorem dX6_suspend_51 : decode cX6_suspend 51 = .ok (.aload 4, 2) := by decide +kernel
theorem dX6_suspend_53 : decode cX6_suspend 53 = .ok (.getfield 174, 3) := by decide +kernel
theorem dX6_suspend_56 : decode cX6_suspend 56 = .ok (.aload_n 0, 1) := by decide +kernel
theorem dX6_suspend_57 : decode cX6_suspend 57 = .ok (.getfield 40, 3) := by decide +kernel
theorem dX6_suspend_60 : decode cX6_suspend 60 = .ok (.iload_n 2, 1) := by decide +kernel
theorem dX6_suspend_61 : decode cX6_suspend 61 = .ok (.iload_n 3, 1) := by decide +kernel
theorem dX6_suspend_62 : decode cX6_suspend 62 = .ok (.invokevirtual 163, 3) := by decide +kernel
theorem dX6_suspend_65 : decode cX6_suspend 65 = .ok (.aload_n 0, 1) := by decide +kernel
theorem dX6_suspend_66 : decode cX6_suspend 66 = .ok (.getfield 19, 3) := by decide +kernel
theorem dX6_suspend_69 : decode cX6_suspend 69 = .ok (.aload_n 0, 1) := by decide +kernel
theorem dX6_suspend_70 : decode cX6_suspend 70 = .ok (.getfield 10, 3) := by decide +kernel
theorem dX6_suspend_73 : decode cX6_suspend 73 = .ok (.invokevirtual 130, 3) := by decide +kernel
theorem dX6_suspend_76 : decode cX6_suspend 76 = .ok (.return_, 1) := by decide +kernel
set_option maxRecDepth 20000 in
theorem ggX6_look_X6_needDay : GoodIn wsX6_look wsX6_needDay := goodIn_ca (goodIn_r _ [9, 1, 2] (by decide +kernel) (by decide +kernel)) (goodIn_sub (fun _ h => List.mem_cons_of_mem _ (List.mem_append_right _ h)) (by decide +kernel))
set_option maxRecDepth 20000 in
theorem gX6_look_X6_needDay : GoodIn wsX6_look (va_wsS RX6 73 yX6_needDay wsX6_needDay) := goodIn_app (goodIn_of _ (by decide +kernel)) ggX6_look_X6_needDay
set_option maxRecDepth 20000 in
theorem ggX6_look_X5_turnTo : GoodIn wsX6_look wsX5_turnTo := goodIn_r _ [14, 15, 16, 17, 282, 283, 284, 285, 286, 287, 288, 289, 290, 291, 292, 293, 294] (by decide +kernel) (by decide +kernel)
set_option maxRecDepth 20000 in
theorem gX6_look_X5_turnTo : GoodIn wsX6_look (wsV RX6 183 RX5 yX5_turnTo wsX5_turnTo) := goodIn_app (goodIn_of _ (by decide +kernel)) ggX6_look_X5_turnTo
set_option maxRecDepth 20000 in
theorem ggX6_look_X5_build : GoodIn wsX6_look wsX5_build := goodIn_r _ [21, 22, 23, 24, 25, 26, 27, 28, 29, 13, 30, 31, 32, 33, 34, 35, 36, 37, 38, 39, 40, 41, 42, 43, 44, 45, 46, 47, 48, 49, 50, 51, 52, 53, 54, 55, 56, 57, 58, 59, 60, 61, 62, 63, 64, 65, 66, 67, 68, 16, 69, 70, 71, 72, 73, 74, 75, 76, 77, 78, 79, 80, 81, 82, 83, 84, 85, 86, 87, 88, 89, 90, 91, 15, 17, 92, 93, 94, 95, 96, 97, 98, 99, 100, 101, 102, 103, 104, 105, 106, 107, 108, 109, 110, 111, 112, 113, 114, 115, 116, 117, 118, 119, 120, 121, 122, 123, 124, 125, 126, 127, 128, 129, 130, 131, 132, 133, 134, 135, 136, 137, 138, 139, 140, 141, 142, 143, 144, 145, 146, 147, 148, 149, 150, 151, 152, 153, 154, 155, 156, 157, 158, 159, 160, 161, 162, 163, 164, 165, 166, 167, 168, 169, 170, 171, 172, 173, 174, 175, 176, 177, 178, 179, 180, 181, 182, 183, 184, 185, 186, 187, 188, 189, 190, 191, 192, 193, 194, 195, 196, 197, 198, 199, 200, 201, 202, 203, 204, 205, 206, 207, 208, 209, 210, 211, 212, 213, 214, 215, 216, 217, 218, 219, 220, 221, 222, 223, 224, 225, 226, 227, 228, 229, 230, 231, 232, 233, 234, 235, 236, 237, 238, 239, 240, 241, 242, 243, 244, 245, 246, 247, 248, 249, 250, 251, 252, 253, 254, 255, 256, 257, 258, 259, 260, 261, 262, 263, 264, 265, 266, 267, 268, 269, 270, 271, 272, 273, 282, 283, 284, 285, 286, 287, 288, 289, 290, 291, 292, 293, 294, 295, 296, 297, 298, 299, 300, 301, 302, 303, 304, 305, 306, 307, 308, 309, 310, 311, 312, 313, 314, 315, 316, 317, 318, 319, 320, 321, 322] (by decide +kernel) (by decide +kernel)
set_option maxRecDepth 20000 in
theorem gX6_look_X5_build : GoodIn wsX6_look (wsV RX6 130 RX5 yX5_build wsX5_build) := goodIn_app (goodIn_of _ (by decide +kernel)) ggX6_look_X5_build
theorem dX6_look_0 : decode cX6_look 0 = .ok (.iload_n 1, 1) := by decide +kernel
theorem dX6_look_1 : decode cX6_look 1 = .ok (.invokestatic 73, 3) := by decide +kernel
theorem dX6_look_4 : decode cX6_look 4 = .ok (.iload_n 2, 1) := by decide +kernel
theorem dX6_look_5 : decode cX6_look 5 = .ok (.ifCond .lt 11, 3) := by decide +kernel
theorem dX6_look_8 : decode cX6_look 8 = .ok (.iload_n 2, 1) := by decide +kernel
theorem dX6_look_9 : decode cX6_look 9 = .ok (.aload_n 0, 1) := by decide +kernel
theorem dX6_look_10 : decode cX6_look 10 = .ok (.getfield 40, 3) := by decide +kernel
theorem dX6_look_13 : decode cX6_look 13 = .ok (.if_icmp .le 13, 3) := by decide +kernel
theorem dX6_look_16 : decode cX6_look 16 = .ok (.new 53, 3) := by decide +kernel
theorem dX6_look_19 : decode cX6_look 19 = .ok (.dup, 1) := by decide +kernel
theorem dX6_look_20 : decode cX6_look 20 = .ok (.ldc 179, 2) := by decide +kernel
theorem dX6_look_22 : decode cX6_look 22 = .ok (.invokespecial 57, 3) := by decide +kernel
theorem dX6_look_25 : decode cX6_look 25 = .ok (.athrow, 1) := by decide +kernel
theorem dX6_look_26 : decode cX6_look 26 = .ok (.iload_n 3, 1) := by decide +kernel
theorem dX6_look_27 : decode cX6_look 27 = .ok (.ifCond .lt 8, 3) := by decide +kernel
theorem dX6_look_30 : decode cX6_look 30 = .ok (.iload_n 3, 1) := by decide +kernel
theorem dX6_look_31 : decode cX6_look 31 = .ok (.iconst 2, 1) := by decide +kernel
theorem dX6_look_32 : decode cX6_look 32 = .ok (.if_icmp .le 13, 3) := by decide +kernel
theorem dX6_look_35 : decode cX6_look 35 = .ok (.new 53, 3) := by decide +kernel
theorem dX6_look_38 : decode cX6_look 38 = .ok (.dup, 1) := by decide +kernel
theorem dX6_look_39 : decode cX6_look 39 = .ok (.ldc 181, 2) := by decide +kernel
theorem dX6_look_41 : decode cX6_look 41 = .ok (.invokespecial 57, 3) := by decide +kernel
theorem dX6_look_44 : decode cX6_look 44 = .ok (.athrow, 1) := by decide +kernel
theorem dX6_look_45 : decode cX6_look 45 = .ok (.aload_n 0, 1) := by decide +kernel
theorem dX6_look_46 : decode cX6_look 46 = .ok (.getfield 19, 3) := by decide +kernel
theorem dX6_look_49 : decode cX6_look 49 = .ok (.iload_n 1, 1) := by decide +kernel
theorem dX6_look_50 : decode cX6_look 50 = .ok (.iload_n 2, 1) := by decide +kernel
theorem dX6_look_51 : decode cX6_look 51 = .ok (.iload_n 3, 1) := by decide +kernel
theorem dX6_look_52 : decode cX6_look 52 = .ok (.invokevirtual 183, 3) := by decide +kernel
theorem dX6_look_55 : decode cX6_look 55 = .ok (.aload_n 0, 1) := by decide +kernel
theorem dX6_look_56 : decode cX6_look 56 = .ok (.getfield 19, 3) := by decide +kernel
theorem dX6_look_59 : decode cX6_look 59 = .ok (.aload_n 0, 1) := by decide +kernel
theorem dX6_look_60 : decode cX6_look 60 = .ok (.getfield 10, 3) := by decide +kernel
theorem dX6_look_63 : decode cX6_look 63 = .ok (.invokevirtual 130, 3) := by decide +kernel
theorem dX6_look_66 : decode cX6_look 66 = .ok (.aload_n 0, 1) := by decide +kernel
theorem dX6_look_67 : decode cX6_look 67 = .ok (.getfield 19, 3) := by decide +kernel
theorem dX6_look_70 : decode cX6_look 70 = .ok (.getfield 186, 3) := by decide +kernel
theorem dX6_look_73 : decode cX6_look 73 = .ok (.ireturn, 1) := by decide +kernel
set_option maxRecDepth 20000 in
theorem ggX6_provisionAt_X5_listedAt : GoodIn wsX6_provisionAt wsX5_listedAt := goodIn_r _ [8, 9, 10, 19, 20, 21, 22, 23, 24, 25, 26, 27, 28, 29, 30, 31] (by decide +kernel) (by decide +kernel)
set_option maxRecDepth 20000 in
theorem gX6_provisionAt_X5_listedAt : GoodIn wsX6_provisionAt (wsV RX6 194 RX5 yX5_listedAt wsX5_listedAt) := goodIn_app (goodIn_of _ (by decide +kernel)) ggX6_provisionAt_X5_listedAt
theorem dX6_provisionAt_0 : decode cX6_provisionAt 0 = .ok (.iload_n 1, 1) := by decide +kernel
theorem dX6_provisionAt_1 : decode cX6_provisionAt 1 = .ok (.ifCond .ge 13, 3) := by decide +kernel
theorem dX6_provisionAt_4 : decode cX6_provisionAt 4 = .ok (.new 189, 3) := by decide +kernel
theorem dX6_provisionAt_7 : decode cX6_provisionAt 7 = .ok (.dup, 1) := by decide +kernel
theorem dX6_provisionAt_8 : decode cX6_provisionAt 8 = .ok (.ldc 191, 2) := by decide +kernel
theorem dX6_provisionAt_10 : decode cX6_provisionAt 10 = .ok (.invokespecial 193, 3) := by decide +kernel
theorem dX6_provisionAt_13 : decode cX6_provisionAt 13 = .ok (.athrow, 1) := by decide +kernel
theorem dX6_provisionAt_14 : decode cX6_provisionAt 14 = .ok (.aload_n 0, 1) := by decide +kernel
theorem dX6_provisionAt_15 : decode cX6_provisionAt 15 = .ok (.getfield 19, 3) := by decide +kernel
theorem dX6_provisionAt_18 : decode cX6_provisionAt 18 = .ok (.iload_n 1, 1) := by decide +kernel
theorem dX6_provisionAt_19 : decode cX6_provisionAt 19 = .ok (.invokevirtual 194, 3) := by decide +kernel
theorem dX6_provisionAt_22 : decode cX6_provisionAt 22 = .ok (.ireturn, 1) := by decide +kernel
set_option maxRecDepth 20000 in
theorem ggX6_label_X6_needProvision : GoodIn wsX6_label wsX6_needProvision := goodIn_ca (goodIn_r _ [6, 7, 8, 9, 16, 17, 18, 19, 20, 21, 22, 23] (by decide +kernel) (by decide +kernel)) (goodIn_sub (fun _ h => List.mem_cons_of_mem _ (List.mem_append_right _ h)) (by decide +kernel))
set_option maxRecDepth 20000 in
theorem gX6_label_X6_needProvision : GoodIn wsX6_label (wsV RX6 134 RX6 yX6_needProvision wsX6_needProvision) := goodIn_app (goodIn_of _ (by decide +kernel)) ggX6_label_X6_needProvision
set_option maxRecDepth 20000 in
theorem ggX6_label_X5_labelOf : GoodIn wsX6_label wsX5_labelOf := goodIn_r _ [14, 15, 24, 25, 26, 27, 28, 29, 30, 31, 32, 33, 34, 35, 36] (by decide +kernel) (by decide +kernel)
set_option maxRecDepth 20000 in
theorem gX6_label_X5_labelOf : GoodIn wsX6_label (wsV RX6 198 RX5 yX5_labelOf wsX5_labelOf) := goodIn_app (goodIn_of _ (by decide +kernel)) ggX6_label_X5_labelOf
theorem dX6_label_0 : decode cX6_label 0 = .ok (.aload_n 0, 1) := by decide +kernel
theorem dX6_label_1 : decode cX6_label 1 = .ok (.iload_n 1, 1) := by decide +kernel
theorem dX6_label_2 : decode cX6_label 2 = .ok (.invokevirtual 134, 3) := by decide +kernel
theorem dX6_label_5 : decode cX6_label 5 = .ok (.aload_n 0, 1) := by decide +kernel
theorem dX6_label_6 : decode cX6_label 6 = .ok (.getfield 19, 3) := by decide +kernel
theorem dX6_label_9 : decode cX6_label 9 = .ok (.iload_n 1, 1) := by decide +kernel
theorem dX6_label_10 : decode cX6_label 10 = .ok (.invokevirtual 198, 3) := by decide +kernel
theorem dX6_label_13 : decode cX6_label 13 = .ok (.ireturn, 1) := by decide +kernel
set_option maxRecDepth 20000 in
theorem ggX6_parent_X6_needProvision : GoodIn wsX6_parent wsX6_needProvision := goodIn_ca (goodIn_r _ [6, 7, 8, 9, 25, 26, 27, 28, 29, 30, 31, 32] (by decide +kernel) (by decide +kernel)) (goodIn_sub (fun _ h => List.mem_cons_of_mem _ (List.mem_append_right _ h)) (by decide +kernel))
set_option maxRecDepth 20000 in
theorem gX6_parent_X6_needProvision : GoodIn wsX6_parent (wsV RX6 134 RX6 yX6_needProvision wsX6_needProvision) := goodIn_app (goodIn_of _ (by decide +kernel)) ggX6_parent_X6_needProvision
set_option maxRecDepth 20000 in
theorem ggX6_parent_X5_isThere : GoodIn wsX6_parent wsX5_isThere := goodIn_r _ [14, 15, 16, 17, 13, 18, 19, 33, 34, 35, 36, 37, 38, 39, 40, 41, 42, 43, 44, 45] (by decide +kernel) (by decide +kernel)
set_option maxRecDepth 20000 in
theorem gX6_parent_X5_isThere : GoodIn wsX6_parent (wsV RX6 201 RX5 yX5_isThere wsX5_isThere) := goodIn_app (goodIn_of _ (by decide +kernel)) ggX6_parent_X5_isThere
set_option maxRecDepth 20000 in
theorem ggX6_parent_X5_outerOf : GoodIn wsX6_parent wsX5_outerOf := goodIn_r _ [23, 24, 33, 34, 35, 36, 37, 38, 39, 40, 41, 42, 43, 44, 45] (by decide +kernel) (by decide +kernel)
set_option maxRecDepth 20000 in
theorem gX6_parent_X5_outerOf : GoodIn wsX6_parent (wsV RX6 204 RX5 yX5_outerOf wsX5_outerOf) := goodIn_app (goodIn_of _ (by decide +kernel)) ggX6_parent_X5_outerOf
theorem dX6_parent_0 : decode cX6_parent 0 = .ok (.aload_n 0, 1) := by decide +kernel
theorem dX6_parent_1 : decode cX6_parent 1 = .ok (.iload_n 1, 1) := by decide +kernel
theorem dX6_parent_2 : decode cX6_parent 2 = .ok (.invokevirtual 134, 3) := by decide +kernel
theorem dX6_parent_5 : decode cX6_parent 5 = .ok (.aload_n 0, 1) := by decide +kernel
theorem dX6_parent_6 : decode cX6_parent 6 = .ok (.getfield 19, 3) := by decide +kernel
theorem dX6_parent_9 : decode cX6_parent 9 = .ok (.iload_n 1, 1) := by decide +kernel
theorem dX6_parent_10 : decode cX6_parent 10 = .ok (.invokevirtual 201, 3) := by decide +kernel
theorem dX6_parent_13 : decode cX6_parent 13 = .ok (.ifCond .eq 14, 3) := by decide +kernel
theorem dX6_parent_16 : decode cX6_parent 16 = .ok (.aload_n 0, 1) := by decide +kernel
theorem dX6_parent_17 : decode cX6_parent 17 = .ok (.getfield 19, 3) := by decide +kernel
theorem dX6_parent_20 : decode cX6_parent 20 = .ok (.iload_n 1, 1) := by decide +kernel
theorem dX6_parent_21 : decode cX6_parent 21 = .ok (.invokevirtual 204, 3) := by decide +kernel
theorem dX6_parent_24 : decode cX6_parent 24 = .ok (.goto 4, 3) := by decide +kernel
theorem dX6_parent_27 : decode cX6_parent 27 = .ok (.iconst (-1), 1) := by decide +kernel
theorem dX6_parent_28 : decode cX6_parent 28 = .ok (.ireturn, 1) := by decide +kernel
set_option maxRecDepth 20000 in
theorem ggX6_words_X6_needProvision : GoodIn wsX6_words wsX6_needProvision := goodIn_ca (goodIn_r _ [6, 7, 8, 9, 25, 26, 27, 28, 29, 30, 31, 32] (by decide +kernel) (by decide +kernel)) (goodIn_sub (fun _ h => List.mem_cons_of_mem _ (List.mem_append_right _ h)) (by decide +kernel))
set_option maxRecDepth 20000 in
theorem gX6_words_X6_needProvision : GoodIn wsX6_words (wsV RX6 134 RX6 yX6_needProvision wsX6_needProvision) := goodIn_app (goodIn_of _ (by decide +kernel)) ggX6_words_X6_needProvision
set_option maxRecDepth 20000 in
theorem ggX6_words_X5_countOf : GoodIn wsX6_words wsX5_countOf := goodIn_r _ [14, 15, 16, 17, 18, 13, 19, 20, 21, 22, 23, 24, 33, 34, 35, 36, 37, 38, 39, 40, 41, 42, 43, 44, 45, 46, 47, 48] (by decide +kernel) (by decide +kernel)
set_option maxRecDepth 20000 in
theorem gX6_words_X5_countOf : GoodIn wsX6_words (wsV RX6 207 RX5 yX5_countOf wsX5_countOf) := goodIn_app (goodIn_of _ (by decide +kernel)) ggX6_words_X5_countOf
theorem dX6_words_0 : decode cX6_words 0 = .ok (.aload_n 0, 1) := by decide +kernel
theorem dX6_words_1 : decode cX6_words 1 = .ok (.iload_n 1, 1) := by decide +kernel
theorem dX6_words_2 : decode cX6_words 2 = .ok (.invokevirtual 134, 3) := by decide +kernel
theorem dX6_words_5 : decode cX6_words 5 = .ok (.aload_n 0, 1) := by decide +kernel
theorem dX6_words_6 : decode cX6_words 6 = .ok (.getfield 19, 3) := by decide +kernel
theorem dX6_words_9 : decode cX6_words 9 = .ok (.iload_n 1, 1) := by decide +kernel
theorem dX6_words_10 : decode cX6_words 10 = .ok (.invokevirtual 207, 3) := by decide +kernel
theorem dX6_words_13 : decode cX6_words 13 = .ok (.ireturn, 1) := by decide +kernel
set_option maxRecDepth 20000 in
theorem ggX6_wordAt_X6_needWord : GoodIn wsX6_wordAt wsX6_needWord := goodIn_ca (goodIn_r _ [6, 7, 8, 1, 9, 10, 11, 5, 12, 13, 14, 15, 16, 17, 18, 19, 20, 21, 22, 23, 24, 25, 26, 27, 28, 40, 41, 42, 43, 44, 45, 46, 47, 48, 49, 50, 51, 52, 53, 54, 55, 56, 57, 58, 59, 60, 61, 62, 63] (by decide +kernel) (by decide +kernel)) (goodIn_sub (fun _ h => List.mem_cons_of_mem _ (List.mem_append_right _ h)) (by decide +kernel))
set_option maxRecDepth 20000 in
theorem gX6_wordAt_X6_needWord : GoodIn wsX6_wordAt (wsV RX6 210 RX6 yX6_needWord wsX6_needWord) := goodIn_app (goodIn_of _ (by decide +kernel)) ggX6_wordAt_X6_needWord
set_option maxRecDepth 20000 in
theorem ggX6_wordAt_X5_readAt : GoodIn wsX6_wordAt wsX5_readAt := goodIn_r _ [32, 19, 20, 21, 22, 17, 23, 24, 25, 26, 27, 28, 33, 34, 35, 36, 37, 38, 39, 48, 49, 50, 51, 52, 53, 54, 55, 56, 57, 58, 59, 60, 61, 62, 63] (by decide +kernel) (by decide +kernel)
set_option maxRecDepth 20000 in
theorem gX6_wordAt_X5_readAt : GoodIn wsX6_wordAt (wsV RX6 213 RX5 yX5_readAt wsX5_readAt) := goodIn_app (goodIn_of _ (by decide +kernel)) ggX6_wordAt_X5_readAt
theorem dX6_wordAt_0 : decode cX6_wordAt 0 = .ok (.aload_n 0, 1) := by decide +kernel
theorem dX6_wordAt_1 : decode cX6_wordAt 1 = .ok (.iload_n 1, 1) := by decide +kernel
theorem dX6_wordAt_2 : decode cX6_wordAt 2 = .ok (.iload_n 2, 1) := by decide +kernel
theorem dX6_wordAt_3 : decode cX6_wordAt 3 = .ok (.invokevirtual 210, 3) := by decide +kernel
theorem dX6_wordAt_6 : decode cX6_wordAt 6 = .ok (.aload_n 0, 1) := by decide +kernel
theorem dX6_wordAt_7 : decode cX6_wordAt 7 = .ok (.getfield 19, 3) := by decide +kernel
theorem dX6_wordAt_10 : decode cX6_wordAt 10 = .ok (.iload_n 1, 1) := by decide +kernel
theorem dX6_wordAt_11 : decode cX6_wordAt 11 = .ok (.iload_n 2, 1) := by decide +kernel
theorem dX6_wordAt_12 : decode cX6_wordAt 12 = .ok (.invokevirtual 213, 3) := by decide +kernel
theorem dX6_wordAt_15 : decode cX6_wordAt 15 = .ok (.ireturn, 1) := by decide +kernel
set_option maxRecDepth 20000 in
theorem ggX6_wordAnew_X6_needProvision : GoodIn wsX6_wordAnew wsX6_needProvision := goodIn_ca (goodIn_r _ [8, 1, 2, 9, 117, 118, 119, 120, 121, 122, 123, 124] (by decide +kernel) (by decide +kernel)) (goodIn_sub (fun _ h => List.mem_cons_of_mem _ (List.mem_append_right _ h)) (by decide +kernel))
set_option maxRecDepth 20000 in
theorem gX6_wordAnew_X6_needProvision : GoodIn wsX6_wordAnew (wsV RX6 134 RX6 yX6_needProvision wsX6_needProvision) := goodIn_app (goodIn_of _ (by decide +kernel)) ggX6_wordAnew_X6_needProvision
set_option maxRecDepth 20000 in
theorem ggX6_wordAnew_X5_findAnew : GoodIn wsX6_wordAnew wsX5_findAnew := goodIn_r _ [14, 15, 16, 17, 18, 19, 20, 21, 13, 22, 23, 24, 25, 26, 27, 28, 29, 30, 31, 32, 33, 34, 35, 36, 37, 38, 39, 40, 41, 42, 43, 44, 45, 46, 47, 48, 49, 50, 51, 52, 53, 54, 55, 56, 57, 58, 59, 60, 61, 62, 63, 64, 65, 66, 67, 68, 69, 70, 71, 72, 73, 74, 75, 76, 77, 78, 79, 80, 81, 82, 83, 84, 85, 86, 87, 88, 89, 90, 91, 92, 93, 94, 95, 96, 97, 98, 99, 100, 101, 102, 103, 104, 105, 106, 107, 108, 109, 110, 111, 112, 113, 114, 115, 116, 125, 126, 127, 128, 129, 130, 131, 132, 133, 134, 135, 136, 137, 138, 139, 140, 141, 142, 143, 144, 145, 146, 147, 148, 149, 150, 151, 152, 153, 154, 155, 156, 157, 158] (by decide +kernel) (by decide +kernel)
set_option maxRecDepth 20000 in
theorem gX6_wordAnew_X5_findAnew : GoodIn wsX6_wordAnew (wsV RX6 216 RX5 yX5_findAnew wsX5_findAnew) := goodIn_app (goodIn_of _ (by decide +kernel)) ggX6_wordAnew_X5_findAnew
theorem dX6_wordAnew_0 : decode cX6_wordAnew 0 = .ok (.aload_n 0, 1) := by decide +kernel
theorem dX6_wordAnew_1 : decode cX6_wordAnew 1 = .ok (.iload_n 1, 1) := by decide +kernel
theorem dX6_wordAnew_2 : decode cX6_wordAnew 2 = .ok (.invokevirtual 134, 3) := by decide +kernel
theorem dX6_wordAnew_5 : decode cX6_wordAnew 5 = .ok (.iload_n 2, 1) := by decide +kernel
theorem dX6_wordAnew_6 : decode cX6_wordAnew 6 = .ok (.ifCond .ge 13, 3) := by decide +kernel
theorem dX6_wordAnew_9 : decode cX6_wordAnew 9 = .ok (.new 189, 3) := by decide +kernel
theorem dX6_wordAnew_12 : decode cX6_wordAnew 12 = .ok (.dup, 1) := by decide +kernel
theorem dX6_wordAnew_13 : decode cX6_wordAnew 13 = .ok (.ldc 191, 2) := by decide +kernel
theorem dX6_wordAnew_15 : decode cX6_wordAnew 15 = .ok (.invokespecial 193, 3) := by decide +kernel
theorem dX6_wordAnew_18 : decode cX6_wordAnew 18 = .ok (.athrow, 1) := by decide +kernel
theorem dX6_wordAnew_19 : decode cX6_wordAnew 19 = .ok (.aload_n 0, 1) := by decide +kernel
theorem dX6_wordAnew_20 : decode cX6_wordAnew 20 = .ok (.getfield 19, 3) := by decide +kernel
theorem dX6_wordAnew_23 : decode cX6_wordAnew 23 = .ok (.iload_n 1, 1) := by decide +kernel
theorem dX6_wordAnew_24 : decode cX6_wordAnew 24 = .ok (.iload_n 2, 1) := by decide +kernel
theorem dX6_wordAnew_25 : decode cX6_wordAnew 25 = .ok (.invokevirtual 216, 3) := by decide +kernel
theorem dX6_wordAnew_28 : decode cX6_wordAnew 28 = .ok (.ireturn, 1) := by decide +kernel
set_option maxRecDepth 20000 in
theorem ggX6_origin_X6_needWord : GoodIn wsX6_origin wsX6_needWord := goodIn_ca (goodIn_r _ [6, 7, 8, 1, 9, 10, 11, 5, 12, 13, 14, 15, 16, 17, 18, 19, 20, 21, 22, 23, 24, 25, 26, 27, 28, 40, 41, 42, 43, 44, 45, 46, 47, 48, 49, 50, 51, 52, 53, 54, 55, 56, 57, 58, 59, 60, 61, 62, 63] (by decide +kernel) (by decide +kernel)) (goodIn_sub (fun _ h => List.mem_cons_of_mem _ (List.mem_append_right _ h)) (by decide +kernel))
set_option maxRecDepth 20000 in
theorem gX6_origin_X6_needWord : GoodIn wsX6_origin (wsV RX6 210 RX6 yX6_needWord wsX6_needWord) := goodIn_app (goodIn_of _ (by decide +kernel)) ggX6_origin_X6_needWord
set_option maxRecDepth 20000 in
theorem ggX6_origin_X5_sourceAt : GoodIn wsX6_origin wsX5_sourceAt := goodIn_r _ [32, 19, 20, 21, 22, 17, 23, 24, 25, 26, 27, 28, 33, 34, 35, 36, 37, 38, 39, 48, 49, 50, 51, 52, 53, 54, 55, 56, 57, 58, 59, 60, 61, 62, 63] (by decide +kernel) (by decide +kernel)
set_option maxRecDepth 20000 in
theorem gX6_origin_X5_sourceAt : GoodIn wsX6_origin (wsV RX6 219 RX5 yX5_sourceAt wsX5_sourceAt) := goodIn_app (goodIn_of _ (by decide +kernel)) ggX6_origin_X5_sourceAt
theorem dX6_origin_0 : decode cX6_origin 0 = .ok (.aload_n 0, 1) := by decide +kernel
theorem dX6_origin_1 : decode cX6_origin 1 = .ok (.iload_n 1, 1) := by decide +kernel
theorem dX6_origin_2 : decode cX6_origin 2 = .ok (.iload_n 2, 1) := by decide +kernel
theorem dX6_origin_3 : decode cX6_origin 3 = .ok (.invokevirtual 210, 3) := by decide +kernel
theorem dX6_origin_6 : decode cX6_origin 6 = .ok (.aload_n 0, 1) := by decide +kernel
theorem dX6_origin_7 : decode cX6_origin 7 = .ok (.getfield 19, 3) := by decide +kernel
theorem dX6_origin_10 : decode cX6_origin 10 = .ok (.iload_n 1, 1) := by decide +kernel
theorem dX6_origin_11 : decode cX6_origin 11 = .ok (.iload_n 2, 1) := by decide +kernel
theorem dX6_origin_12 : decode cX6_origin 12 = .ok (.invokevirtual 219, 3) := by decide +kernel
theorem dX6_origin_15 : decode cX6_origin 15 = .ok (.ireturn, 1) := by decide +kernel
set_option maxRecDepth 20000 in
theorem ggX6_refers_X6_needWord : GoodIn wsX6_refers wsX6_needWord := goodIn_ca (goodIn_r _ [8, 9, 10, 1, 11, 12, 13, 7, 14, 15, 16, 17, 18, 19, 20, 21, 22, 23, 24, 25, 26, 27, 28, 29, 30, 302, 303, 304, 305, 306, 307, 308, 309, 310, 311, 312, 313, 314, 315, 316, 317, 318, 319, 320, 321, 322, 323, 324, 325] (by decide +kernel) (by decide +kernel)) (goodIn_sub (fun _ h => List.mem_cons_of_mem _ (List.mem_append_right _ h)) (by decide +kernel))
set_option maxRecDepth 20000 in
theorem gX6_refers_X6_needWord : GoodIn wsX6_refers (wsV RX6 210 RX6 yX6_needWord wsX6_needWord) := goodIn_app (goodIn_of _ (by decide +kernel)) ggX6_refers_X6_needWord
set_option maxRecDepth 20000 in
theorem ggX6_refers_X5_readAt : GoodIn wsX6_refers wsX5_readAt := goodIn_r _ [34, 21, 22, 23, 24, 19, 25, 26, 27, 28, 29, 30, 35, 36, 37, 38, 39, 40, 41, 310, 311, 312, 313, 314, 315, 316, 317, 318, 319, 320, 321, 322, 323, 324, 325] (by decide +kernel) (by decide +kernel)
set_option maxRecDepth 20000 in
theorem gX6_refers_X5_readAt : GoodIn wsX6_refers (wsV RX6 213 RX5 yX5_readAt wsX5_readAt) := goodIn_app (goodIn_of _ (by decide +kernel)) ggX6_refers_X5_readAt
set_option maxRecDepth 20000 in
theorem ggX6_refers_X5_labelOf : GoodIn wsX6_refers wsX5_labelOf := goodIn_r _ [29, 30, 310, 311, 312, 313, 314, 315, 316, 317, 318, 319, 320, 321, 322] (by decide +kernel) (by decide +kernel)
set_option maxRecDepth 20000 in
theorem gX6_refers_X5_labelOf : GoodIn wsX6_refers (wsV RX6 198 RX5 yX5_labelOf wsX5_labelOf) := goodIn_app (goodIn_of _ (by decide +kernel)) ggX6_refers_X5_labelOf
set_option maxRecDepth 20000 in
theorem ggX6_refers_X5_sourceAt : GoodIn wsX6_refers wsX5_sourceAt := goodIn_r _ [46, 21, 22, 23, 24, 19, 25, 26, 27, 28, 29, 30, 47, 48, 49, 38, 50, 40, 51, 310, 311, 312, 313, 314, 315, 316, 317, 318, 319, 320, 321, 322, 323, 324, 325] (by decide +kernel) (by decide +kernel)
set_option maxRecDepth 20000 in
theorem gX6_refers_X5_sourceAt : GoodIn wsX6_refers (wsV RX6 219 RX5 yX5_sourceAt wsX5_sourceAt) := goodIn_app (goodIn_of _ (by decide +kernel)) ggX6_refers_X5_sourceAt
set_option maxRecDepth 20000 in
theorem ggX6_refers_X5_beginningOf : GoodIn wsX6_refers wsX5_beginningOf := goodIn_r _ [55, 56, 310, 311, 312, 313, 314, 315, 316, 317, 318, 319, 320, 321, 322] (by decide +kernel) (by decide +kernel)
set_option maxRecDepth 20000 in
theorem gX6_refers_X5_beginningOf : GoodIn wsX6_refers (wsV RX6 222 RX5 yX5_beginningOf wsX5_beginningOf) := goodIn_app (goodIn_of _ (by decide +kernel)) ggX6_refers_X5_beginningOf
set_option maxRecDepth 20000 in
theorem ggX6_refers_X5_turnTo : GoodIn wsX6_refers wsX5_turnTo := goodIn_r _ [60, 61, 62, 63, 310, 311, 312, 313, 314, 315, 316, 317, 318, 319, 320, 321, 322] (by decide +kernel) (by decide +kernel)
set_option maxRecDepth 20000 in
theorem gX6_refers_X5_turnTo : GoodIn wsX6_refers (wsV RX6 183 RX5 yX5_turnTo wsX5_turnTo) := goodIn_app (goodIn_of _ (by decide +kernel)) ggX6_refers_X5_turnTo
set_option maxRecDepth 20000 in
theorem ggX6_refers_X5_build : GoodIn wsX6_refers wsX5_build := goodIn_r _ [67, 68, 56, 69, 70, 71, 72, 73, 74, 19, 75, 76, 77, 30, 78, 79, 80, 81, 82, 83, 84, 85, 86, 87, 88, 89, 90, 91, 92, 93, 94, 95, 96, 97, 98, 99, 100, 101, 102, 103, 104, 105, 106, 107, 108, 109, 110, 111, 112, 62, 113, 114, 115, 116, 117, 118, 119, 120, 121, 122, 123, 124, 125, 126, 127, 128, 53, 54, 55, 129, 130, 131, 132, 61, 63, 133, 134, 135, 136, 137, 138, 139, 140, 141, 142, 143, 144, 145, 146, 147, 148, 149, 150, 151, 152, 153, 154, 155, 156, 157, 158, 159, 160, 161, 162, 163, 164, 165, 166, 167, 168, 169, 170, 171, 172, 173, 174, 175, 176, 177, 178, 179, 180, 181, 182, 183, 184, 185, 186, 187, 188, 189, 190, 191, 192, 193, 194, 195, 196, 197, 198, 199, 200, 201, 202, 203, 204, 205, 206, 207, 208, 209, 210, 211, 212, 213, 214, 21, 215, 216, 217, 218, 219, 220, 221, 222, 223, 224, 22, 23, 24, 25, 26, 27, 28, 29, 225, 226, 227, 228, 229, 230, 231, 232, 233, 234, 235, 236, 237, 38, 238, 40, 239, 240, 241, 242, 243, 41, 244, 51, 245, 246, 247, 248, 249, 250, 251, 252, 253, 254, 255, 256, 257, 258, 259, 260, 261, 262, 263, 264, 265, 266, 267, 268, 269, 270, 271, 272, 273, 274, 275, 276, 277, 278, 279, 280, 281, 282, 283, 284, 285, 286, 287, 288, 289, 290, 291, 292, 293, 294, 295, 296, 297, 298, 299, 300, 301, 310, 311, 312, 313, 314, 315, 316, 317, 318, 319, 320, 321, 322, 326, 327, 328, 329, 330, 331, 332, 333, 334, 335, 336, 337, 338, 339, 340, 341, 342, 343, 344, 345, 346, 347, 348, 323, 324, 325, 349, 350] (by decide +kernel) (by decide +kernel)
set_option maxRecDepth 20000 in
theorem gX6_refers_X5_build : GoodIn wsX6_refers (wsV RX6 130 RX5 yX5_build wsX5_build) := goodIn_app (goodIn_of _ (by decide +kernel)) ggX6_refers_X5_build
theorem dX6_refers_0 : decode cX6_refers 0 = .ok (.aload_n 0, 1) := by decide +kernel
theorem dX6_refers_1 : decode cX6_refers 1 = .ok (.iload_n 1, 1) := by decide +kernel
theorem dX6_refers_2 : decode cX6_refers 2 = .ok (.iload_n 2, 1) := by decide +kernel
theorem dX6_refers_3 : decode cX6_refers 3 = .ok (.invokevirtual 210, 3) := by decide +kernel
theorem dX6_refers_6 : decode cX6_refers 6 = .ok (.aload_n 0, 1) := by decide +kernel
theorem dX6_refers_7 : decode cX6_refers 7 = .ok (.getfield 19, 3) := by decide +kernel
theorem dX6_refers_10 : decode cX6_refers 10 = .ok (.iload_n 1, 1) := by decide +kernel
theorem dX6_refers_11 : decode cX6_refers 11 = .ok (.iload_n 2, 1) := by decide +kernel
theorem dX6_refers_12 : decode cX6_refers 12 = .ok (.invokevirtual 213, 3) := by decide +kernel
theorem dX6_refers_15 : decode cX6_refers 15 = .ok (.istore_n 3, 1) := by decide +kernel
theorem dX6_refers_16 : decode cX6_refers 16 = .ok (.iload_n 3, 1) := by decide +kernel
theorem dX6_refers_17 : decode cX6_refers 17 = .ok (.bipush 100, 2) := by decide +kernel
theorem dX6_refers_19 : decode cX6_refers 19 = .ok (.if_icmp .ge 5, 3) := by decide +kernel
theorem dX6_refers_22 : decode cX6_refers 22 = .ok (.iconst (-1), 1) := by decide +kernel
theorem dX6_refers_23 : decode cX6_refers 23 = .ok (.ireturn, 1) := by decide +kernel
theorem dX6_refers_24 : decode cX6_refers 24 = .ok (.iload_n 3, 1) := by decide +kernel
theorem dX6_refers_25 : decode cX6_refers 25 = .ok (.bipush 120, 2) := by decide +kernel
theorem dX6_refers_27 : decode cX6_refers 27 = .ok (.if_icmp .ge 15, 3) := by decide +kernel
theorem dX6_refers_30 : decode cX6_refers 30 = .ok (.aload_n 0, 1) := by decide +kernel
theorem dX6_refers_31 : decode cX6_refers 31 = .ok (.getfield 19, 3) := by decide +kernel
theorem dX6_refers_34 : decode cX6_refers 34 = .ok (.iload_n 3, 1) := by decide +kernel
theorem dX6_refers_35 : decode cX6_refers 35 = .ok (.bipush 100, 2) := by decide +kernel
theorem dX6_refers_37 : decode cX6_refers 37 = .ok (.isub, 1) := by decide +kernel
theorem dX6_refers_38 : decode cX6_refers 38 = .ok (.invokevirtual 198, 3) := by decide +kernel
theorem dX6_refers_41 : decode cX6_refers 41 = .ok (.ireturn, 1) := by decide +kernel
theorem dX6_refers_42 : decode cX6_refers 42 = .ok (.aload_n 0, 1) := by decide +kernel
theorem dX6_refers_43 : decode cX6_refers 43 = .ok (.getfield 19, 3) := by decide +kernel
theorem dX6_refers_46 : decode cX6_refers 46 = .ok (.aload_n 0, 1) := by decide +kernel
theorem dX6_refers_47 : decode cX6_refers 47 = .ok (.getfield 19, 3) := by decide +kernel
theorem dX6_refers_50 : decode cX6_refers 50 = .ok (.iload_n 1, 1) := by decide +kernel
theorem dX6_refers_51 : decode cX6_refers 51 = .ok (.iload_n 2, 1) := by decide +kernel
theorem dX6_refers_52 : decode cX6_refers 52 = .ok (.invokevirtual 219, 3) := by decide +kernel
theorem dX6_refers_55 : decode cX6_refers 55 = .ok (.invokevirtual 222, 3) := by decide +kernel
theorem dX6_refers_58 : decode cX6_refers 58 = .ok (.istore 4, 2) := by decide +kernel
theorem dX6_refers_60 : decode cX6_refers 60 = .ok (.aload_n 0, 1) := by decide +kernel
theorem dX6_refers_61 : decode cX6_refers 61 = .ok (.getfield 23, 3) := by decide +kernel
theorem dX6_refers_64 : decode cX6_refers 64 = .ok (.iload 4, 2) := by decide +kernel
theorem dX6_refers_66 : decode cX6_refers 66 = .ok (.aload_n 0, 1) := by decide +kernel
theorem dX6_refers_67 : decode cX6_refers 67 = .ok (.getfield 19, 3) := by decide +kernel
theorem dX6_refers_70 : decode cX6_refers 70 = .ok (.getfield 225, 3) := by decide +kernel
theorem dX6_refers_73 : decode cX6_refers 73 = .ok (.aload_n 0, 1) := by decide +kernel
theorem dX6_refers_74 : decode cX6_refers 74 = .ok (.getfield 19, 3) := by decide +kernel
theorem dX6_refers_77 : decode cX6_refers 77 = .ok (.getfield 228, 3) := by decide +kernel
theorem dX6_refers_80 : decode cX6_refers 80 = .ok (.invokevirtual 183, 3) := by decide +kernel
theorem dX6_refers_83 : decode cX6_refers 83 = .ok (.aload_n 0, 1) := by decide +kernel
theorem dX6_refers_84 : decode cX6_refers 84 = .ok (.getfield 23, 3) := by decide +kernel
theorem dX6_refers_87 : decode cX6_refers 87 = .ok (.aload_n 0, 1) := by decide +kernel
theorem dX6_refers_88 : decode cX6_refers 88 = .ok (.getfield 10, 3) := by decide +kernel
theorem dX6_refers_91 : decode cX6_refers 91 = .ok (.invokevirtual 130, 3) := by decide +kernel
theorem dX6_refers_94 : decode cX6_refers 94 = .ok (.aload_n 0, 1) := by decide +kernel
theorem dX6_refers_95 : decode cX6_refers 95 = .ok (.getfield 23, 3) := by decide +kernel
theorem dX6_refers_98 : decode cX6_refers 98 = .ok (.iload_n 3, 1) := by decide +kernel
theorem dX6_refers_99 : decode cX6_refers 99 = .ok (.bipush 120, 2) := by decide +kernel
theorem dX6_refers_101 : decode cX6_refers 101 = .ok (.isub, 1) := by decide +kernel
theorem dX6_refers_102 : decode cX6_refers 102 = .ok (.invokevirtual 198, 3) := by decide +kernel
theorem dX6_refers_105 : decode cX6_refers 105 = .ok (.ireturn, 1) := by decide +kernel
set_option maxRecDepth 20000 in
theorem ggX6_state_X6_needInstruction : GoodIn wsX6_state wsX6_needInstruction := goodIn_ca (goodIn_r _ [6, 7, 8, 9, 10, 11, 12, 13, 14, 15, 16, 17, 18, 19, 20, 21, 22, 23, 24, 25, 26, 27, 28, 29, 30, 31, 32, 33, 40, 41, 42, 43, 44, 45, 46, 47, 48, 49, 50] (by decide +kernel) (by decide +kernel)) (goodIn_sub (fun _ h => List.mem_cons_of_mem _ (List.mem_append_right _ h)) (by decide +kernel))
set_option maxRecDepth 20000 in
theorem gX6_state_X6_needInstruction : GoodIn wsX6_state (wsV RX6 67 RX6 yX6_needInstruction wsX6_needInstruction) := goodIn_app (goodIn_of _ (by decide +kernel)) ggX6_state_X6_needInstruction
set_option maxRecDepth 20000 in
theorem ggX6_state_X5_stateOf : GoodIn wsX6_state wsX5_stateOf := goodIn_r _ [38, 39, 51, 52, 53, 54, 55, 56, 57, 58, 59, 60, 61, 62, 63] (by decide +kernel) (by decide +kernel)
set_option maxRecDepth 20000 in
theorem gX6_state_X5_stateOf : GoodIn wsX6_state (wsV RX6 231 RX5 yX5_stateOf wsX5_stateOf) := goodIn_app (goodIn_of _ (by decide +kernel)) ggX6_state_X5_stateOf
theorem dX6_state_0 : decode cX6_state 0 = .ok (.aload_n 0, 1) := by decide +kernel
theorem dX6_state_1 : decode cX6_state 1 = .ok (.iload_n 1, 1) := by decide +kernel
theorem dX6_state_2 : decode cX6_state 2 = .ok (.invokevirtual 67, 3) := by decide +kernel
theorem dX6_state_5 : decode cX6_state 5 = .ok (.pop, 1) := by decide +kernel
theorem dX6_state_6 : decode cX6_state 6 = .ok (.aload_n 0, 1) := by decide +kernel
theorem dX6_state_7 : decode cX6_state 7 = .ok (.getfield 19, 3) := by decide +kernel
theorem dX6_state_10 : decode cX6_state 10 = .ok (.iload_n 1, 1) := by decide +kernel
theorem dX6_state_11 : decode cX6_state 11 = .ok (.invokevirtual 231, 3) := by decide +kernel
theorem dX6_state_14 : decode cX6_state 14 = .ok (.ireturn, 1) := by decide +kernel
set_option maxRecDepth 20000 in
theorem ggX6_commences_X6_needInstruction : GoodIn wsX6_commences wsX6_needInstruction := goodIn_ca (goodIn_r _ [6, 7, 8, 9, 10, 11, 12, 13, 14, 15, 16, 17, 18, 19, 20, 21, 22, 23, 24, 25, 26, 27, 28, 29, 30, 31, 32, 33, 40, 41, 42, 43, 44, 45, 46, 47, 48, 49, 50] (by decide +kernel) (by decide +kernel)) (goodIn_sub (fun _ h => List.mem_cons_of_mem _ (List.mem_append_right _ h)) (by decide +kernel))
set_option maxRecDepth 20000 in
theorem gX6_commences_X6_needInstruction : GoodIn wsX6_commences (wsV RX6 67 RX6 yX6_needInstruction wsX6_needInstruction) := goodIn_app (goodIn_of _ (by decide +kernel)) ggX6_commences_X6_needInstruction
set_option maxRecDepth 20000 in
theorem ggX6_commences_X5_beginningOf : GoodIn wsX6_commences wsX5_beginningOf := goodIn_r _ [38, 39, 51, 52, 53, 54, 55, 56, 57, 58, 59, 60, 61, 62, 63] (by decide +kernel) (by decide +kernel)
set_option maxRecDepth 20000 in
theorem gX6_commences_X5_beginningOf : GoodIn wsX6_commences (wsV RX6 222 RX5 yX5_beginningOf wsX5_beginningOf) := goodIn_app (goodIn_of _ (by decide +kernel)) ggX6_commences_X5_beginningOf
theorem dX6_commences_0 : decode cX6_commences 0 = .ok (.aload_n 0, 1) := by decide +kernel
theorem dX6_commences_1 : decode cX6_commences 1 = .ok (.iload_n 1, 1) := by decide +kernel
theorem dX6_commences_2 : decode cX6_commences 2 = .ok (.invokevirtual 67, 3) := by decide +kernel
theorem dX6_commences_5 : decode cX6_commences 5 = .ok (.pop, 1) := by decide +kernel
theorem dX6_commences_6 : decode cX6_commences 6 = .ok (.aload_n 0, 1) := by decide +kernel
theorem dX6_commences_7 : decode cX6_commences 7 = .ok (.getfield 19, 3) := by decide +kernel
theorem dX6_commences_10 : decode cX6_commences 10 = .ok (.iload_n 1, 1) := by decide +kernel
theorem dX6_commences_11 : decode cX6_commences 11 = .ok (.invokevirtual 222, 3) := by decide +kernel
theorem dX6_commences_14 : decode cX6_commences 14 = .ok (.ireturn, 1) := by decide +kernel
set_option maxRecDepth 20000 in
theorem ggX6_conflicts_X5_countConflicts : GoodIn wsX6_conflicts wsX5_countConflicts := goodIn_r _ [6, 7, 8, 9, 10, 11, 12, 13, 14, 15, 16, 17, 18, 19, 20, 21, 22, 23, 24, 25, 26, 27, 28, 29, 30, 31, 32, 33, 34, 5, 35, 36, 37, 38, 39, 40, 41, 42, 43, 44, 45, 46, 47, 48, 49, 50, 51, 52, 53, 54, 55, 56, 57, 58, 67, 68, 69, 70, 71, 72, 73, 74, 75, 76, 77, 78, 79, 80, 81, 82, 83, 84, 85, 86, 87, 88, 89, 90, 91, 92, 93, 94, 95] (by decide +kernel) (by decide +kernel)
set_option maxRecDepth 20000 in
theorem gX6_conflicts_X5_countConflicts : GoodIn wsX6_conflicts (wsV RX6 234 RX5 yX5_countConflicts wsX5_countConflicts) := goodIn_app (goodIn_of _ (by decide +kernel)) ggX6_conflicts_X5_countConflicts
theorem dX6_conflicts_0 : decode cX6_conflicts 0 = .ok (.aload_n 0, 1) := by decide +kernel
theorem dX6_conflicts_1 : decode cX6_conflicts 1 = .ok (.getfield 19, 3) := by decide +kernel
theorem dX6_conflicts_4 : decode cX6_conflicts 4 = .ok (.invokevirtual 234, 3) := by decide +kernel
theorem dX6_conflicts_7 : decode cX6_conflicts 7 = .ok (.ireturn, 1) := by decide +kernel
set_option maxRecDepth 20000 in
theorem ggX6_print_X5_fold : GoodIn wsX6_print wsX5_fold := goodIn_r _ [6, 7, 8, 9, 10, 11, 12, 13, 5, 14, 15, 16, 17, 18, 19, 20, 21, 22, 23, 24, 25, 26, 27, 28, 29, 30, 31, 32, 33, 34, 35, 36, 37, 38, 39, 40, 41, 42, 43, 44, 53, 54, 55, 56, 57, 58, 59, 60, 61, 62, 63, 64, 65, 66, 67, 68] (by decide +kernel) (by decide +kernel)
set_option maxRecDepth 20000 in
theorem gX6_print_X5_fold : GoodIn wsX6_print (wsV RX6 237 RX5 yX5_fold wsX5_fold) := goodIn_app (goodIn_of _ (by decide +kernel)) ggX6_print_X5_fold
theorem dX6_print_0 : decode cX6_print 0 = .ok (.aload_n 0, 1) := by decide +kernel
theorem dX6_print_1 : decode cX6_print 1 = .ok (.getfield 19, 3) := by decide +kernel
theorem dX6_print_4 : decode cX6_print 4 = .ok (.invokevirtual 237, 3) := by decide +kernel
theorem dX6_print_7 : decode cX6_print 7 = .ok (.lreturn, 1) := by decide +kernel
set_option maxRecDepth 20000 in
theorem ggX6_needInstruction_Jx4a65c_size_8abf5 : GoodIn wsX6_needInstruction wsJx4a65c_size_8abf5 := goodIn_r _ [9, 10, 36, 37, 38] (by decide +kernel) (by decide +kernel)
set_option maxRecDepth 20000 in
theorem gX6_needInstruction_Jx4a65c_size_8abf5 : GoodIn wsX6_needInstruction (wsV RX6 144 RJx4a65c yJx4a65c_size_8abf5 wsJx4a65c_size_8abf5) := goodIn_app (goodIn_of _ (by decide +kernel)) ggX6_needInstruction_Jx4a65c_size_8abf5
set_option maxRecDepth 20000 in
theorem ggX6_needInstruction_Jx4a65c_get_915e3 : GoodIn wsX6_needInstruction wsJx4a65c_get_915e3 := goodIn_r _ [14, 10, 15, 16, 17, 18, 19, 20, 21, 22, 23, 24, 25, 8, 26, 27, 36, 37, 38] (by decide +kernel) (by decide +kernel)
set_option maxRecDepth 20000 in
theorem gX6_needInstruction_Jx4a65c_get_915e3 : GoodIn wsX6_needInstruction (wsV RX6 243 RJx4a65c yJx4a65c_get_915e3 wsJx4a65c_get_915e3) := goodIn_app (goodIn_of _ (by decide +kernel)) ggX6_needInstruction_Jx4a65c_get_915e3
theorem dX6_needInstruction_0 : decode cX6_needInstruction 0 = .ok (.iload_n 1, 1) := by decide +kernel
theorem dX6_needInstruction_1 : decode cX6_needInstruction 1 = .ok (.ifCond .lt 14, 3) := by decide +kernel
theorem dX6_needInstruction_4 : decode cX6_needInstruction 4 = .ok (.iload_n 1, 1) := by decide +kernel
theorem dX6_needInstruction_5 : decode cX6_needInstruction 5 = .ok (.aload_n 0, 1) := by decide +kernel
theorem dX6_needInstruction_6 : decode cX6_needInstruction 6 = .ok (.getfield 10, 3) := by decide +kernel
theorem dX6_needInstruction_9 : decode cX6_needInstruction 9 = .ok (.invokevirtual 144, 3) := by decide +kernel
theorem dX6_needInstruction_12 : decode cX6_needInstruction 12 = .ok (.if_icmp .lt 13, 3) := by decide +kernel
theorem dX6_needInstruction_15 : decode cX6_needInstruction 15 = .ok (.new 189, 3) := by decide +kernel
theorem dX6_needInstruction_18 : decode cX6_needInstruction 18 = .ok (.dup, 1) := by decide +kernel
theorem dX6_needInstruction_19 : decode cX6_needInstruction 19 = .ok (.ldc 241, 2) := by decide +kernel
theorem dX6_needInstruction_21 : decode cX6_needInstruction 21 = .ok (.invokespecial 193, 3) := by decide +kernel
theorem dX6_needInstruction_24 : decode cX6_needInstruction 24 = .ok (.athrow, 1) := by decide +kernel
theorem dX6_needInstruction_25 : decode cX6_needInstruction 25 = .ok (.aload_n 0, 1) := by decide +kernel
theorem dX6_needInstruction_26 : decode cX6_needInstruction 26 = .ok (.getfield 10, 3) := by decide +kernel
theorem dX6_needInstruction_29 : decode cX6_needInstruction 29 = .ok (.iload_n 1, 1) := by decide +kernel
theorem dX6_needInstruction_30 : decode cX6_needInstruction 30 = .ok (.invokevirtual 243, 3) := by decide +kernel
theorem dX6_needInstruction_33 : decode cX6_needInstruction 33 = .ok (.checkcast 26, 3) := by decide +kernel
theorem dX6_needInstruction_36 : decode cX6_needInstruction 36 = .ok (.areturn, 1) := by decide +kernel
theorem dX6_needProvision_0 : decode cX6_needProvision 0 = .ok (.iload_n 1, 1) := by decide +kernel
theorem dX6_needProvision_1 : decode cX6_needProvision 1 = .ok (.ifCond .lt 11, 3) := by decide +kernel
theorem dX6_needProvision_4 : decode cX6_needProvision 4 = .ok (.iload_n 1, 1) := by decide +kernel
theorem dX6_needProvision_5 : decode cX6_needProvision 5 = .ok (.aload_n 0, 1) := by decide +kernel
theorem dX6_needProvision_6 : decode cX6_needProvision 6 = .ok (.getfield 50, 3) := by decide +kernel
theorem dX6_needProvision_9 : decode cX6_needProvision 9 = .ok (.if_icmp .lt 13, 3) := by decide +kernel
theorem dX6_needProvision_12 : decode cX6_needProvision 12 = .ok (.new 189, 3) := by decide +kernel
theorem dX6_needProvision_15 : decode cX6_needProvision 15 = .ok (.dup, 1) := by decide +kernel
theorem dX6_needProvision_16 : decode cX6_needProvision 16 = .ok (.ldc 247, 2) := by decide +kernel
theorem dX6_needProvision_18 : decode cX6_needProvision 18 = .ok (.invokespecial 193, 3) := by decide +kernel
theorem dX6_needProvision_21 : decode cX6_needProvision 21 = .ok (.athrow, 1) := by decide +kernel
theorem dX6_needProvision_22 : decode cX6_needProvision 22 = .ok (.return_, 1) := by decide +kernel
set_option maxRecDepth 20000 in
theorem ggX6_needProvisionOrTop_X6_needProvision : GoodIn wsX6_needProvisionOrTop wsX6_needProvision := goodIn_ca (goodIn_r _ [5, 6, 7, 8, 9, 10, 11, 12, 13, 14, 15, 16] (by decide +kernel) (by decide +kernel)) (goodIn_sub (fun _ h => List.mem_cons_of_mem _ (List.mem_append_right _ h)) (by decide +kernel))
set_option maxRecDepth 20000 in
theorem gX6_needProvisionOrTop_X6_needProvision : GoodIn wsX6_needProvisionOrTop (wsV RX6 134 RX6 yX6_needProvision wsX6_needProvision) := goodIn_app (goodIn_of _ (by decide +kernel)) ggX6_needProvisionOrTop_X6_needProvision
theorem dX6_needProvisionOrTop_0 : decode cX6_needProvisionOrTop 0 = .ok (.iload_n 1, 1) := by decide +kernel
theorem dX6_needProvisionOrTop_1 : decode cX6_needProvisionOrTop 1 = .ok (.iconst (-1), 1) := by decide +kernel
theorem dX6_needProvisionOrTop_2 : decode cX6_needProvisionOrTop 2 = .ok (.if_icmp .eq 8, 3) := by decide +kernel
theorem dX6_needProvisionOrTop_5 : decode cX6_needProvisionOrTop 5 = .ok (.aload_n 0, 1) := by decide +kernel
theorem dX6_needProvisionOrTop_6 : decode cX6_needProvisionOrTop 6 = .ok (.iload_n 1, 1) := by decide +kernel
theorem dX6_needProvisionOrTop_7 : decode cX6_needProvisionOrTop 7 = .ok (.invokevirtual 134, 3) := by decide +kernel
theorem dX6_needProvisionOrTop_10 : decode cX6_needProvisionOrTop 10 = .ok (.return_, 1) := by decide +kernel
set_option maxRecDepth 20000 in
theorem ggX6_needWord_X6_needProvision : GoodIn wsX6_needWord wsX6_needProvision := goodIn_ca (goodIn_r _ [8, 1, 2, 9, 25, 26, 27, 28, 29, 30, 31, 32] (by decide +kernel) (by decide +kernel)) (goodIn_sub (fun _ h => List.mem_cons_of_mem _ (List.mem_append_right _ h)) (by decide +kernel))
set_option maxRecDepth 20000 in
theorem gX6_needWord_X6_needProvision : GoodIn wsX6_needWord (wsV RX6 134 RX6 yX6_needProvision wsX6_needProvision) := goodIn_app (goodIn_of _ (by decide +kernel)) ggX6_needWord_X6_needProvision
set_option maxRecDepth 20000 in
theorem ggX6_needWord_X5_countOf : GoodIn wsX6_needWord wsX5_countOf := goodIn_r _ [14, 15, 16, 17, 18, 13, 19, 20, 21, 22, 23, 24, 33, 34, 35, 36, 37, 38, 39, 40, 41, 42, 43, 44, 45, 46, 47, 48] (by decide +kernel) (by decide +kernel)
set_option maxRecDepth 20000 in
theorem gX6_needWord_X5_countOf : GoodIn wsX6_needWord (wsV RX6 207 RX5 yX5_countOf wsX5_countOf) := goodIn_app (goodIn_of _ (by decide +kernel)) ggX6_needWord_X5_countOf
theorem dX6_needWord_0 : decode cX6_needWord 0 = .ok (.aload_n 0, 1) := by decide +kernel
theorem dX6_needWord_1 : decode cX6_needWord 1 = .ok (.iload_n 1, 1) := by decide +kernel
theorem dX6_needWord_2 : decode cX6_needWord 2 = .ok (.invokevirtual 134, 3) := by decide +kernel
theorem dX6_needWord_5 : decode cX6_needWord 5 = .ok (.iload_n 2, 1) := by decide +kernel
theorem dX6_needWord_6 : decode cX6_needWord 6 = .ok (.ifCond .lt 15, 3) := by decide +kernel
theorem dX6_needWord_9 : decode cX6_needWord 9 = .ok (.iload_n 2, 1) := by decide +kernel
theorem dX6_needWord_10 : decode cX6_needWord 10 = .ok (.aload_n 0, 1) := by decide +kernel
theorem dX6_needWord_11 : decode cX6_needWord 11 = .ok (.getfield 19, 3) := by decide +kernel
theorem dX6_needWord_14 : decode cX6_needWord 14 = .ok (.iload_n 1, 1) := by decide +kernel
theorem dX6_needWord_15 : decode cX6_needWord 15 = .ok (.invokevirtual 207, 3) := by decide +kernel
theorem dX6_needWord_18 : decode cX6_needWord 18 = .ok (.if_icmp .lt 13, 3) := by decide +kernel
theorem dX6_needWord_21 : decode cX6_needWord 21 = .ok (.new 189, 3) := by decide +kernel
theorem dX6_needWord_24 : decode cX6_needWord 24 = .ok (.dup, 1) := by decide +kernel
theorem dX6_needWord_25 : decode cX6_needWord 25 = .ok (.ldc 191, 2) := by decide +kernel
theorem dX6_needWord_27 : decode cX6_needWord 27 = .ok (.invokespecial 193, 3) := by decide +kernel
theorem dX6_needWord_30 : decode cX6_needWord 30 = .ok (.athrow, 1) := by decide +kernel
theorem dX6_needWord_31 : decode cX6_needWord 31 = .ok (.return_, 1) := by decide +kernel
theorem dX6_needDay_0 : decode cX6_needDay 0 = .ok (.iload_n 0, 1) := by decide +kernel
theorem dX6_needDay_1 : decode cX6_needDay 1 = .ok (.ifCond .lt 10, 3) := by decide +kernel
theorem dX6_needDay_4 : decode cX6_needDay 4 = .ok (.iload_n 0, 1) := by decide +kernel
theorem dX6_needDay_5 : decode cX6_needDay 5 = .ok (.sipush 5000, 3) := by decide +kernel
theorem dX6_needDay_8 : decode cX6_needDay 8 = .ok (.if_icmp .le 13, 3) := by decide +kernel
theorem dX6_needDay_11 : decode cX6_needDay 11 = .ok (.new 53, 3) := by decide +kernel
theorem dX6_needDay_14 : decode cX6_needDay 14 = .ok (.dup, 1) := by decide +kernel
theorem dX6_needDay_15 : decode cX6_needDay 15 = .ok (.ldc 249, 2) := by decide +kernel
theorem dX6_needDay_17 : decode cX6_needDay 17 = .ok (.invokespecial 57, 3) := by decide +kernel
theorem dX6_needDay_20 : decode cX6_needDay 20 = .ok (.athrow, 1) := by decide +kernel
theorem dX6_needDay_21 : decode cX6_needDay 21 = .ok (.return_, 1) := by decide +kernel
theorem dX6_needLabel_0 : decode cX6_needLabel 0 = .ok (.iload_n 0, 1) := by decide +kernel
theorem dX6_needLabel_1 : decode cX6_needLabel 1 = .ok (.iconst 1, 1) := by decide +kernel
theorem dX6_needLabel_2 : decode cX6_needLabel 2 = .ok (.if_icmp .lt 9, 3) := by decide +kernel
theorem dX6_needLabel_5 : decode cX6_needLabel 5 = .ok (.iload_n 0, 1) := by decide +kernel
theorem dX6_needLabel_6 : decode cX6_needLabel 6 = .ok (.bipush 99, 2) := by decide +kernel
theorem dX6_needLabel_8 : decode cX6_needLabel 8 = .ok (.if_icmp .le 13, 3) := by decide +kernel
theorem dX6_needLabel_11 : decode cX6_needLabel 11 = .ok (.new 53, 3) := by decide +kernel
theorem dX6_needLabel_14 : decode cX6_needLabel 14 = .ok (.dup, 1) := by decide +kernel
theorem dX6_needLabel_15 : decode cX6_needLabel 15 = .ok (.ldc 251, 2) := by decide +kernel
theorem dX6_needLabel_17 : decode cX6_needLabel 17 = .ok (.invokespecial 57, 3) := by decide +kernel
theorem dX6_needLabel_20 : decode cX6_needLabel 20 = .ok (.athrow, 1) := by decide +kernel
theorem dX6_needLabel_21 : decode cX6_needLabel 21 = .ok (.iload_n 1, 1) := by decide +kernel
theorem dX6_needLabel_22 : decode cX6_needLabel 22 = .ok (.ifCond .lt 10, 3) := by decide +kernel
theorem dX6_needLabel_25 : decode cX6_needLabel 25 = .ok (.iload_n 1, 1) := by decide +kernel
theorem dX6_needLabel_26 : decode cX6_needLabel 26 = .ok (.sipush 728, 3) := by decide +kernel
theorem dX6_needLabel_29 : decode cX6_needLabel 29 = .ok (.if_icmp .le 13, 3) := by decide +kernel
theorem dX6_needLabel_32 : decode cX6_needLabel 32 = .ok (.new 53, 3) := by decide +kernel
theorem dX6_needLabel_35 : decode cX6_needLabel 35 = .ok (.dup, 1) := by decide +kernel
theorem dX6_needLabel_36 : decode cX6_needLabel 36 = .ok (.ldc 253, 2) := by decide +kernel
theorem dX6_needLabel_38 : decode cX6_needLabel 38 = .ok (.invokespecial 57, 3) := by decide +kernel
theorem dX6_needLabel_41 : decode cX6_needLabel 41 = .ok (.athrow, 1) := by decide +kernel
theorem dX6_needLabel_42 : decode cX6_needLabel 42 = .ok (.iload_n 1, 1) := by decide +kernel
theorem dX6_needLabel_43 : decode cX6_needLabel 43 = .ok (.ifCond .le 20, 3) := by decide +kernel
theorem dX6_needLabel_46 : decode cX6_needLabel 46 = .ok (.iload_n 1, 1) := by decide +kernel
theorem dX6_needLabel_47 : decode cX6_needLabel 47 = .ok (.bipush 27, 2) := by decide +kernel
theorem dX6_needLabel_49 : decode cX6_needLabel 49 = .ok (.irem, 1) := by decide +kernel
theorem dX6_needLabel_50 : decode cX6_needLabel 50 = .ok (.ifCond .ne 13, 3) := by decide +kernel
theorem dX6_needLabel_53 : decode cX6_needLabel 53 = .ok (.new 53, 3) := by decide +kernel
theorem dX6_needLabel_56 : decode cX6_needLabel 56 = .ok (.dup, 1) := by decide +kernel
theorem dX6_needLabel_57 : decode cX6_needLabel 57 = .ok (.ldc 255, 2) := by decide +kernel
theorem dX6_needLabel_59 : decode cX6_needLabel 59 = .ok (.invokespecial 57, 3) := by decide +kernel
theorem dX6_needLabel_62 : decode cX6_needLabel 62 = .ok (.athrow, 1) := by decide +kernel
theorem dX6_needLabel_63 : decode cX6_needLabel 63 = .ok (.return_, 1) := by decide +kernel
set_option maxRecDepth 20000 in
theorem ggX6_needRoomInAct_Jx4a65c_size_8abf5 : GoodIn wsX6_needRoomInAct wsJx4a65c_size_8abf5 := goodIn_r _ [10, 11, 20, 21, 22] (by decide +kernel) (by decide +kernel)
set_option maxRecDepth 20000 in
theorem gX6_needRoomInAct_Jx4a65c_size_8abf5 : GoodIn wsX6_needRoomInAct (wsV RX6 144 RJx4a65c yJx4a65c_size_8abf5 wsJx4a65c_size_8abf5) := goodIn_app (goodIn_of _ (by decide +kernel)) ggX6_needRoomInAct_Jx4a65c_size_8abf5
theorem dX6_needRoomInAct_0 : decode cX6_needRoomInAct 0 = .ok (.aload_n 0, 1) := by decide +kernel
theorem dX6_needRoomInAct_1 : decode cX6_needRoomInAct 1 = .ok (.getfield 47, 3) := by decide +kernel
theorem dX6_needRoomInAct_4 : decode cX6_needRoomInAct 4 = .ok (.aload_n 0, 1) := by decide +kernel
theorem dX6_needRoomInAct_5 : decode cX6_needRoomInAct 5 = .ok (.getfield 40, 3) := by decide +kernel
theorem dX6_needRoomInAct_8 : decode cX6_needRoomInAct 8 = .ok (.if_icmp .eq 14, 3) := by decide +kernel
theorem dX6_needRoomInAct_11 : decode cX6_needRoomInAct 11 = .ok (.new 60, 3) := by decide +kernel
theorem dX6_needRoomInAct_14 : decode cX6_needRoomInAct 14 = .ok (.dup, 1) := by decide +kernel
theorem dX6_needRoomInAct_15 : decode cX6_needRoomInAct 15 = .ok (.ldc_w 257, 3) := by decide +kernel
theorem dX6_needRoomInAct_18 : decode cX6_needRoomInAct 18 = .ok (.invokespecial 64, 3) := by decide +kernel
theorem dX6_needRoomInAct_21 : decode cX6_needRoomInAct 21 = .ok (.athrow, 1) := by decide +kernel
theorem dX6_needRoomInAct_22 : decode cX6_needRoomInAct 22 = .ok (.aload_n 0, 1) := by decide +kernel
theorem dX6_needRoomInAct_23 : decode cX6_needRoomInAct 23 = .ok (.getfield 10, 3) := by decide +kernel
theorem dX6_needRoomInAct_26 : decode cX6_needRoomInAct 26 = .ok (.invokevirtual 144, 3) := by decide +kernel
theorem dX6_needRoomInAct_29 : decode cX6_needRoomInAct 29 = .ok (.bipush 40, 2) := by decide +kernel
theorem dX6_needRoomInAct_31 : decode cX6_needRoomInAct 31 = .ok (.if_icmp .lt 14, 3) := by decide +kernel
theorem dX6_needRoomInAct_34 : decode cX6_needRoomInAct 34 = .ok (.new 60, 3) := by decide +kernel
theorem dX6_needRoomInAct_37 : decode cX6_needRoomInAct 37 = .ok (.dup, 1) := by decide +kernel
theorem dX6_needRoomInAct_38 : decode cX6_needRoomInAct 38 = .ok (.ldc_w 259, 3) := by decide +kernel
theorem dX6_needRoomInAct_41 : decode cX6_needRoomInAct 41 = .ok (.invokespecial 64, 3) := by decide +kernel
theorem dX6_needRoomInAct_44 : decode cX6_needRoomInAct 44 = .ok (.athrow, 1) := by decide +kernel
theorem dX6_needRoomInAct_45 : decode cX6_needRoomInAct 45 = .ok (.return_, 1) := by decide +kernel
theorem dX6_joinLabel_0 : decode cX6_joinLabel 0 = .ok (.sipush 1000, 3) := by decide +kernel
theorem dX6_joinLabel_3 : decode cX6_joinLabel 3 = .ok (.iload_n 0, 1) := by decide +kernel
theorem dX6_joinLabel_4 : decode cX6_joinLabel 4 = .ok (.imul, 1) := by decide +kernel
theorem dX6_joinLabel_5 : decode cX6_joinLabel 5 = .ok (.iload_n 1, 1) := by decide +kernel
theorem dX6_joinLabel_6 : decode cX6_joinLabel 6 = .ok (.iadd, 1) := by decide +kernel
theorem dX6_joinLabel_7 : decode cX6_joinLabel 7 = .ok (.ireturn, 1) := by decide +kernel
set_option maxRecDepth 20000 in
theorem ggX6_add_Jx4a65c_size_8abf5 : GoodIn wsX6_add wsJx4a65c_size_8abf5 := goodIn_r _ [18, 19, 132, 133, 134] (by decide +kernel) (by decide +kernel)
set_option maxRecDepth 20000 in
theorem gX6_add_Jx4a65c_size_8abf5 : GoodIn wsX6_add (wsV RX6 144 RJx4a65c yJx4a65c_size_8abf5 wsJx4a65c_size_8abf5) := goodIn_app (goodIn_of _ (by decide +kernel)) ggX6_add_Jx4a65c_size_8abf5
set_option maxRecDepth 20000 in
theorem ggX6_add_Jx4a65c_add_9ea2d : GoodIn wsX6_add wsJx4a65c_add_9ea2d := goodIn_r _ [23, 24, 25, 26, 19, 27, 28, 29, 17, 30, 31, 32, 33, 34, 35, 36, 37, 38, 39, 40, 41, 42, 43, 44, 45, 46, 47, 48, 49, 50, 51, 52, 53, 54, 55, 56, 57, 58, 59, 60, 61, 62, 63, 64, 65, 66, 67, 68, 69, 70, 71, 72, 73, 132, 133, 134] (by decide +kernel) (by decide +kernel)
set_option maxRecDepth 20000 in
theorem gX6_add_Jx4a65c_add_9ea2d : GoodIn wsX6_add (wsV RX6 276 RJx4a65c yJx4a65c_add_9ea2d wsJx4a65c_add_9ea2d) := goodIn_app (goodIn_of _ (by decide +kernel)) ggX6_add_Jx4a65c_add_9ea2d
set_option maxRecDepth 20000 in
theorem ggX6_add_X0_init : GoodIn wsX6_add wsX0_init := goodIn_r _ [76, 77, 78, 79, 80, 81, 82, 83, 84, 85, 86, 87, 88, 89, 90, 91, 92, 93, 94, 95, 96, 97, 98, 99, 100, 101, 102, 103, 104, 105, 106, 107, 108, 109, 110, 119, 120, 121, 122, 123, 124, 125, 126, 127, 128, 129, 130, 131, 135, 136, 137, 138, 139] (by decide +kernel) (by decide +kernel)
set_option maxRecDepth 20000 in
theorem gX6_add_X0_init : GoodIn wsX6_add (wsX0_init) := ggX6_add_X0_init
theorem dX6_add_0 : decode cX6_add 0 = .ok (.aload_n 0, 1) := by decide +kernel
theorem dX6_add_1 : decode cX6_add 1 = .ok (.getfield 36, 3) := by decide +kernel
theorem dX6_add_4 : decode cX6_add 4 = .ok (.aload_n 0, 1) := by decide +kernel
theorem dX6_add_5 : decode cX6_add 5 = .ok (.getfield 10, 3) := by decide +kernel
theorem dX6_add_8 : decode cX6_add 8 = .ok (.invokevirtual 144, 3) := by decide +kernel
theorem dX6_add_11 : decode cX6_add 11 = .ok (.putfield 261, 3) := by decide +kernel
theorem dX6_add_14 : decode cX6_add 14 = .ok (.aload_n 0, 1) := by decide +kernel
theorem dX6_add_15 : decode cX6_add 15 = .ok (.getfield 36, 3) := by decide +kernel
theorem dX6_add_18 : decode cX6_add 18 = .ok (.aload_n 0, 1) := by decide +kernel
theorem dX6_add_19 : decode cX6_add 19 = .ok (.getfield 44, 3) := by decide +kernel
theorem dX6_add_22 : decode cX6_add 22 = .ok (.iconst 1, 1) := by decide +kernel
theorem dX6_add_23 : decode cX6_add 23 = .ok (.isub, 1) := by decide +kernel
theorem dX6_add_24 : decode cX6_add 24 = .ok (.putfield 264, 3) := by decide +kernel
theorem dX6_add_27 : decode cX6_add 27 = .ok (.aload_n 0, 1) := by decide +kernel
theorem dX6_add_28 : decode cX6_add 28 = .ok (.getfield 36, 3) := by decide +kernel
theorem dX6_add_31 : decode cX6_add 31 = .ok (.aload_n 0, 1) := by decide +kernel
theorem dX6_add_32 : decode cX6_add 32 = .ok (.getfield 40, 3) := by decide +kernel
theorem dX6_add_35 : decode cX6_add 35 = .ok (.putfield 267, 3) := by decide +kernel
theorem dX6_add_38 : decode cX6_add 38 = .ok (.aload_n 0, 1) := by decide +kernel
theorem dX6_add_39 : decode cX6_add 39 = .ok (.getfield 36, 3) := by decide +kernel
theorem dX6_add_42 : decode cX6_add 42 = .ok (.iload_n 1, 1) := by decide +kernel
theorem dX6_add_43 : decode cX6_add 43 = .ok (.putfield 270, 3) := by decide +kernel
theorem dX6_add_46 : decode cX6_add 46 = .ok (.aload_n 0, 1) := by decide +kernel
theorem dX6_add_47 : decode cX6_add 47 = .ok (.getfield 36, 3) := by decide +kernel
theorem dX6_add_50 : decode cX6_add 50 = .ok (.iload_n 2, 1) := by decide +kernel
theorem dX6_add_51 : decode cX6_add 51 = .ok (.putfield 273, 3) := by decide +kernel
theorem dX6_add_54 : decode cX6_add 54 = .ok (.aload_n 0, 1) := by decide +kernel
theorem dX6_add_55 : decode cX6_add 55 = .ok (.getfield 10, 3) := by decide +kernel
theorem dX6_add_58 : decode cX6_add 58 = .ok (.aload_n 0, 1) := by decide +kernel
theorem dX6_add_59 : decode cX6_add 59 = .ok (.getfield 36, 3) := by decide +kernel
theorem dX6_add_62 : decode cX6_add 62 = .ok (.invokevirtual 276, 3) := by decide +kernel
theorem dX6_add_65 : decode cX6_add 65 = .ok (.pop, 1) := by decide +kernel
theorem dX6_add_66 : decode cX6_add 66 = .ok (.aload_n 0, 1) := by decide +kernel
theorem dX6_add_67 : decode cX6_add 67 = .ok (.new 26, 3) := by decide +kernel
theorem dX6_add_70 : decode cX6_add 70 = .ok (.dup, 1) := by decide +kernel
theorem dX6_add_71 : decode cX6_add 71 = .ok (.aload_n 0, 1) := by decide +kernel
theorem dX6_add_72 : decode cX6_add 72 = .ok (.getfield 36, 3) := by decide +kernel
theorem dX6_add_75 : decode cX6_add 75 = .ok (.getfield 79, 3) := by decide +kernel
theorem dX6_add_78 : decode cX6_add 78 = .ok (.invokespecial 33, 3) := by decide +kernel
theorem dX6_add_81 : decode cX6_add 81 = .ok (.putfield 36, 3) := by decide +kernel
theorem dX6_add_84 : decode cX6_add 84 = .ok (.return_, 1) := by decide +kernel
