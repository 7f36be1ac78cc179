theorem dX7_print_109 : decode cX7_print 109 = .ok (.iinc 4 1, 3) := by decide +kernel
theorem dX7_print_112 : decode cX7_print 112 = .ok (.goto (-52), 3) := by decide +kernel
theorem dX7_print_115 : decode cX7_print 115 = .ok (.aload_n 0, 1) := by decide +kernel
theorem dX7_print_116 : decode cX7_print 116 = .ok (.iload_n 3, 1) := by decide +kernel
theorem dX7_print_117 : decode cX7_print 117 = .ok (.invokevirtual 278, 3) := by decide +kernel
theorem dX7_print_120 : decode cX7_print 120 = .ok (.istore_n 3, 1) := by decide +kernel
theorem dX7_print_121 : decode cX7_print 121 = .ok (.goto (-102), 3) := by decide +kernel
theorem dX7_print_124 : decode cX7_print 124 = .ok (.lload_n 1, 1) := by decide +kernel
theorem dX7_print_125 : decode cX7_print 125 = .ok (.lreturn, 1) := by decide +kernel
set_option maxRecDepth 20000 in
theorem ggL_pass_X6_pass : GoodIn wsL_pass wsX6_pass := goodIn_ca (goodIn_ca (goodIn_r _ [7, 8, 9, 10, 11, 12, 13, 14, 15, 16, 17, 18, 19, 20] (by decide +kernel) (by decide +kernel)) (goodIn_sub (fun _ h => List.mem_cons_of_mem _ (List.mem_append_left _ (List.mem_append_right _ h))) (by decide +kernel))) (goodIn_sub (fun _ h => List.mem_cons_of_mem _ (List.mem_append_right _ h)) (by decide +kernel))
set_option maxRecDepth 20000 in
theorem gL_pass_X6_pass : GoodIn wsL_pass (wsV RL 7 RX6 yX6_pass wsX6_pass) := goodIn_app (goodIn_of _ (by decide +kernel)) ggL_pass_X6_pass
theorem dL_pass_0 : decode cL_pass 0 = .ok (.aload_n 2, 1) := by decide +kernel
theorem dL_pass_1 : decode cL_pass 1 = .ok (.iconst 0, 1) := by decide +kernel
theorem dL_pass_2 : decode cL_pass 2 = .ok (.aload_n 0, 1) := by decide +kernel
theorem dL_pass_3 : decode cL_pass 3 = .ok (.iload_n 1, 1) := by decide +kernel
theorem dL_pass_4 : decode cL_pass 4 = .ok (.invokevirtual 7, 3) := by decide +kernel
theorem dL_pass_7 : decode cL_pass 7 = .ok (.i2l, 1) := by decide +kernel
theorem dL_pass_8 : decode cL_pass 8 = .ok (.lastore, 1) := by decide +kernel
theorem dL_pass_9 : decode cL_pass 9 = .ok (.goto 9, 3) := by decide +kernel
theorem dL_pass_12 : decode cL_pass 12 = .ok (.astore_n 3, 1) := by decide +kernel
theorem dL_pass_13 : decode cL_pass 13 = .ok (.iconst 1, 1) := by decide +kernel
theorem dL_pass_14 : decode cL_pass 14 = .ok (.ireturn, 1) := by decide +kernel
theorem dL_pass_15 : decode cL_pass 15 = .ok (.astore_n 3, 1) := by decide +kernel
theorem dL_pass_16 : decode cL_pass 16 = .ok (.iconst 2, 1) := by decide +kernel
theorem dL_pass_17 : decode cL_pass 17 = .ok (.ireturn, 1) := by decide +kernel
theorem dL_pass_18 : decode cL_pass 18 = .ok (.iconst 0, 1) := by decide +kernel
theorem dL_pass_19 : decode cL_pass 19 = .ok (.ireturn, 1) := by decide +kernel
set_option maxRecDepth 20000 in
theorem ggL_act_X6_act : GoodIn wsL_act wsX6_act := goodIn_ca (goodIn_r _ [6, 7, 8, 9, 10, 11, 12, 13, 14, 15, 16, 17, 18, 19] (by decide +kernel) (by decide +kernel)) (goodIn_sub (fun _ h => List.mem_cons_of_mem _ (List.mem_append_right _ h)) (by decide +kernel))
set_option maxRecDepth 20000 in
theorem gL_act_X6_act : GoodIn wsL_act (wsV RL 17 RX6 yX6_act wsX6_act) := goodIn_app (goodIn_of _ (by decide +kernel)) ggL_act_X6_act
theorem dL_act_0 : decode cL_act 0 = .ok (.aload_n 1, 1) := by decide +kernel
theorem dL_act_1 : decode cL_act 1 = .ok (.iconst 0, 1) := by decide +kernel
theorem dL_act_2 : decode cL_act 2 = .ok (.aload_n 0, 1) := by decide +kernel
theorem dL_act_3 : decode cL_act 3 = .ok (.invokevirtual 17, 3) := by decide +kernel
theorem dL_act_6 : decode cL_act 6 = .ok (.i2l, 1) := by decide +kernel
theorem dL_act_7 : decode cL_act 7 = .ok (.lastore, 1) := by decide +kernel
theorem dL_act_8 : decode cL_act 8 = .ok (.goto 6, 3) := by decide +kernel
theorem dL_act_11 : decode cL_act 11 = .ok (.astore_n 2, 1) := by decide +kernel
theorem dL_act_12 : decode cL_act 12 = .ok (.iconst 1, 1) := by decide +kernel
theorem dL_act_13 : decode cL_act 13 = .ok (.ireturn, 1) := by decide +kernel
theorem dL_act_14 : decode cL_act 14 = .ok (.iconst 0, 1) := by decide +kernel
theorem dL_act_15 : decode cL_act 15 = .ok (.ireturn, 1) := by decide +kernel
set_option maxRecDepth 20000 in
theorem ggL_terms_X6_terms : GoodIn wsL_terms wsX6_terms := goodIn_ca (goodIn_ca (goodIn_r _ [7, 8, 9, 10, 11, 12, 13, 14, 15, 16, 17, 6, 18, 19, 20, 21, 22, 23, 24, 25, 26, 27, 28, 29, 30, 31, 32, 33, 34, 35, 36, 37, 38, 39, 40, 41, 42, 43, 44, 45, 46, 47, 48, 49, 50, 51, 52, 53, 54, 55, 56, 57, 58, 59, 60, 61, 62, 63, 64, 65, 66, 67, 68, 69, 70, 71, 72, 73, 74, 75, 76, 77, 78, 79, 80, 81, 82, 83, 84, 85, 86] (by decide +kernel) (by decide +kernel)) (goodIn_sub (fun _ h => List.mem_cons_of_mem _ (List.mem_append_left _ (List.mem_append_right _ h))) (by decide +kernel))) (goodIn_sub (fun _ h => List.mem_cons_of_mem _ (List.mem_append_right _ h)) (by decide +kernel))
set_option maxRecDepth 20000 in
theorem gL_terms_X6_terms : GoodIn wsL_terms (wsV RL 21 RX6 yX6_terms wsX6_terms) := goodIn_app (goodIn_of _ (by decide +kernel)) ggL_terms_X6_terms
theorem dL_terms_0 : decode cL_terms 0 = .ok (.aload_n 0, 1) := by decide +kernel
theorem dL_terms_1 : decode cL_terms 1 = .ok (.iload_n 1, 1) := by decide +kernel
theorem dL_terms_2 : decode cL_terms 2 = .ok (.iload_n 2, 1) := by decide +kernel
theorem dL_terms_3 : decode cL_terms 3 = .ok (.iload_n 3, 1) := by decide +kernel
theorem dL_terms_4 : decode cL_terms 4 = .ok (.iload 4, 2) := by decide +kernel
theorem dL_terms_6 : decode cL_terms 6 = .ok (.invokevirtual 21, 3) := by decide +kernel
theorem dL_terms_9 : decode cL_terms 9 = .ok (.goto 11, 3) := by decide +kernel
theorem dL_terms_12 : decode cL_terms 12 = .ok (.astore 5, 2) := by decide +kernel
theorem dL_terms_14 : decode cL_terms 14 = .ok (.iconst 1, 1) := by decide +kernel
theorem dL_terms_15 : decode cL_terms 15 = .ok (.ireturn, 1) := by decide +kernel
theorem dL_terms_16 : decode cL_terms 16 = .ok (.astore 5, 2) := by decide +kernel
theorem dL_terms_18 : decode cL_terms 18 = .ok (.iconst 2, 1) := by decide +kernel
theorem dL_terms_19 : decode cL_terms 19 = .ok (.ireturn, 1) := by decide +kernel
theorem dL_terms_20 : decode cL_terms 20 = .ok (.iconst 0, 1) := by decide +kernel
theorem dL_terms_21 : decode cL_terms 21 = .ok (.ireturn, 1) := by decide +kernel
set_option maxRecDepth 20000 in
theorem ggL_word_X6_word : GoodIn wsL_word wsX6_word := goodIn_ca (goodIn_ca (goodIn_r _ [7, 8, 9, 10, 11, 12, 13, 14, 15, 16, 17, 18, 19, 20, 21, 22, 23, 24, 25, 26, 27, 28, 29, 30, 31, 32, 33, 34, 35, 36, 37, 38, 39, 40, 41, 42, 43, 44, 45] (by decide +kernel) (by decide +kernel)) (goodIn_sub (fun _ h => List.mem_cons_of_mem _ (List.mem_append_left _ (List.mem_append_right _ h))) (by decide +kernel))) (goodIn_sub (fun _ h => List.mem_cons_of_mem _ (List.mem_append_right _ h)) (by decide +kernel))
set_option maxRecDepth 20000 in
theorem gL_word_X6_word : GoodIn wsL_word (wsV RL 27 RX6 yX6_word wsX6_word) := goodIn_app (goodIn_of _ (by decide +kernel)) ggL_word_X6_word
theorem dL_word_0 : decode cL_word 0 = .ok (.aload_n 3, 1) := by decide +kernel
theorem dL_word_1 : decode cL_word 1 = .ok (.iconst 0, 1) := by decide +kernel
theorem dL_word_2 : decode cL_word 2 = .ok (.aload_n 0, 1) := by decide +kernel
theorem dL_word_3 : decode cL_word 3 = .ok (.iload_n 1, 1) := by decide +kernel
theorem dL_word_4 : decode cL_word 4 = .ok (.iload_n 2, 1) := by decide +kernel
theorem dL_word_5 : decode cL_word 5 = .ok (.invokevirtual 27, 3) := by decide +kernel
theorem dL_word_8 : decode cL_word 8 = .ok (.i2l, 1) := by decide +kernel
theorem dL_word_9 : decode cL_word 9 = .ok (.lastore, 1) := by decide +kernel
theorem dL_word_10 : decode cL_word 10 = .ok (.goto 11, 3) := by decide +kernel
theorem dL_word_13 : decode cL_word 13 = .ok (.astore 4, 2) := by decide +kernel
theorem dL_word_15 : decode cL_word 15 = .ok (.iconst 1, 1) := by decide +kernel
theorem dL_word_16 : decode cL_word 16 = .ok (.ireturn, 1) := by decide +kernel
theorem dL_word_17 : decode cL_word 17 = .ok (.astore 4, 2) := by decide +kernel
theorem dL_word_19 : decode cL_word 19 = .ok (.iconst 2, 1) := by decide +kernel
theorem dL_word_20 : decode cL_word 20 = .ok (.ireturn, 1) := by decide +kernel
theorem dL_word_21 : decode cL_word 21 = .ok (.iconst 0, 1) := by decide +kernel
theorem dL_word_22 : decode cL_word 22 = .ok (.ireturn, 1) := by decide +kernel
set_option maxRecDepth 20000 in
theorem ggL_enact_X6_enact : GoodIn wsL_enact wsX6_enact := goodIn_ca (goodIn_ca (goodIn_ca (goodIn_r _ [8, 9, 10, 11, 12, 13, 14, 15, 16, 17, 18, 19, 20, 21, 7, 22, 23, 24, 25, 26, 27, 28, 29, 30, 31, 32, 33, 34, 35, 36, 37, 38, 39, 40, 41, 42, 43, 44, 45, 46, 47, 48, 49, 50, 51, 52, 53, 54, 55, 56, 57, 58, 59, 60, 61, 62, 63, 64, 65, 66, 67, 68, 69, 70, 71, 72, 73, 74, 75, 76, 77, 78, 79, 80, 81, 82, 83, 84, 85, 86, 87, 88, 89, 90, 91, 92, 93, 94, 95, 96, 97, 98, 99, 100, 101, 102, 103, 104, 105, 106, 107, 108, 109, 110, 111, 112, 113, 114, 115, 116, 117, 118, 119, 120, 121, 122, 123, 124, 125, 126, 127, 128, 129, 130, 131, 132, 133, 134, 135, 136, 137, 138, 139, 140, 141, 142, 143, 144, 145, 146, 147, 148, 149, 150, 151, 152, 153, 154, 155, 156, 157, 158, 159, 160, 161, 162, 163, 164, 165, 166, 167, 168, 169, 170, 171, 172, 173, 174, 175, 176, 177, 178, 179, 180, 181, 182, 183, 184, 185, 186, 187, 188, 189, 190, 191, 192, 193, 194, 195, 196, 197, 198, 199, 200, 201, 202, 203, 204, 205, 206, 207, 208, 209, 210, 211, 212, 213, 214, 215, 216, 217, 218, 219, 220, 221, 222, 223, 224, 225, 226, 227, 228, 229, 230, 231, 232, 233, 234, 235, 236, 237, 238, 239, 240, 241, 242, 243, 244, 245, 246, 247, 248, 249, 250, 251, 252, 253, 254, 255, 256, 257, 258, 259, 260, 261, 262, 263, 264, 265, 266, 267, 268, 269, 270, 271, 272, 273, 274, 275, 276, 277, 278, 279, 280, 281, 282, 283, 284, 285, 286, 287, 288, 289, 290, 291, 292, 293, 294, 295, 296, 297, 298, 299, 300, 301, 302, 303, 304, 305, 306, 307, 308, 309, 310, 311, 312, 313, 314, 315, 316, 317, 318, 319, 320, 321, 322, 323, 324, 325, 326, 327, 328, 329, 330, 331, 332, 333, 334, 335, 336, 337, 338, 339, 340, 341, 342, 343, 344, 345, 346, 347, 348, 349, 350, 351, 352, 353, 354, 355, 356, 357, 358, 359, 360, 361, 362, 363, 364, 365, 366, 367, 368, 369, 370, 371, 372, 373, 374, 375, 376, 377, 378, 379, 380, 381, 382, 383, 384, 385, 386, 387, 388, 389, 390, 391, 392, 393, 394, 395, 396, 397, 398, 399, 400, 401, 402, 403, 404, 405, 406, 407] (by decide +kernel) (by decide +kernel)) (goodIn_sub (fun _ h => List.mem_cons_of_mem _ (List.mem_append_left _ (List.mem_append_left _ (List.mem_append_right _ h)))) (by decide +kernel))) (goodIn_sub (fun _ h => List.mem_cons_of_mem _ (List.mem_append_left _ (List.mem_append_right _ h))) (by decide +kernel))) (goodIn_sub (fun _ h => List.mem_cons_of_mem _ (List.mem_append_right _ h)) (by decide +kernel))
set_option maxRecDepth 20000 in
theorem gL_enact_X6_enact : GoodIn wsL_enact (wsV RL 31 RX6 yX6_enact wsX6_enact) := goodIn_app (goodIn_of _ (by decide +kernel)) ggL_enact_X6_enact
theorem dL_enact_0 : decode cL_enact 0 = .ok (.aload 4, 2) := by decide +kernel
theorem dL_enact_2 : decode cL_enact 2 = .ok (.iconst 0, 1) := by decide +kernel
theorem dL_enact_3 : decode cL_enact 3 = .ok (.aload_n 0, 1) := by decide +kernel
theorem dL_enact_4 : decode cL_enact 4 = .ok (.iload_n 1, 1) := by decide +kernel
theorem dL_enact_5 : decode cL_enact 5 = .ok (.iload_n 2, 1) := by decide +kernel
theorem dL_enact_6 : decode cL_enact 6 = .ok (.iload_n 3, 1) := by decide +kernel
theorem dL_enact_7 : decode cL_enact 7 = .ok (.invokevirtual 31, 3) := by decide +kernel
theorem dL_enact_10 : decode cL_enact 10 = .ok (.i2l, 1) := by decide +kernel
theorem dL_enact_11 : decode cL_enact 11 = .ok (.lastore, 1) := by decide +kernel
theorem dL_enact_12 : decode cL_enact 12 = .ok (.goto 15, 3) := by decide +kernel
theorem dL_enact_15 : decode cL_enact 15 = .ok (.astore 5, 2) := by decide +kernel
theorem dL_enact_17 : decode cL_enact 17 = .ok (.iconst 1, 1) := by decide +kernel
theorem dL_enact_18 : decode cL_enact 18 = .ok (.ireturn, 1) := by decide +kernel
theorem dL_enact_19 : decode cL_enact 19 = .ok (.astore 5, 2) := by decide +kernel
theorem dL_enact_21 : decode cL_enact 21 = .ok (.iconst 2, 1) := by decide +kernel
theorem dL_enact_22 : decode cL_enact 22 = .ok (.ireturn, 1) := by decide +kernel
theorem dL_enact_23 : decode cL_enact 23 = .ok (.astore 5, 2) := by decide +kernel
theorem dL_enact_25 : decode cL_enact 25 = .ok (.iconst 3, 1) := by decide +kernel
theorem dL_enact_26 : decode cL_enact 26 = .ok (.ireturn, 1) := by decide +kernel
theorem dL_enact_27 : decode cL_enact 27 = .ok (.iconst 0, 1) := by decide +kernel
theorem dL_enact_28 : decode cL_enact 28 = .ok (.ireturn, 1) := by decide +kernel
set_option maxRecDepth 20000 in
theorem ggL_instruct_X6_instruct : GoodIn wsL_instruct wsX6_instruct := goodIn_ca (goodIn_ca (goodIn_ca (goodIn_r _ [8, 9, 10, 11, 12, 13, 14, 15, 16, 17, 18, 19, 20, 7, 21, 22, 23, 24, 25, 26, 27, 28, 29, 30, 31, 32, 33, 34, 35, 36, 37, 38, 39, 40, 41, 42, 43, 44, 45, 46, 47, 48, 49, 50, 51, 52, 53, 54, 55, 56, 57, 58, 59, 60, 61, 62, 63, 64, 65, 66, 67, 68, 69, 70, 71, 72, 73, 74, 75, 76, 77, 78, 79, 80, 81, 82, 83, 84, 85, 86, 87, 88, 89, 90, 91, 92, 93, 94, 95, 96, 97, 98, 99, 100, 101, 102, 103, 104, 105, 106, 107, 108, 109, 110, 111, 112, 113, 114, 115, 116, 117, 118, 119, 120, 121, 122, 123, 124, 125, 126, 127, 128, 129, 130, 131, 132, 133, 134, 135, 136, 137, 138, 139, 140, 141, 142, 143, 144, 145, 146, 147, 148, 149, 150, 151, 152, 153, 154, 155, 156, 157, 158, 159, 160, 161, 162, 163, 164, 165, 166, 167, 168, 169, 170, 171, 172, 173, 174, 175, 176, 177, 178, 179, 180, 181, 182, 183, 184, 185, 186, 187, 188, 189, 190, 191, 192, 193, 194, 195, 196, 197, 198, 199, 200, 201, 202, 203, 204, 205, 206, 207, 208, 209, 210, 211, 212, 213, 214, 215, 216, 217, 218, 219, 220, 221, 222, 223, 224, 225, 226, 227, 228, 229, 230, 231, 232, 233, 234, 235, 236, 237, 238, 239, 240, 241, 242, 243, 244, 245, 246, 247, 248, 249, 250, 251, 252, 253, 254, 255, 256, 257, 258, 259, 260, 261, 262, 263, 264, 265, 266, 267, 268, 269, 270, 271, 272, 273, 274, 275, 276, 277, 278, 279, 280, 281, 282, 283, 284, 285, 286, 287, 288, 289, 290, 291, 292, 293, 294, 295, 296, 297, 298, 299, 300, 301, 302, 303, 304, 305, 306, 307, 308, 309, 310, 311, 312, 313, 314, 315, 316, 317, 318, 319, 320, 321, 322, 323, 324, 325, 326, 327, 328, 329, 330, 331, 332, 333, 334, 335, 336, 337, 338, 339, 340, 341, 342, 343, 344, 345, 346, 347, 348, 349, 350, 351, 352, 353, 354, 355, 356, 357, 358, 359, 360, 361, 362, 363, 364, 365, 366, 367, 368, 369, 370, 371, 372, 373, 374, 375, 376, 377, 378, 379, 380, 381, 382, 383, 384, 385, 386, 387, 388, 389, 390, 391, 392, 393, 394, 395, 396, 397, 398, 399, 400, 401, 402, 403, 404, 405, 406, 407, 408, 409, 410, 411, 412, 413, 414, 415, 416] (by decide +kernel) (by decide +kernel)) (goodIn_sub (fun _ h => List.mem_cons_of_mem _ (List.mem_append_left _ (List.mem_append_left _ (List.mem_append_right _ h)))) (by decide +kernel))) (goodIn_sub (fun _ h => List.mem_cons_of_mem _ (List.mem_append_left _ (List.mem_append_right _ h))) (by decide +kernel))) (goodIn_sub (fun _ h => List.mem_cons_of_mem _ (List.mem_append_right _ h)) (by decide +kernel))
set_option maxRecDepth 20000 in
theorem gL_instruct_X6_instruct : GoodIn wsL_instruct (wsV RL 35 RX6 yX6_instruct wsX6_instruct) := goodIn_app (goodIn_of _ (by decide +kernel)) ggL_instruct_X6_instruct
theorem dL_instruct_0 : decode cL_instruct 0 = .ok (.aload 5, 2) := by decide +kernel
theorem dL_instruct_2 : decode cL_instruct 2 = .ok (.iconst 0, 1) := by decide +kernel
theorem dL_instruct_3 : decode cL_instruct 3 = .ok (.aload_n 0, 1) := by decide +kernel
theorem dL_instruct_4 : decode cL_instruct 4 = .ok (.iload_n 1, 1) := by decide +kernel
theorem dL_instruct_5 : decode cL_instruct 5 = .ok (.iload_n 2, 1) := by decide +kernel
theorem dL_instruct_6 : decode cL_instruct 6 = .ok (.iload_n 3, 1) := by decide +kernel
theorem dL_instruct_7 : decode cL_instruct 7 = .ok (.iload 4, 2) := by decide +kernel
theorem dL_instruct_9 : decode cL_instruct 9 = .ok (.invokevirtual 35, 3) := by decide +kernel
theorem dL_instruct_12 : decode cL_instruct 12 = .ok (.i2l, 1) := by decide +kernel
theorem dL_instruct_13 : decode cL_instruct 13 = .ok (.lastore, 1) := by decide +kernel
theorem dL_instruct_14 : decode cL_instruct 14 = .ok (.goto 15, 3) := by decide +kernel
theorem dL_instruct_17 : decode cL_instruct 17 = .ok (.astore 6, 2) := by decide +kernel
theorem dL_instruct_19 : decode cL_instruct 19 = .ok (.iconst 1, 1) := by decide +kernel
theorem dL_instruct_20 : decode cL_instruct 20 = .ok (.ireturn, 1) := by decide +kernel
theorem dL_instruct_21 : decode cL_instruct 21 = .ok (.astore 6, 2) := by decide +kernel
theorem dL_instruct_23 : decode cL_instruct 23 = .ok (.iconst 2, 1) := by decide +kernel
theorem dL_instruct_24 : decode cL_instruct 24 = .ok (.ireturn, 1) := by decide +kernel
theorem dL_instruct_25 : decode cL_instruct 25 = .ok (.astore 6, 2) := by decide +kernel
theorem dL_instruct_27 : decode cL_instruct 27 = .ok (.iconst 3, 1) := by decide +kernel
theorem dL_instruct_28 : decode cL_instruct 28 = .ok (.ireturn, 1) := by decide +kernel
theorem dL_instruct_29 : decode cL_instruct 29 = .ok (.iconst 0, 1) := by decide +kernel
theorem dL_instruct_30 : decode cL_instruct 30 = .ok (.ireturn, 1) := by decide +kernel
set_option maxRecDepth 20000 in
theorem ggL_order_X6_order : GoodIn wsL_order wsX6_order := goodIn_ca (goodIn_ca (goodIn_ca (goodIn_r _ [8, 9, 10, 11, 12, 13, 14, 15, 16, 17, 18, 19, 7, 20, 21, 22, 23, 24, 25, 26, 27, 28, 29, 30, 31, 32, 33, 34, 35, 36, 37, 38, 39, 40, 41, 42, 43, 44, 45, 46, 47, 48, 49, 50, 51, 52, 53, 54, 55, 56, 57, 58, 59, 60, 61, 62, 63, 64, 65, 66, 67, 68, 69, 70, 71, 72, 73, 74, 75, 76, 77, 78, 79, 80, 81, 82, 83, 84, 85, 86, 87, 88, 89, 90, 91, 92, 93, 94, 95, 96, 97, 98, 99, 100, 101, 102, 103, 104, 105, 106, 107, 108, 109, 110, 111, 112, 113, 114, 115, 116, 117, 118, 119, 120, 121, 122, 123, 124, 125, 126, 127, 128, 129, 130, 131, 132, 133, 134, 135, 136, 137, 138, 139, 140, 141, 142, 143, 144, 145, 146, 147, 148, 149, 150, 151, 152, 153, 154, 155, 156, 157, 158, 159, 160, 161, 162, 163, 164, 165, 166, 167, 168, 169, 170, 171, 172, 173, 174, 175, 176, 177, 178, 179, 180, 181, 182, 183, 184, 185, 186, 187, 188, 189, 190, 191, 192, 193, 194, 195, 196, 197, 198, 199, 200, 201, 202, 203, 204, 205, 206, 207, 208, 209, 210, 211, 212, 213, 214, 215, 216, 217, 218, 219, 220, 221, 222, 223, 224, 225, 226, 227, 228, 229, 230, 231, 232, 233, 234, 235, 236, 237, 238, 239, 240, 241, 242, 243, 244, 245, 246, 247, 248, 249, 250, 251, 252, 253, 254, 255, 256, 257, 258, 259, 260, 261, 262, 263, 264, 265, 266, 267, 268, 269, 270, 271, 272, 273, 274, 275, 276, 277, 278, 279, 280, 281, 282, 283, 284, 285, 286, 287, 288, 289, 290, 291, 292, 293, 294, 295, 296, 297, 298, 299, 300, 301, 302, 303, 304, 305, 306, 307, 308, 309, 310, 311, 312, 313, 314, 315, 316, 317, 318, 319, 320, 321, 322, 323, 324, 325, 326, 327, 328, 329, 330, 331, 332, 333, 334, 335, 336, 337, 338, 339, 340, 341, 342, 343, 344] (by decide +kernel) (by decide +kernel)) (goodIn_sub (fun _ h => List.mem_cons_of_mem _ (List.mem_append_left _ (List.mem_append_left _ (List.mem_append_right _ h)))) (by decide +kernel))) (goodIn_sub (fun _ h => List.mem_cons_of_mem _ (List.mem_append_left _ (List.mem_append_right _ h))) (by decide +kernel))) (goodIn_sub (fun _ h => List.mem_cons_of_mem _ (List.mem_append_right _ h)) (by decide +kernel))
set_option maxRecDepth 20000 in
theorem gL_order_X6_order : GoodIn wsL_order (wsV RL 39 RX6 yX6_order wsX6_order) := goodIn_app (goodIn_of _ (by decide +kernel)) ggL_order_X6_order
theorem dL_order_0 : decode cL_order 0 = .ok (.aload_n 0, 1) := by decide +kernel
theorem dL_order_1 : decode cL_order 1 = .ok (.iload_n 1, 1) := by decide +kernel
theorem dL_order_2 : decode cL_order 2 = .ok (.iload_n 2, 1) := by decide +kernel
theorem dL_order_3 : decode cL_order 3 = .ok (.invokevirtual 39, 3) := by decide +kernel
theorem dL_order_6 : decode cL_order 6 = .ok (.goto 12, 3) := by decide +kernel
theorem dL_order_9 : decode cL_order 9 = .ok (.astore_n 3, 1) := by decide +kernel
theorem dL_order_10 : decode cL_order 10 = .ok (.iconst 1, 1) := by decide +kernel
theorem dL_order_11 : decode cL_order 11 = .ok (.ireturn, 1) := by decide +kernel
theorem dL_order_12 : decode cL_order 12 = .ok (.astore_n 3, 1) := by decide +kernel
theorem dL_order_13 : decode cL_order 13 = .ok (.iconst 2, 1) := by decide +kernel
theorem dL_order_14 : decode cL_order 14 = .ok (.ireturn, 1) := by decide +kernel
theorem dL_order_15 : decode cL_order 15 = .ok (.astore_n 3, 1) := by decide +kernel
theorem dL_order_16 : decode cL_order 16 = .ok (.iconst 3, 1) := by decide +kernel
theorem dL_order_17 : decode cL_order 17 = .ok (.ireturn, 1) := by decide +kernel
theorem dL_order_18 : decode cL_order 18 = .ok (.iconst 0, 1) := by decide +kernel
theorem dL_order_19 : decode cL_order 19 = .ok (.ireturn, 1) := by decide +kernel
set_option maxRecDepth 20000 in
theorem ggL_strike_X6_strike : GoodIn wsL_strike wsX6_strike := goodIn_ca (goodIn_ca (goodIn_ca (goodIn_r _ [8, 9, 10, 11, 12, 13, 14, 15, 16, 17, 7, 18, 19, 20, 21, 22, 23, 24, 25, 26, 27, 28, 29, 30, 31, 32, 33, 34, 35, 36, 37, 38, 39, 40, 41, 42, 43, 44, 45, 46, 47, 48, 49, 50, 51, 52, 53, 54, 55, 56, 57, 58, 59, 60, 61, 62, 63, 64, 65, 66, 67, 68, 69, 70, 71, 72, 73, 74, 75, 76, 77, 78, 79, 80, 81, 82, 83, 84, 85, 86, 87, 88, 89, 90, 91, 92, 93, 94, 95, 96, 97, 98, 99, 100, 101, 102, 103, 104, 105, 106, 107, 108, 109, 110, 111, 112, 113, 114, 115, 116, 117, 118, 119, 120, 121, 122, 123, 124, 125, 126, 127, 128, 129, 130, 131, 132, 133, 134, 135, 136, 137, 138, 139, 140, 141, 142, 143, 144, 145, 146, 147, 148, 149, 150, 151, 152, 153, 154, 155, 156, 157, 158, 159, 160, 161, 162, 163, 164, 165, 166, 167, 168, 169, 170, 171, 172, 173, 174, 175, 176, 177, 178, 179, 180, 181, 182, 183, 184, 185, 186, 187, 188, 189, 190, 191, 192, 193, 194, 195, 196, 197, 198, 199, 200, 201, 202, 203, 204, 205, 206, 207, 208, 209, 210, 211, 212, 213, 214, 215, 216, 217, 218, 219, 220, 221, 222, 223, 224, 225, 226, 227, 228, 229, 230, 231, 232, 233, 234, 235, 236, 237, 238, 239, 240, 241, 242, 243, 244, 245, 246, 247, 248, 249, 250, 251, 252, 253, 254, 255, 256, 257, 258, 259, 260, 261, 262, 263, 264, 265, 266, 267, 268, 269, 270, 271, 272, 273, 274, 275, 276, 277, 278, 279, 280, 281, 282, 283, 284, 285, 286, 287, 288, 289, 290, 291, 292, 293, 294, 295, 296, 297, 298, 299, 300, 301, 302, 303, 304, 305, 306, 307, 308, 309, 310, 311, 312, 313, 314, 315, 316, 317, 318, 319, 320, 321, 322, 323, 324, 325, 326, 327, 328, 329, 330, 331, 332, 333, 334, 335, 336, 337, 338, 339, 340, 341, 342] (by decide +kernel) (by decide +kernel)) (goodIn_sub (fun _ h => List.mem_cons_of_mem _ (List.mem_append_left _ (List.mem_append_left _ (List.mem_append_right _ h)))) (by decide +kernel))) (goodIn_sub (fun _ h => List.mem_cons_of_mem _ (List.mem_append_left _ (List.mem_append_right _ h))) (by decide +kernel))) (goodIn_sub (fun _ h => List.mem_cons_of_mem _ (List.mem_append_right _ h)) (by decide +kernel))
set_option maxRecDepth 20000 in
theorem gL_strike_X6_strike : GoodIn wsL_strike (wsV RL 43 RX6 yX6_strike wsX6_strike) := goodIn_app (goodIn_of _ (by decide +kernel)) ggL_strike_X6_strike
theorem dL_strike_0 : decode cL_strike 0 = .ok (.aload_n 0, 1) := by decide +kernel
theorem dL_strike_1 : decode cL_strike 1 = .ok (.iload_n 1, 1) := by decide +kernel
theorem dL_strike_2 : decode cL_strike 2 = .ok (.iload_n 2, 1) := by decide +kernel
theorem dL_strike_3 : decode cL_strike 3 = .ok (.invokevirtual 43, 3) := by decide +kernel
theorem dL_strike_6 : decode cL_strike 6 = .ok (.goto 12, 3) := by decide +kernel
theorem dL_strike_9 : decode cL_strike 9 = .ok (.astore_n 3, 1) := by decide +kernel
theorem dL_strike_10 : decode cL_strike 10 = .ok (.iconst 1, 1) := by decide +kernel
theorem dL_strike_11 : decode cL_strike 11 = .ok (.ireturn, 1) := by decide +kernel
theorem dL_strike_12 : decode cL_strike 12 = .ok (.astore_n 3, 1) := by decide +kernel
theorem dL_strike_13 : decode cL_strike 13 = .ok (.iconst 2, 1) := by decide +kernel
theorem dL_strike_14 : decode cL_strike 14 = .ok (.ireturn, 1) := by decide +kernel
theorem dL_strike_15 : decode cL_strike 15 = .ok (.astore_n 3, 1) := by decide +kernel
theorem dL_strike_16 : decode cL_strike 16 = .ok (.iconst 3, 1) := by decide +kernel
theorem dL_strike_17 : decode cL_strike 17 = .ok (.ireturn, 1) := by decide +kernel
theorem dL_strike_18 : decode cL_strike 18 = .ok (.iconst 0, 1) := by decide +kernel
theorem dL_strike_19 : decode cL_strike 19 = .ok (.ireturn, 1) := by decide +kernel
set_option maxRecDepth 20000 in
theorem ggL_suspend_X6_suspend : GoodIn wsL_suspend wsX6_suspend := goodIn_ca (goodIn_ca (goodIn_ca (goodIn_r _ [8, 9, 10, 11, 12, 13, 14, 15, 16, 17, 18, 19, 7, 20, 21, 22, 23, 24, 25, 26, 27, 28, 29, 30, 31, 32, 33, 34, 35, 36, 37, 38, 39, 40, 41, 42, 43, 44, 45, 46, 47, 48, 49, 50, 51, 52, 53, 54, 55, 56, 57, 58, 59, 60, 61, 62, 63, 64, 65, 66, 67, 68, 69, 70, 71, 72, 73, 74, 75, 76, 77, 78, 79, 80, 81, 82, 83, 84, 85, 86, 87, 88, 89, 90, 91, 92, 93, 94, 95, 96, 97, 98, 99, 100, 101, 102, 103, 104, 105, 106, 107, 108, 109, 110, 111, 112, 113, 114, 115, 116, 117, 118, 119, 120, 121, 122, 123, 124, 125, 126, 127, 128, 129, 130, 131, 132, 133, 134, 135, 136, 137, 138, 139, 140, 141, 142, 143, 144, 145, 146, 147, 148, 149, 150, 151, 152, 153, 154, 155, 156, 157, 158, 159, 160, 161, 162, 163, 164, 165, 166, 167, 168, 169, 170, 171, 172, 173, 174, 175, 176, 177, 178, 179, 180, 181, 182, 183, 184, 185, 186, 187, 188, 189, 190, 191, 192, 193, 194, 195, 196, 197, 198, 199, 200, 201, 202, 203, 204, 205, 206, 207, 208, 209, 210, 211, 212, 213, 214, 215, 216, 217, 218, 219, 220, 221, 222, 223, 224, 225, 226, 227, 228, 229, 230, 231, 232, 233, 234, 235, 236, 237, 238, 239, 240, 241, 242, 243, 244, 245, 246, 247, 248, 249, 250, 251, 252, 253, 254, 255, 256, 257, 258, 259, 260, 261, 262, 263, 264, 265, 266, 267, 268, 269, 270, 271, 272, 273, 274, 275, 276, 277, 278, 279, 280, 281, 282, 283, 284, 285, 286, 287, 288, 289, 290, 291, 292, 293, 294, 295, 296, 297, 298, 299, 300, 301, 302, 303, 304, 305, 306, 307, 308, 309, 310, 311, 312, 313, 314, 315, 316, 317, 318, 319, 320, 321, 322, 323, 324, 325, 326, 327, 328, 329, 330, 331, 332, 333, 334, 335, 336, 337, 338, 339, 340, 341, 342] (by decide +kernel) (by decide +kernel)) (goodIn_sub (fun _ h => List.mem_cons_of_mem _ (List.mem_append_left _ (List.mem_append_left _ (List.mem_append_right _ h)))) (by decide +kernel))) (goodIn_sub (fun _ h => List.mem_cons_of_mem _ (List.mem_append_left _ (List.mem_append_right _ h))) (by decide +kernel))) (goodIn_sub (fun _ h => List.mem_cons_of_mem _ (List.mem_append_right _ h)) (by decide +kernel))
set_option maxRecDepth 20000 in
theorem gL_suspend_X6_suspend : GoodIn wsL_suspend (wsV RL 46 RX6 yX6_suspend wsX6_suspend) := goodIn_app (goodIn_of _ (by decide +kernel)) ggL_suspend_X6_suspend
theorem dL_suspend_0 : decode cL_suspend 0 = .ok (.aload_n 0, 1) := by decide +kernel
theorem dL_suspend_1 : decode cL_suspend 1 = .ok (.iload_n 1, 1) := by decide +kernel
theorem dL_suspend_2 : decode cL_suspend 2 = .ok (.iload_n 2, 1) := by decide +kernel
theorem dL_suspend_3 : decode cL_suspend 3 = .ok (.iload_n 3, 1) := by decide +kernel
theorem dL_suspend_4 : decode cL_suspend 4 = .ok (.invokevirtual 46, 3) := by decide +kernel
theorem dL_suspend_7 : decode cL_suspend 7 = .ok (.goto 15, 3) := by decide +kernel
theorem dL_suspend_10 : decode cL_suspend 10 = .ok (.astore 4, 2) := by decide +kernel
theorem dL_suspend_12 : decode cL_suspend 12 = .ok (.iconst 1, 1) := by decide +kernel
theorem dL_suspend_13 : decode cL_suspend 13 = .ok (.ireturn, 1) := by decide +kernel
theorem dL_suspend_14 : decode cL_suspend 14 = .ok (.astore 4, 2) := by decide +kernel
theorem dL_suspend_16 : decode cL_suspend 16 = .ok (.iconst 2, 1) := by decide +kernel
theorem dL_suspend_17 : decode cL_suspend 17 = .ok (.ireturn, 1) := by decide +kernel
theorem dL_suspend_18 : decode cL_suspend 18 = .ok (.astore 4, 2) := by decide +kernel
theorem dL_suspend_20 : decode cL_suspend 20 = .ok (.iconst 3, 1) := by decide +kernel
theorem dL_suspend_21 : decode cL_suspend 21 = .ok (.ireturn, 1) := by decide +kernel
theorem dL_suspend_22 : decode cL_suspend 22 = .ok (.iconst 0, 1) := by decide +kernel
theorem dL_suspend_23 : decode cL_suspend 23 = .ok (.ireturn, 1) := by decide +kernel
set_option maxRecDepth 20000 in
theorem ggL_look_X6_look : GoodIn wsL_look wsX6_look := goodIn_ca (goodIn_r _ [6, 7, 8, 9, 10, 11, 12, 13, 5, 14, 15, 16, 17, 18, 19, 20, 21, 22, 23, 24, 25, 26, 27, 28, 29, 30, 31, 32, 33, 34, 35, 36, 37, 38, 39, 40, 41, 42, 43, 44, 45, 46, 47, 48, 49, 50, 51, 52, 53, 54, 55, 56, 57, 58, 59, 60, 61, 62, 63, 64, 65, 66, 67, 68, 69, 70, 71, 72, 73, 74, 75, 76, 77, 78, 79, 80, 81, 82, 83, 84, 85, 86, 87, 88, 89, 90, 91, 92, 93, 94, 95, 96, 97, 98, 99, 100, 101, 102, 103, 104, 105, 106, 107, 108, 109, 110, 111, 112, 113, 114, 115, 116, 117, 118, 119, 120, 121, 122, 123, 124, 125, 126, 127, 128, 129, 130, 131, 132, 133, 134, 135, 136, 137, 138, 139, 140, 141, 142, 143, 144, 145, 146, 147, 148, 149, 150, 151, 152, 153, 154, 155, 156, 157, 158, 159, 160, 161, 162, 163, 164, 165, 166, 167, 168, 169, 170, 171, 172, 173, 174, 175, 176, 177, 178, 179, 180, 181, 182, 183, 184, 185, 186, 187, 188, 189, 190, 191, 192, 193, 194, 195, 196, 197, 198, 199, 200, 201, 202, 203, 204, 205, 206, 207, 208, 209, 210, 211, 212, 213, 214, 215, 216, 217, 218, 219, 220, 221, 222, 223, 224, 225, 226, 227, 228, 229, 230, 231, 232, 233, 234, 235, 236, 237, 238, 239, 240, 241, 242, 243, 244, 245, 246, 247, 248, 249, 250, 251, 252, 253, 254, 255, 256, 257, 258, 259, 260, 261, 262, 263, 264, 265, 266, 267, 268, 269, 270, 271, 272, 273, 274, 275, 276, 277, 278, 279, 280, 281, 282, 283, 284, 285, 286, 287, 288, 289, 290, 291, 292, 293, 294, 295, 296, 297, 298, 299, 300, 301, 302, 303, 304, 305, 306, 307, 308, 309, 310, 311, 312, 313, 314, 315, 316, 317, 318, 319, 320, 321, 322, 323, 324, 325, 326, 327] (by decide +kernel) (by decide +kernel)) (goodIn_sub (fun _ h => List.mem_cons_of_mem _ (List.mem_append_right _ h)) (by decide +kernel))
set_option maxRecDepth 20000 in
theorem gL_look_X6_look : GoodIn wsL_look (wsV RL 50 RX6 yX6_look wsX6_look) := goodIn_app (goodIn_of _ (by decide +kernel)) ggL_look_X6_look
theorem dL_look_0 : decode cL_look 0 = .ok (.aload 4, 2) := by decide +kernel
theorem dL_look_2 : decode cL_look 2 = .ok (.iconst 0, 1) := by decide +kernel
theorem dL_look_3 : decode cL_look 3 = .ok (.aload_n 0, 1) := by decide +kernel
theorem dL_look_4 : decode cL_look 4 = .ok (.iload_n 1, 1) := by decide +kernel
theorem dL_look_5 : decode cL_look 5 = .ok (.iload_n 2, 1) := by decide +kernel
theorem dL_look_6 : decode cL_look 6 = .ok (.iload_n 3, 1) := by decide +kernel
theorem dL_look_7 : decode cL_look 7 = .ok (.invokevirtual 50, 3) := by decide +kernel
theorem dL_look_10 : decode cL_look 10 = .ok (.i2l, 1) := by decide +kernel
theorem dL_look_11 : decode cL_look 11 = .ok (.lastore, 1) := by decide +kernel
theorem dL_look_12 : decode cL_look 12 = .ok (.goto 7, 3) := by decide +kernel
theorem dL_look_15 : decode cL_look 15 = .ok (.astore 5, 2) := by decide +kernel
theorem dL_look_17 : decode cL_look 17 = .ok (.iconst 1, 1) := by decide +kernel
theorem dL_look_18 : decode cL_look 18 = .ok (.ireturn, 1) := by decide +kernel
theorem dL_look_19 : decode cL_look 19 = .ok (.iconst 0, 1) := by decide +kernel
theorem dL_look_20 : decode cL_look 20 = .ok (.ireturn, 1) := by decide +kernel
set_option maxRecDepth 20000 in
theorem ggL_provisionAt_X6_provisionAt : GoodIn wsL_provisionAt wsX6_provisionAt := goodIn_ca (goodIn_r _ [6, 7, 8, 9, 10, 11, 12, 13, 14, 15, 16, 17, 18, 19, 20, 21, 22, 23, 24, 25, 26, 27, 28, 29, 30, 31, 32, 33, 34, 35, 36, 37] (by decide +kernel) (by decide +kernel)) (goodIn_sub (fun _ h => List.mem_cons_of_mem _ (List.mem_append_right _ h)) (by decide +kernel))
set_option maxRecDepth 20000 in
theorem gL_provisionAt_X6_provisionAt : GoodIn wsL_provisionAt (wsV RL 53 RX6 yX6_provisionAt wsX6_provisionAt) := goodIn_app (goodIn_of _ (by decide +kernel)) ggL_provisionAt_X6_provisionAt
theorem dL_provisionAt_0 : decode cL_provisionAt 0 = .ok (.aload_n 2, 1) := by decide +kernel
theorem dL_provisionAt_1 : decode cL_provisionAt 1 = .ok (.iconst 0, 1) := by decide +kernel
theorem dL_provisionAt_2 : decode cL_provisionAt 2 = .ok (.aload_n 0, 1) := by decide +kernel
theorem dL_provisionAt_3 : decode cL_provisionAt 3 = .ok (.iload_n 1, 1) := by decide +kernel
theorem dL_provisionAt_4 : decode cL_provisionAt 4 = .ok (.invokevirtual 53, 3) := by decide +kernel
theorem dL_provisionAt_7 : decode cL_provisionAt 7 = .ok (.i2l, 1) := by decide +kernel
theorem dL_provisionAt_8 : decode cL_provisionAt 8 = .ok (.lastore, 1) := by decide +kernel
theorem dL_provisionAt_9 : decode cL_provisionAt 9 = .ok (.goto 6, 3) := by decide +kernel
theorem dL_provisionAt_12 : decode cL_provisionAt 12 = .ok (.astore_n 3, 1) := by decide +kernel
theorem dL_provisionAt_13 : decode cL_provisionAt 13 = .ok (.iconst 1, 1) := by decide +kernel
theorem dL_provisionAt_14 : decode cL_provisionAt 14 = .ok (.ireturn, 1) := by decide +kernel
theorem dL_provisionAt_15 : decode cL_provisionAt 15 = .ok (.iconst 0, 1) := by decide +kernel
theorem dL_provisionAt_16 : decode cL_provisionAt 16 = .ok (.ireturn, 1) := by decide +kernel
set_option maxRecDepth 20000 in
theorem ggL_label_X6_label : GoodIn wsL_label wsX6_label := goodIn_ca (goodIn_r _ [6, 7, 8, 9, 10, 5, 11, 12, 13, 14, 15, 16, 17, 18, 19, 20, 21, 22, 23, 24, 25, 26, 27, 28, 29, 30, 31, 32, 33, 34, 35, 36, 37, 38, 39, 40, 41] (by decide +kernel) (by decide +kernel)) (goodIn_sub (fun _ h => List.mem_cons_of_mem _ (List.mem_append_right _ h)) (by decide +kernel))
set_option maxRecDepth 20000 in
theorem gL_label_X6_label : GoodIn wsL_label (wsV RL 56 RX6 yX6_label wsX6_label) := goodIn_app (goodIn_of _ (by decide +kernel)) ggL_label_X6_label
theorem dL_label_0 : decode cL_label 0 = .ok (.aload_n 2, 1) := by decide +kernel
theorem dL_label_1 : decode cL_label 1 = .ok (.iconst 0, 1) := by decide +kernel
theorem dL_label_2 : decode cL_label 2 = .ok (.aload_n 0, 1) := by decide +kernel
theorem dL_label_3 : decode cL_label 3 = .ok (.iload_n 1, 1) := by decide +kernel
theorem dL_label_4 : decode cL_label 4 = .ok (.invokevirtual 56, 3) := by decide +kernel
theorem dL_label_7 : decode cL_label 7 = .ok (.i2l, 1) := by decide +kernel
theorem dL_label_8 : decode cL_label 8 = .ok (.lastore, 1) := by decide +kernel
theorem dL_label_9 : decode cL_label 9 = .ok (.goto 6, 3) := by decide +kernel
theorem dL_label_12 : decode cL_label 12 = .ok (.astore_n 3, 1) := by decide +kernel
theorem dL_label_13 : decode cL_label 13 = .ok (.iconst 1, 1) := by decide +kernel
theorem dL_label_14 : decode cL_label 14 = .ok (.ireturn, 1) := by decide +kernel
theorem dL_label_15 : decode cL_label 15 = .ok (.iconst 0, 1) := by decide +kernel
theorem dL_label_16 : decode cL_label 16 = .ok (.ireturn, 1) := by decide +kernel
set_option maxRecDepth 20000 in
theorem ggL_parent_X6_parent : GoodIn wsL_parent wsX6_parent := goodIn_ca (goodIn_r _ [6, 7, 8, 9, 10, 5, 11, 12, 13, 14, 15, 16, 17, 18, 19, 20, 21, 22, 23, 24, 25, 26, 27, 28, 29, 30, 31, 32, 33, 34, 35, 36, 37, 38, 39, 40, 41, 42, 43, 44, 45, 46, 47, 48, 49, 50] (by decide +kernel) (by decide +kernel)) (goodIn_sub (fun _ h => List.mem_cons_of_mem _ (List.mem_append_right _ h)) (by decide +kernel))
set_option maxRecDepth 20000 in
theorem gL_parent_X6_parent : GoodIn wsL_parent (wsV RL 59 RX6 yX6_parent wsX6_parent) := goodIn_app (goodIn_of _ (by decide +kernel)) ggL_parent_X6_parent
theorem dL_parent_0 : decode cL_parent 0 = .ok (.aload_n 2, 1) := by decide +kernel
theorem dL_parent_1 : decode cL_parent 1 = .ok (.iconst 0, 1) := by decide +kernel
theorem dL_parent_2 : decode cL_parent 2 = .ok (.aload_n 0, 1) := by decide +kernel
theorem dL_parent_3 : decode cL_parent 3 = .ok (.iload_n 1, 1) := by decide +kernel
theorem dL_parent_4 : decode cL_parent 4 = .ok (.invokevirtual 59, 3) := by decide +kernel
theorem dL_parent_7 : decode cL_parent 7 = .ok (.i2l, 1) := by decide +kernel
theorem dL_parent_8 : decode cL_parent 8 = .ok (.lastore, 1) := by decide +kernel
theorem dL_parent_9 : decode cL_parent 9 = .ok (.goto 6, 3) := by decide +kernel
theorem dL_parent_12 : decode cL_parent 12 = .ok (.astore_n 3, 1) := by decide +kernel
theorem dL_parent_13 : decode cL_parent 13 = .ok (.iconst 1, 1) := by decide +kernel
theorem dL_parent_14 : decode cL_parent 14 = .ok (.ireturn, 1) := by decide +kernel
theorem dL_parent_15 : decode cL_parent 15 = .ok (.iconst 0, 1) := by decide +kernel
theorem dL_parent_16 : decode cL_parent 16 = .ok (.ireturn, 1) := by decide +kernel
set_option maxRecDepth 20000 in
theorem ggL_words_X6_words : GoodIn wsL_words wsX6_words := goodIn_ca (goodIn_r _ [6, 7, 8, 9, 10, 5, 11, 12, 13, 14, 15, 16, 17, 18, 19, 20, 21, 22, 23, 24, 25, 26, 27, 28, 29, 30, 31, 32, 33, 34, 35, 36, 37, 38, 39, 40, 41, 42, 43, 44, 45, 46, 47, 48, 49, 50, 51, 52, 53] (by decide +kernel) (by decide +kernel)) (goodIn_sub (fun _ h => List.mem_cons_of_mem _ (List.mem_append_right _ h)) (by decide +kernel))
set_option maxRecDepth 20000 in
theorem gL_words_X6_words : GoodIn wsL_words (wsV RL 62 RX6 yX6_words wsX6_words) := goodIn_app (goodIn_of _ (by decide +kernel)) ggL_words_X6_words
theorem dL_words_0 : decode cL_words 0 = .ok (.aload_n 2, 1) := by decide +kernel
theorem dL_words_1 : decode cL_words 1 = .ok (.iconst 0, 1) := by decide +kernel
theorem dL_words_2 : decode cL_words 2 = .ok (.aload_n 0, 1) := by decide +kernel
theorem dL_words_3 : decode cL_words 3 = .ok (.iload_n 1, 1) := by decide +kernel
theorem dL_words_4 : decode cL_words 4 = .ok (.invokevirtual 62, 3) := by decide +kernel
theorem dL_words_7 : decode cL_words 7 = .ok (.i2l, 1) := by decide +kernel
theorem dL_words_8 : decode cL_words 8 = .ok (.lastore, 1) := by decide +kernel
theorem dL_words_9 : decode cL_words 9 = .ok (.goto 6, 3) := by decide +kernel
theorem dL_words_12 : decode cL_words 12 = .ok (.astore_n 3, 1) := by decide +kernel
theorem dL_words_13 : decode cL_words 13 = .ok (.iconst 1, 1) := by decide +kernel
theorem dL_words_14 : decode cL_words 14 = .ok (.ireturn, 1) := by decide +kernel
theorem dL_words_15 : decode cL_words 15 = .ok (.iconst 0, 1) := by decide +kernel
theorem dL_words_16 : decode cL_words 16 = .ok (.ireturn, 1) := by decide +kernel
set_option maxRecDepth 20000 in
theorem ggL_wordAt_X6_wordAt : GoodIn wsL_wordAt wsX6_wordAt := goodIn_ca (goodIn_r _ [6, 7, 8, 9, 10, 5, 11, 12, 13, 14, 15, 16, 17, 18, 19, 20, 21, 22, 23, 24, 25, 26, 27, 28, 29, 30, 31, 32, 33, 34, 35, 36, 37, 38, 39, 40, 41, 42, 43, 44, 45, 46, 47, 48, 49, 50, 51, 52, 53, 54, 55, 56, 57, 58, 59, 60, 61, 62, 63, 64, 65, 66, 67, 68] (by decide +kernel) (by decide +kernel)) (goodIn_sub (fun _ h => List.mem_cons_of_mem _ (List.mem_append_right _ h)) (by decide +kernel))
set_option maxRecDepth 20000 in
theorem gL_wordAt_X6_wordAt : GoodIn wsL_wordAt (wsV RL 65 RX6 yX6_wordAt wsX6_wordAt) := goodIn_app (goodIn_of _ (by decide +kernel)) ggL_wordAt_X6_wordAt
theorem dL_wordAt_0 : decode cL_wordAt 0 = .ok (.aload_n 3, 1) := by decide +kernel
theorem dL_wordAt_1 : decode cL_wordAt 1 = .ok (.iconst 0, 1) := by decide +kernel
theorem dL_wordAt_2 : decode cL_wordAt 2 = .ok (.aload_n 0, 1) := by decide +kernel
theorem dL_wordAt_3 : decode cL_wordAt 3 = .ok (.iload_n 1, 1) := by decide +kernel
theorem dL_wordAt_4 : decode cL_wordAt 4 = .ok (.iload_n 2, 1) := by decide +kernel
theorem dL_wordAt_5 : decode cL_wordAt 5 = .ok (.invokevirtual 65, 3) := by decide +kernel
theorem dL_wordAt_8 : decode cL_wordAt 8 = .ok (.i2l, 1) := by decide +kernel
theorem dL_wordAt_9 : decode cL_wordAt 9 = .ok (.lastore, 1) := by decide +kernel
theorem dL_wordAt_10 : decode cL_wordAt 10 = .ok (.goto 7, 3) := by decide +kernel
theorem dL_wordAt_13 : decode cL_wordAt 13 = .ok (.astore 4, 2) := by decide +kernel
theorem dL_wordAt_15 : decode cL_wordAt 15 = .ok (.iconst 1, 1) := by decide +kernel
theorem dL_wordAt_16 : decode cL_wordAt 16 = .ok (.ireturn, 1) := by decide +kernel
theorem dL_wordAt_17 : decode cL_wordAt 17 = .ok (.iconst 0, 1) := by decide +kernel
theorem dL_wordAt_18 : decode cL_wordAt 18 = .ok (.ireturn, 1) := by decide +kernel
set_option maxRecDepth 20000 in
theorem ggL_wordAnew_X6_wordAnew : GoodIn wsL_wordAnew wsX6_wordAnew := goodIn_ca (goodIn_r _ [6, 7, 8, 9, 10, 11, 12, 5, 13, 14, 15, 16, 17, 18, 19, 20, 21, 22, 23, 24, 25, 26, 27, 28, 29, 30, 31, 32, 33, 34, 35, 36, 37, 38, 39, 40, 41, 42, 43, 44, 45, 46, 47, 48, 49, 50, 51, 52, 53, 54, 55, 56, 57, 58, 59, 60, 61, 62, 63, 64, 65, 66, 67, 68, 69, 70, 71, 72, 73, 74, 75, 76, 77, 78, 79, 80, 81, 82, 83, 84, 85, 86, 87, 88, 89, 90, 91, 92, 93, 94, 95, 96, 97, 98, 99, 100, 101, 102, 103, 104, 105, 106, 107, 108, 109, 110, 111, 112, 113, 114, 115, 116, 117, 118, 119, 120, 121, 122, 123, 124, 125, 126, 127, 128, 129, 130, 131, 132, 133, 134, 135, 136, 137, 138, 139, 140, 141, 142, 143, 144, 145, 146, 147, 148, 149, 150, 151, 152, 153, 154, 155, 156, 157, 158, 159, 160, 161, 162, 163] (by decide +kernel) (by decide +kernel)) (goodIn_sub (fun _ h => List.mem_cons_of_mem _ (List.mem_append_right _ h)) (by decide +kernel))
set_option maxRecDepth 20000 in
theorem gL_wordAnew_X6_wordAnew : GoodIn wsL_wordAnew (wsV RL 69 RX6 yX6_wordAnew wsX6_wordAnew) := goodIn_app (goodIn_of _ (by decide +kernel)) ggL_wordAnew_X6_wordAnew
theorem dL_wordAnew_0 : decode cL_wordAnew 0 = .ok (.aload_n 3, 1) := by decide +kernel

theorem dL_wordAnew_1 : decode cL_wordAnew 1 = .ok (.iconst 0, 1) := by decide +kernel
theorem dL_wordAnew_2 : decode cL_wordAnew 2 = .ok (.aload_n 0, 1) := by decide +kernel
theorem dL_wordAnew_3 : decode cL_wordAnew 3 = .ok (.iload_n 1, 1) := by decide +kernel
theorem dL_wordAnew_4 : decode cL_wordAnew 4 = .ok (.iload_n 2, 1) := by decide +kernel
theorem dL_wordAnew_5 : decode cL_wordAnew 5 = .ok (.invokevirtual 69, 3) := by decide +kernel
theorem dL_wordAnew_8 : decode cL_wordAnew 8 = .ok (.i2l, 1) := by decide +kernel
theorem dL_wordAnew_9 : decode cL_wordAnew 9 = .ok (.lastore, 1) := by decide +kernel
theorem dL_wordAnew_10 : decode cL_wordAnew 10 = .ok (.goto 7, 3) := by decide +kernel
theorem dL_wordAnew_13 : decode cL_wordAnew 13 = .ok (.astore 4, 2) := by decide +kernel
theorem dL_wordAnew_15 : decode cL_wordAnew 15 = .ok (.iconst 1, 1) := by decide +kernel
theorem dL_wordAnew_16 : decode cL_wordAnew 16 = .ok (.ireturn, 1) := by decide +kernel
theorem dL_wordAnew_17 : decode cL_wordAnew 17 = .ok (.iconst 0, 1) := by decide +kernel
theorem dL_wordAnew_18 : decode cL_wordAnew 18 = .ok (.ireturn, 1) := by decide +kernel
set_option maxRecDepth 20000 in
theorem ggL_origin_X6_origin : GoodIn wsL_origin wsX6_origin := goodIn_ca (goodIn_r _ [6, 7, 8, 9, 10, 5, 11, 12, 13, 14, 15, 16, 17, 18, 19, 20, 21, 22, 23, 24, 25, 26, 27, 28, 29, 30, 31, 32, 33, 34, 35, 36, 37, 38, 39, 40, 41, 42, 43, 44, 45, 46, 47, 48, 49, 50, 51, 52, 53, 54, 55, 56, 57, 58, 59, 60, 61, 62, 63, 64, 65, 66, 67, 68] (by decide +kernel) (by decide +kernel)) (goodIn_sub (fun _ h => List.mem_cons_of_mem _ (List.mem_append_right _ h)) (by decide +kernel))
set_option maxRecDepth 20000 in
theorem gL_origin_X6_origin : GoodIn wsL_origin (wsV RL 72 RX6 yX6_origin wsX6_origin) := goodIn_app (goodIn_of _ (by decide +kernel)) ggL_origin_X6_origin
theorem dL_origin_0 : decode cL_origin 0 = .ok (.aload_n 3, 1) := by decide +kernel
theorem dL_origin_1 : decode cL_origin 1 = .ok (.iconst 0, 1) := by decide +kernel
theorem dL_origin_2 : decode cL_origin 2 = .ok (.aload_n 0, 1) := by decide +kernel
theorem dL_origin_3 : decode cL_origin 3 = .ok (.iload_n 1, 1) := by decide +kernel
theorem dL_origin_4 : decode cL_origin 4 = .ok (.iload_n 2, 1) := by decide +kernel
theorem dL_origin_5 : decode cL_origin 5 = .ok (.invokevirtual 72, 3) := by decide +kernel
theorem dL_origin_8 : decode cL_origin 8 = .ok (.i2l, 1) := by decide +kernel
theorem dL_origin_9 : decode cL_origin 9 = .ok (.lastore, 1) := by decide +kernel
theorem dL_origin_10 : decode cL_origin 10 = .ok (.goto 7, 3) := by decide +kernel
theorem dL_origin_13 : decode cL_origin 13 = .ok (.astore 4, 2) := by decide +kernel
theorem dL_origin_15 : decode cL_origin 15 = .ok (.iconst 1, 1) := by decide +kernel
theorem dL_origin_16 : decode cL_origin 16 = .ok (.ireturn, 1) := by decide +kernel
theorem dL_origin_17 : decode cL_origin 17 = .ok (.iconst 0, 1) := by decide +kernel
theorem dL_origin_18 : decode cL_origin 18 = .ok (.ireturn, 1) := by decide +kernel
set_option maxRecDepth 20000 in
theorem ggL_refers_X6_refers : GoodIn wsL_refers wsX6_refers := goodIn_ca (goodIn_r _ [6, 7, 8, 9, 10, 11, 12, 5, 13, 14, 15, 16, 17, 18, 19, 20, 21, 22, 23, 24, 25, 26, 27, 28, 29, 30, 31, 32, 33, 34, 35, 36, 37, 38, 39, 40, 41, 42, 43, 44, 45, 46, 47, 48, 49, 50, 51, 52, 53, 54, 55, 56, 57, 58, 59, 60, 61, 62, 63, 64, 65, 66, 67, 68, 69, 70, 71, 72, 73, 74, 75, 76, 77, 78, 79, 80, 81, 82, 83, 84, 85, 86, 87, 88, 89, 90, 91, 92, 93, 94, 95, 96, 97, 98, 99, 100, 101, 102, 103, 104, 105, 106, 107, 108, 109, 110, 111, 112, 113, 114, 115, 116, 117, 118, 119, 120, 121, 122, 123, 124, 125, 126, 127, 128, 129, 130, 131, 132, 133, 134, 135, 136, 137, 138, 139, 140, 141, 142, 143, 144, 145, 146, 147, 148, 149, 150, 151, 152, 153, 154, 155, 156, 157, 158, 159, 160, 161, 162, 163, 164, 165, 166, 167, 168, 169, 170, 171, 172, 173, 174, 175, 176, 177, 178, 179, 180, 181, 182, 183, 184, 185, 186, 187, 188, 189, 190, 191, 192, 193, 194, 195, 196, 197, 198, 199, 200, 201, 202, 203, 204, 205, 206, 207, 208, 209, 210, 211, 212, 213, 214, 215, 216, 217, 218, 219, 220, 221, 222, 223, 224, 225, 226, 227, 228, 229, 230, 231, 232, 233, 234, 235, 236, 237, 238, 239, 240, 241, 242, 243, 244, 245, 246, 247, 248, 249, 250, 251, 252, 253, 254, 255, 256, 257, 258, 259, 260, 261, 262, 263, 264, 265, 266, 267, 268, 269, 270, 271, 272, 273, 274, 275, 276, 277, 278, 279, 280, 281, 282, 283, 284, 285, 286, 287, 288, 289, 290, 291, 292, 293, 294, 295, 296, 297, 298, 299, 300, 301, 302, 303, 304, 305, 306, 307, 308, 309, 310, 311, 312, 313, 314, 315, 316, 317, 318, 319, 320, 321, 322, 323, 324, 325, 326, 327, 328, 329, 330, 331, 332, 333, 334, 335, 336, 337, 338, 339, 340, 341, 342, 343, 344, 345, 346, 347, 348, 349, 350, 351, 352, 353, 354, 355] (by decide +kernel) (by decide +kernel)) (goodIn_sub (fun _ h => List.mem_cons_of_mem _ (List.mem_append_right _ h)) (by decide +kernel))
set_option maxRecDepth 20000 in
theorem gL_refers_X6_refers : GoodIn wsL_refers (wsV RL 75 RX6 yX6_refers wsX6_refers) := goodIn_app (goodIn_of _ (by decide +kernel)) ggL_refers_X6_refers
theorem dL_refers_0 : decode cL_refers 0 = .ok (.aload_n 3, 1) := by decide +kernel
theorem dL_refers_1 : decode cL_refers 1 = .ok (.iconst 0, 1) := by decide +kernel
theorem dL_refers_2 : decode cL_refers 2 = .ok (.aload_n 0, 1) := by decide +kernel
theorem dL_refers_3 : decode cL_refers 3 = .ok (.iload_n 1, 1) := by decide +kernel
theorem dL_refers_4 : decode cL_refers 4 = .ok (.iload_n 2, 1) := by decide +kernel
theorem dL_refers_5 : decode cL_refers 5 = .ok (.invokevirtual 75, 3) := by decide +kernel
theorem dL_refers_8 : decode cL_refers 8 = .ok (.i2l, 1) := by decide +kernel
theorem dL_refers_9 : decode cL_refers 9 = .ok (.lastore, 1) := by decide +kernel
theorem dL_refers_10 : decode cL_refers 10 = .ok (.goto 7, 3) := by decide +kernel
theorem dL_refers_13 : decode cL_refers 13 = .ok (.astore 4, 2) := by decide +kernel
theorem dL_refers_15 : decode cL_refers 15 = .ok (.iconst 1, 1) := by decide +kernel
theorem dL_refers_16 : decode cL_refers 16 = .ok (.ireturn, 1) := by decide +kernel
theorem dL_refers_17 : decode cL_refers 17 = .ok (.iconst 0, 1) := by decide +kernel
theorem dL_refers_18 : decode cL_refers 18 = .ok (.ireturn, 1) := by decide +kernel
set_option maxRecDepth 20000 in
theorem ggL_state_X6_state : GoodIn wsL_state wsX6_state := goodIn_ca (goodIn_r _ [6, 7, 8, 9, 10, 5, 11, 12, 13, 14, 15, 16, 17, 18, 19, 20, 21, 22, 23, 24, 25, 26, 27, 28, 29, 30, 31, 32, 33, 34, 35, 36, 37, 38, 39, 40, 41, 42, 43, 44, 45, 46, 47, 48, 49, 50, 51, 52, 53, 54, 55, 56, 57, 58, 59, 60, 61, 62, 63, 64, 65, 66, 67, 68] (by decide +kernel) (by decide +kernel)) (goodIn_sub (fun _ h => List.mem_cons_of_mem _ (List.mem_append_right _ h)) (by decide +kernel))
set_option maxRecDepth 20000 in
theorem gL_state_X6_state : GoodIn wsL_state (wsV RL 78 RX6 yX6_state wsX6_state) := goodIn_app (goodIn_of _ (by decide +kernel)) ggL_state_X6_state
theorem dL_state_0 : decode cL_state 0 = .ok (.aload_n 2, 1) := by decide +kernel
theorem dL_state_1 : decode cL_state 1 = .ok (.iconst 0, 1) := by decide +kernel
theorem dL_state_2 : decode cL_state 2 = .ok (.aload_n 0, 1) := by decide +kernel
theorem dL_state_3 : decode cL_state 3 = .ok (.iload_n 1, 1) := by decide +kernel
theorem dL_state_4 : decode cL_state 4 = .ok (.invokevirtual 78, 3) := by decide +kernel
theorem dL_state_7 : decode cL_state 7 = .ok (.i2l, 1) := by decide +kernel
theorem dL_state_8 : decode cL_state 8 = .ok (.lastore, 1) := by decide +kernel
theorem dL_state_9 : decode cL_state 9 = .ok (.goto 6, 3) := by decide +kernel
theorem dL_state_12 : decode cL_state 12 = .ok (.astore_n 3, 1) := by decide +kernel
theorem dL_state_13 : decode cL_state 13 = .ok (.iconst 1, 1) := by decide +kernel
theorem dL_state_14 : decode cL_state 14 = .ok (.ireturn, 1) := by decide +kernel
theorem dL_state_15 : decode cL_state 15 = .ok (.iconst 0, 1) := by decide +kernel
theorem dL_state_16 : decode cL_state 16 = .ok (.ireturn, 1) := by decide +kernel
set_option maxRecDepth 20000 in
theorem ggL_commences_X6_commences : GoodIn wsL_commences wsX6_commences := goodIn_ca (goodIn_r _ [6, 7, 8, 9, 10, 5, 11, 12, 13, 14, 15, 16, 17, 18, 19, 20, 21, 22, 23, 24, 25, 26, 27, 28, 29, 30, 31, 32, 33, 34, 35, 36, 37, 38, 39, 40, 41, 42, 43, 44, 45, 46, 47, 48, 49, 50, 51, 52, 53, 54, 55, 56, 57, 58, 59, 60, 61, 62, 63, 64, 65, 66, 67, 68] (by decide +kernel) (by decide +kernel)) (goodIn_sub (fun _ h => List.mem_cons_of_mem _ (List.mem_append_right _ h)) (by decide +kernel))
set_option maxRecDepth 20000 in
theorem gL_commences_X6_commences : GoodIn wsL_commences (wsV RL 81 RX6 yX6_commences wsX6_commences) := goodIn_app (goodIn_of _ (by decide +kernel)) ggL_commences_X6_commences
theorem dL_commences_0 : decode cL_commences 0 = .ok (.aload_n 2, 1) := by decide +kernel
theorem dL_commences_1 : decode cL_commences 1 = .ok (.iconst 0, 1) := by decide +kernel
theorem dL_commences_2 : decode cL_commences 2 = .ok (.aload_n 0, 1) := by decide +kernel
theorem dL_commences_3 : decode cL_commences 3 = .ok (.iload_n 1, 1) := by decide +kernel
theorem dL_commences_4 : decode cL_commences 4 = .ok (.invokevirtual 81, 3) := by decide +kernel
theorem dL_commences_7 : decode cL_commences 7 = .ok (.i2l, 1) := by decide +kernel
theorem dL_commences_8 : decode cL_commences 8 = .ok (.lastore, 1) := by decide +kernel
theorem dL_commences_9 : decode cL_commences 9 = .ok (.goto 6, 3) := by decide +kernel
theorem dL_commences_12 : decode cL_commences 12 = .ok (.astore_n 3, 1) := by decide +kernel
theorem dL_commences_13 : decode cL_commences 13 = .ok (.iconst 1, 1) := by decide +kernel
theorem dL_commences_14 : decode cL_commences 14 = .ok (.ireturn, 1) := by decide +kernel
theorem dL_commences_15 : decode cL_commences 15 = .ok (.iconst 0, 1) := by decide +kernel
theorem dL_commences_16 : decode cL_commences 16 = .ok (.ireturn, 1) := by decide +kernel
set_option maxRecDepth 20000 in
theorem ggL_law_X6_init : GoodIn wsL_law wsX6_init := goodIn_r _ [9, 10, 11, 12, 13, 14, 15, 16, 17, 18, 19, 20, 21, 22, 23, 24, 25, 26, 27, 28, 29, 30, 31, 32, 33, 34, 35, 36, 37, 38, 39, 40, 41, 42, 43, 44, 45, 46, 47, 48, 49, 50, 51, 52, 53, 54, 55, 56, 57, 58, 59, 60, 61, 62, 63, 64, 65, 66, 67, 68, 69, 70, 71, 72, 73, 74, 75, 76, 77, 78, 79, 80, 81, 82, 83, 84, 85, 86, 87, 88, 89, 90, 91, 92, 93, 94, 95, 96, 97, 98, 99, 100, 101, 102, 103, 104, 105, 106, 107, 108, 109, 110, 111, 112, 113, 114, 115, 116, 117, 118, 119, 120, 121, 122, 123, 124, 125, 126, 127, 128, 129, 130, 1008, 1009, 1010, 951, 952, 953, 954, 955, 956, 957, 958, 1011, 1012, 1013, 1014, 1015, 1016, 1017, 1018, 1019, 1020, 1021, 1022, 1023, 1024, 1025, 1026, 1027, 1028, 1029, 1030, 1031, 1032, 1033, 1034, 1035, 1036, 1037, 1038, 1039, 1040, 1041, 1042, 1043, 1044, 1045, 1046, 1047, 1048] (by decide +kernel) (by decide +kernel)
set_option maxRecDepth 20000 in
theorem gL_law_X6_init : GoodIn wsL_law (wsX6_init) := ggL_law_X6_init
set_option maxRecDepth 20000 in
theorem ggL_law_X7_init : GoodIn wsL_law wsX7_init := goodIn_r _ [133, 134, 11, 12, 54, 135, 136, 137, 138, 139, 140, 141, 142, 143, 144, 145, 146, 147, 148, 149, 150, 151, 152, 153, 154, 155, 156, 157, 158, 159, 160, 161, 162, 163, 164, 165, 166, 167, 168, 169, 170, 171, 959, 960, 961, 962, 963, 964, 965, 966, 967, 968, 969, 970, 971, 972, 973, 974, 975, 976, 977, 978, 979, 980, 981, 982, 983, 984, 985, 986, 987, 988, 989, 990, 991, 992, 993, 994, 995, 996, 997, 998, 999, 1000, 1001, 1002, 1003, 1004, 1005, 1006, 1007] (by decide +kernel) (by decide +kernel)
set_option maxRecDepth 20000 in
theorem gL_law_X7_init : GoodIn wsL_law (wsX7_init) := ggL_law_X7_init
set_option maxRecDepth 20000 in
theorem ggL_law_L_pass : GoodIn wsL_law wsL_pass := goodIn_ca (goodIn_ca (goodIn_r _ [175, 176, 177, 178, 179, 180, 2, 181, 182, 183, 184, 185, 29, 951, 952, 953, 954, 955, 956, 957, 958] (by decide +kernel) (by decide +kernel)) (goodIn_sub (fun _ h => List.mem_append_left _ (List.mem_append_left _ (List.mem_append_right _ h))) (by decide +kernel))) (goodIn_sub (fun _ h => List.mem_append_left _ (List.mem_append_right _ h)) (by decide +kernel))
set_option maxRecDepth 20000 in
theorem gL_law_L_pass : GoodIn wsL_law (va_wsS RL 88 yL_pass wsL_pass) := goodIn_app (goodIn_of _ (by decide +kernel)) ggL_law_L_pass
set_option maxRecDepth 20000 in
theorem ggL_law_X7_pass : GoodIn wsL_law wsX7_pass := goodIn_r _ [189, 190, 191, 192, 5, 193, 194, 195, 196, 197, 198, 959, 960, 961, 962, 963, 964, 965, 966, 967, 968, 969, 970, 971, 972, 973, 974, 975, 976, 977, 978, 979, 980, 981, 982, 983, 984, 985, 986, 987, 988, 989, 990, 991, 992, 993, 994, 995, 996, 997, 998, 999, 1000, 1001, 1002, 1003, 1004, 1005, 1006, 1007] (by decide +kernel) (by decide +kernel)
set_option maxRecDepth 20000 in
theorem gL_law_X7_pass : GoodIn wsL_law (wsV RL 93 RX7 yX7_pass wsX7_pass) := goodIn_app (goodIn_of _ (by decide +kernel)) ggL_law_X7_pass
set_option maxRecDepth 20000 in
theorem ggL_law_X7_thrown : GoodIn wsL_law wsX7_thrown := goodIn_r _ [202, 198, 959, 960, 961, 962, 963, 964, 965, 966, 967, 968, 969, 970, 971, 972, 973, 974, 975, 976, 977, 978, 979, 980, 981, 982, 983, 984, 985, 986, 987, 988, 989, 990, 991, 992, 993, 994, 995, 996, 997, 998, 999, 1000, 1001, 1002, 1003, 1004, 1005, 1006, 1007] (by decide +kernel) (by decide +kernel)
set_option maxRecDepth 20000 in
theorem gL_law_X7_thrown : GoodIn wsL_law (wsV RL 94 RX7 yX7_thrown wsX7_thrown) := goodIn_app (goodIn_of _ (by decide +kernel)) ggL_law_X7_thrown
set_option maxRecDepth 20000 in
theorem ggL_law_L_act : GoodIn wsL_law wsL_act := goodIn_ca (goodIn_r _ [205, 177, 206, 207, 208, 2, 209, 184, 185, 30, 29, 31, 951, 952, 953, 954, 955, 956, 957, 958] (by decide +kernel) (by decide +kernel)) (goodIn_sub (fun _ h => List.mem_append_left _ (List.mem_append_right _ h)) (by decide +kernel))
set_option maxRecDepth 20000 in
theorem gL_law_L_act : GoodIn wsL_law (va_wsS RL 97 yL_act wsL_act) := goodIn_app (goodIn_of _ (by decide +kernel)) ggL_law_L_act
set_option maxRecDepth 20000 in
theorem ggL_law_X7_act : GoodIn wsL_law wsX7_act := goodIn_r _ [213, 214, 135, 190, 194, 195, 196, 5, 197, 198, 959, 960, 961, 962, 963, 964, 965, 966, 967, 968, 969, 970, 971, 972, 973, 974, 975, 976, 977, 978, 979, 980, 981, 982, 983, 984, 985, 986, 987, 988, 989, 990, 991, 992, 993, 994, 995, 996, 997, 998, 999, 1000, 1001, 1002, 1003, 1004, 1005, 1006, 1007] (by decide +kernel) (by decide +kernel)
set_option maxRecDepth 20000 in
theorem gL_law_X7_act : GoodIn wsL_law (wsV RL 100 RX7 yX7_act wsX7_act) := goodIn_app (goodIn_of _ (by decide +kernel)) ggL_law_X7_act
set_option maxRecDepth 20000 in
theorem ggL_law_L_terms : GoodIn wsL_law wsL_terms := goodIn_ca (goodIn_ca (goodIn_r _ [217, 218, 176, 219, 220, 221, 2, 222, 182, 183, 28, 25, 26, 27, 223, 224, 225, 226, 227, 228, 229, 16, 230, 231, 232, 233, 15, 234, 88, 235, 236, 237, 238, 239, 240, 241, 242, 243, 244, 245, 246, 247, 248, 249, 250, 37, 251, 252, 253, 89, 90, 91, 92, 11, 12, 93, 94, 95, 96, 951, 952, 953, 954, 955, 956, 957, 958, 1037, 1038, 1039, 1040, 1024, 1025, 1026, 1027, 1028, 1029, 1030, 1031, 1032, 1033, 1034, 1035, 1036, 1008, 1009, 1010] (by decide +kernel) (by decide +kernel)) (goodIn_sub (fun _ h => List.mem_append_left _ (List.mem_append_left _ (List.mem_append_right _ h))) (by decide +kernel))) (goodIn_sub (fun _ h => List.mem_append_right _ h) (by decide +kernel))
set_option maxRecDepth 20000 in
theorem gL_law_L_terms : GoodIn wsL_law (va_wsS RL 101 yL_terms wsL_terms) := goodIn_app (goodIn_of _ (by decide +kernel)) ggL_law_L_terms
set_option maxRecDepth 20000 in
theorem ggL_law_X7_terms : GoodIn wsL_law wsX7_terms := goodIn_r _ [257, 258, 259, 136, 137, 191, 192, 5, 193, 260, 261, 262, 263, 264, 265, 266, 267, 194, 195, 196, 197, 198, 959, 960, 961, 962, 963, 964, 965, 966, 967, 968, 969, 970, 971, 972, 973, 974, 975, 976, 977, 978, 979, 980, 981, 982, 983, 984, 985, 986, 987, 988, 989, 990, 991, 992, 993, 994, 995, 996, 997, 998, 999, 1000, 1001, 1002, 1003, 1004, 1005, 1006, 1007] (by decide +kernel) (by decide +kernel)
set_option maxRecDepth 20000 in
theorem gL_law_X7_terms : GoodIn wsL_law (wsV RL 104 RX7 yX7_terms wsX7_terms) := goodIn_app (goodIn_of _ (by decide +kernel)) ggL_law_X7_terms
set_option maxRecDepth 20000 in
theorem ggL_law_L_word : GoodIn wsL_law wsL_word := goodIn_ca (goodIn_ca (goodIn_r _ [270, 176, 177, 271, 272, 273, 2, 274, 182, 183, 184, 185, 28, 275, 276, 277, 278, 279, 280, 110, 281, 124, 123, 951, 952, 953, 954, 955, 956, 957, 958, 1024, 1025, 1026, 1027, 1028, 1029, 1030, 1031, 1032, 1033, 1034, 1035, 1036, 1044, 1045] (by decide +kernel) (by decide +kernel)) (goodIn_sub (fun _ h => List.mem_append_left _ (List.mem_append_left _ (List.mem_append_right _ h))) (by decide +kernel))) (goodIn_sub (fun _ h => List.mem_append_left _ (List.mem_append_right _ h)) (by decide +kernel))
set_option maxRecDepth 20000 in
theorem gL_law_L_word : GoodIn wsL_law (va_wsS RL 105 yL_word wsL_word) := goodIn_app (goodIn_of _ (by decide +kernel)) ggL_law_L_word
set_option maxRecDepth 20000 in
theorem ggL_law_X7_word : GoodIn wsL_law wsX7_word := goodIn_r _ [285, 286, 287, 139, 138, 191, 192, 5, 193, 194, 195, 196, 197, 198, 959, 960, 961, 962, 963, 964, 965, 966, 967, 968, 969, 970, 971, 972, 973, 974, 975, 976, 977, 978, 979, 980, 981, 982, 983, 984, 985, 986, 987, 988, 989, 990, 991, 992, 993, 994, 995, 996, 997, 998, 999, 1000, 1001, 1002, 1003, 1004, 1005, 1006, 1007] (by decide +kernel) (by decide +kernel)
set_option maxRecDepth 20000 in
theorem gL_law_X7_word : GoodIn wsL_law (wsV RL 108 RX7 yX7_word wsX7_word) := goodIn_app (goodIn_of _ (by decide +kernel)) ggL_law_X7_word
set_option maxRecDepth 20000 in
theorem ggL_law_L_enact : GoodIn wsL_law wsL_enact := goodIn_ca (goodIn_ca (goodIn_ca (goodIn_r _ [290, 218, 176, 177, 291, 292, 293, 2, 294, 184, 185, 32, 28, 276, 277, 295, 296, 20, 16, 297, 298, 299, 300, 301, 302, 303, 304, 228, 229, 305, 306, 307, 182, 183, 308, 309, 310, 311, 31, 29, 231, 232, 233, 15, 234, 88, 312, 313, 314, 315, 316, 317, 318, 319, 30, 320, 321, 322, 323, 22, 23, 24, 223, 324, 325, 326, 327, 86, 87, 37, 328, 329, 330, 331, 332, 333, 334, 335, 336, 337, 338, 339, 36, 340, 341, 342, 343, 344, 345, 346, 347, 348, 349, 350, 351, 352, 353, 354, 355, 356, 357, 358, 359, 360, 361, 362, 363, 364, 365, 366, 367, 368, 369, 370, 371, 372, 373, 97, 98, 99, 100, 11, 12, 101, 102, 103, 104, 105, 106, 107, 108, 109, 110, 111, 112, 113, 114, 115, 116, 117, 118, 119, 120, 121, 122, 54, 123, 124, 125, 126, 127, 128, 129, 130, 374, 375, 376, 19, 377, 378, 55, 53, 379, 56, 78, 79, 80, 81, 67, 58, 59, 60, 82, 83, 84, 85, 380, 381, 236, 237, 238, 239, 240, 241, 242, 243, 244, 245, 246, 247, 248, 249, 250, 382, 383, 384, 385, 386, 69, 387, 388, 389, 390, 391, 392, 393, 394, 395, 396, 397, 398, 399, 400, 401, 402, 403, 404, 405, 406, 407, 68, 70, 408, 409, 410, 411, 412, 27, 413, 95, 414, 415, 416, 417, 96, 418, 419, 420, 421, 422, 423, 424, 425, 426, 427, 428, 429, 430, 431, 432, 433, 434, 435, 436, 437, 438, 439, 440, 441, 62, 442, 443, 444, 445, 446, 447, 448, 449, 450, 451, 452, 453, 454, 455, 456, 457, 458, 459, 460, 461, 462, 463, 464, 465, 466, 467, 468, 469, 470, 471, 472, 64, 473, 77, 474, 475, 476, 477, 478, 75, 479, 76, 480, 481, 482, 483, 484, 485, 486, 487, 488, 489, 490, 491, 492, 493, 494, 495, 496, 497, 498, 499, 500, 501, 502, 503, 504, 505, 506, 507, 508, 509, 510, 511, 512, 513, 514, 515, 516, 517, 518, 519, 520, 521, 522, 523, 524, 525, 526, 527, 528, 66, 529, 530, 531, 532, 533, 534, 535, 951, 952, 953, 954, 955, 956, 957, 958, 1024, 1025, 1026, 1027, 1028, 1029, 1030, 1031, 1032, 1033, 1034, 1035, 1036, 1044, 1045, 1008, 1009, 1010, 1046, 1047, 1048, 1011, 1012, 1013, 1014, 1015, 1016, 1017, 1018, 1019, 1020, 1021, 1022, 1023, 1037, 1038, 1039, 1040, 1041, 1042, 1043] (by decide +kernel) (by decide +kernel)) (goodIn_sub (fun _ h => List.mem_append_left _ (List.mem_append_right _ h)) (by decide +kernel))) (goodIn_sub (fun _ h => List.mem_append_right _ h) (by decide +kernel))) (goodIn_sub (fun _ h => List.mem_append_left _ (List.mem_append_left _ (List.mem_append_right _ h))) (by decide +kernel))
set_option maxRecDepth 20000 in
theorem gL_law_L_enact : GoodIn wsL_law (va_wsS RL 109 yL_enact wsL_enact) := goodIn_app (goodIn_of _ (by decide +kernel)) ggL_law_L_enact
set_option maxRecDepth 20000 in
theorem ggL_law_X7_enact : GoodIn wsL_law wsX7_enact := goodIn_r _ [539, 540, 287, 541, 542, 543, 5, 544, 191, 192, 193, 545, 546, 547, 548, 549, 550, 551, 214, 135, 190, 267, 194, 195, 196, 197, 198, 552, 553, 554, 555, 140, 141, 142, 143, 144, 145, 147, 286, 146, 138, 148, 139, 149, 258, 150, 259, 151, 136, 152, 137, 153, 155, 157, 959, 960, 961, 962, 963, 964, 965, 966, 967, 968, 969, 970, 971, 972, 973, 974, 975, 976, 977, 978, 979, 980, 981, 982, 983, 984, 985, 986, 987, 988, 989, 990, 991, 992, 993, 994, 995, 996, 997, 998, 999, 1000, 1001, 1002, 1003, 1004, 1005, 1006, 1007] (by decide +kernel) (by decide +kernel)
set_option maxRecDepth 20000 in
theorem gL_law_X7_enact : GoodIn wsL_law (wsV RL 112 RX7 yX7_enact wsX7_enact) := goodIn_app (goodIn_of _ (by decide +kernel)) ggL_law_X7_enact
set_option maxRecDepth 20000 in
theorem ggL_law_L_instruct : GoodIn wsL_law wsL_instruct := goodIn_ca (goodIn_ca (goodIn_ca (goodIn_r _ [558, 218, 176, 177, 559, 560, 561, 2, 562, 182, 183, 184, 185, 28, 295, 296, 20, 16, 224, 225, 226, 227, 228, 229, 230, 231, 232, 233, 15, 234, 88, 235, 236, 237, 238, 239, 240, 241, 242, 243, 244, 245, 246, 247, 248, 249, 250, 37, 301, 302, 303, 304, 32, 297, 298, 299, 300, 305, 306, 307, 308, 309, 310, 311, 31, 29, 563, 564, 565, 24, 566, 112, 567, 111, 312, 313, 314, 315, 316, 317, 318, 319, 30, 320, 321, 322, 323, 22, 23, 223, 324, 325, 326, 327, 86, 87, 328, 329, 330, 331, 332, 333, 334, 335, 336, 337, 338, 339, 36, 340, 341, 342, 343, 344, 345, 346, 347, 348, 349, 350, 351, 352, 353, 354, 355, 356, 357, 358, 359, 360, 361, 362, 363, 364, 365, 366, 367, 368, 369, 370, 371, 372, 373, 97, 98, 99, 100, 11, 12, 101, 102, 103, 104, 105, 106, 107, 108, 109, 110, 113, 114, 115, 116, 117, 118, 119, 120, 121, 122, 54, 123, 124, 125, 126, 127, 128, 129, 130, 374, 375, 376, 19, 377, 378, 55, 53, 379, 56, 78, 79, 80, 81, 67, 58, 59, 60, 82, 83, 84, 85, 380, 381, 382, 383, 384, 385, 386, 69, 387, 388, 389, 390, 391, 392, 393, 394, 395, 396, 397, 398, 399, 400, 401, 402, 403, 404, 405, 406, 407, 68, 70, 408, 409, 410, 411, 412, 27, 413, 95, 414, 415, 416, 417, 96, 418, 419, 420, 421, 422, 423, 424, 425, 426, 427, 428, 429, 430, 431, 432, 433, 434, 435, 436, 437, 438, 439, 440, 441, 62, 442, 443, 444, 445, 446, 447, 448, 449, 450, 451, 452, 453, 454, 455, 456, 457, 458, 459, 460, 461, 462, 463, 464, 465, 466, 467, 468, 469, 470, 471, 472, 64, 473, 77, 474, 475, 476, 477, 478, 75, 479, 76, 480, 481, 482, 483, 484, 485, 486, 487, 488, 489, 490, 491, 492, 493, 494, 495, 496, 497, 498, 499, 500, 501, 502, 503, 504, 505, 506, 507, 508, 509, 510, 511, 512, 513, 514, 515, 516, 517, 518, 519, 520, 521, 522, 523, 524, 525, 526, 527, 528, 66, 529, 530, 531, 532, 533, 534, 535, 951, 952, 953, 954, 955, 956, 957, 958, 1024, 1025, 1026, 1027, 1028, 1029, 1030, 1031, 1032, 1033, 1034, 1035, 1036, 1008, 1009, 1010, 1044, 1045, 1046, 1047, 1048, 1011, 1012, 1013, 1014, 1015, 1016, 1017, 1018, 1019, 1020, 1021, 1022, 1023, 1037, 1038, 1039, 1040, 1041, 1042, 1043] (by decide +kernel) (by decide +kernel)) (goodIn_sub (fun _ h => List.mem_append_left _ (List.mem_append_left _ (List.mem_append_right _ h))) (by decide +kernel))) (goodIn_sub (fun _ h => List.mem_append_left _ (List.mem_append_right _ h)) (by decide +kernel))) (goodIn_sub (fun _ h => List.mem_append_right _ h) (by decide +kernel))
set_option maxRecDepth 20000 in
theorem gL_law_L_instruct : GoodIn wsL_law (va_wsS RL 113 yL_instruct wsL_instruct) := goodIn_app (goodIn_of _ (by decide +kernel)) ggL_law_L_instruct
set_option maxRecDepth 20000 in
theorem ggL_law_X7_instruct : GoodIn wsL_law wsX7_instruct := goodIn_r _ [571, 287, 286, 263, 264, 265, 5, 266, 267, 191, 192, 193, 541, 542, 543, 544, 540, 545, 546, 547, 548, 549, 550, 551, 214, 135, 190, 194, 195, 196, 197, 198, 552, 553, 554, 555, 140, 141, 142, 143, 144, 145, 147, 146, 138, 148, 139, 149, 258, 150, 259, 151, 136, 152, 137, 153, 155, 157, 959, 960, 961, 962, 963, 964, 965, 966, 967, 968, 969, 970, 971, 972, 973, 974, 975, 976, 977, 978, 979, 980, 981, 982, 983, 984, 985, 986, 987, 988, 989, 990, 991, 992, 993, 994, 995, 996, 997, 998, 999, 1000, 1001, 1002, 1003, 1004, 1005, 1006, 1007] (by decide +kernel) (by decide +kernel)
set_option maxRecDepth 20000 in
theorem gL_law_X7_instruct : GoodIn wsL_law (wsV RL 116 RX7 yX7_instruct wsX7_instruct) := goodIn_app (goodIn_of _ (by decide +kernel)) ggL_law_X7_instruct
set_option maxRecDepth 20000 in
theorem ggL_law_L_order : GoodIn wsL_law wsL_order := goodIn_ca (goodIn_ca (goodIn_ca (goodIn_r _ [574, 218, 176, 177, 575, 576, 577, 2, 578, 184, 185, 223, 579, 580, 29, 20, 16, 224, 225, 226, 227, 228, 229, 230, 231, 232, 233, 15, 234, 88, 235, 236, 237, 238, 239, 240, 241, 242, 243, 244, 245, 246, 247, 248, 249, 250, 37, 251, 252, 253, 182, 183, 581, 397, 398, 115, 399, 128, 582, 583, 584, 585, 129, 130, 374, 375, 376, 19, 377, 378, 55, 53, 379, 56, 78, 79, 80, 81, 67, 58, 59, 60, 82, 83, 84, 85, 86, 87, 380, 381, 382, 383, 384, 385, 386, 69, 387, 388, 389, 390, 391, 392, 393, 394, 395, 396, 400, 401, 402, 403, 404, 405, 406, 407, 68, 70, 408, 409, 410, 411, 412, 27, 413, 95, 414, 415, 416, 417, 96, 418, 419, 420, 421, 422, 423, 424, 425, 426, 427, 428, 429, 430, 431, 371, 372, 373, 432, 433, 434, 435, 332, 333, 334, 335, 336, 337, 338, 339, 36, 340, 341, 342, 343, 344, 345, 346, 347, 348, 349, 350, 351, 352, 353, 354, 355, 356, 357, 358, 359, 360, 361, 362, 363, 364, 365, 366, 367, 368, 369, 370, 436, 437, 438, 439, 440, 441, 62, 442, 443, 444, 445, 446, 447, 448, 449, 450, 451, 452, 453, 454, 455, 456, 457, 458, 459, 460, 461, 462, 463, 464, 465, 466, 467, 468, 469, 470, 471, 472, 64, 473, 77, 474, 475, 476, 477, 478, 75, 479, 76, 480, 481, 482, 483, 484, 485, 486, 487, 488, 489, 490, 491, 492, 493, 494, 495, 496, 497, 498, 499, 500, 501, 502, 503, 504, 505, 506, 507, 508, 509, 510, 511, 512, 513, 514, 515, 516, 517, 518, 519, 520, 521, 522, 523, 524, 525, 526, 527, 528, 66, 529, 530, 531, 532, 533, 534, 535, 1024, 1025, 1026, 1027, 1028, 1029, 1030, 1031, 1032, 1033, 1034, 1035, 1036, 1037, 1038, 1039, 1040, 951, 952, 953, 954, 955, 956, 957, 958, 1008, 1009, 1010, 1046, 1047, 1048, 1011, 1012, 1013, 1014, 1015, 1016, 1017, 1018, 1019, 1020, 1021, 1022, 1023, 1041, 1042, 1043, 1044, 1045] (by decide +kernel) (by decide +kernel)) (goodIn_sub (fun _ h => List.mem_append_left _ (List.mem_append_right _ h)) (by decide +kernel))) (goodIn_sub (fun _ h => List.mem_append_right _ h) (by decide +kernel))) (goodIn_sub (fun _ h => List.mem_append_left _ (List.mem_append_left _ (List.mem_append_right _ h))) (by decide +kernel))
set_option maxRecDepth 20000 in
theorem gL_law_L_order : GoodIn wsL_law (va_wsS RL 117 yL_order wsL_order) := goodIn_app (goodIn_of _ (by decide +kernel)) ggL_law_L_order
set_option maxRecDepth 20000 in
theorem ggL_law_X7_order : GoodIn wsL_law wsX7_order := goodIn_r _ [589, 149, 153, 190, 154, 263, 264, 265, 5, 266, 267, 191, 192, 193, 260, 261, 262, 590, 591, 592, 593, 194, 195, 196, 197, 198, 959, 960, 961, 962, 963, 964, 965, 966, 967, 968, 969, 970, 971, 972, 973, 974, 975, 976, 977, 978, 979, 980, 981, 982, 983, 984, 985, 986, 987, 988, 989, 990, 991, 992, 993, 994, 995, 996, 997, 998, 999, 1000, 1001, 1002, 1003, 1004, 1005, 1006, 1007] (by decide +kernel) (by decide +kernel)
set_option maxRecDepth 20000 in
theorem gL_law_X7_order : GoodIn wsL_law (wsV RL 120 RX7 yX7_order wsX7_order) := goodIn_app (goodIn_of _ (by decide +kernel)) ggL_law_X7_order
set_option maxRecDepth 20000 in
theorem ggL_law_L_strike : GoodIn wsL_law wsL_strike := goodIn_ca (goodIn_ca (goodIn_ca (goodIn_r _ [596, 218, 176, 177, 597, 598, 599, 2, 600, 184, 185, 601, 29, 20, 16, 224, 225, 226, 227, 228, 229, 230, 231, 232, 233, 15, 234, 88, 235, 236, 237, 238, 239, 240, 241, 242, 243, 244, 245, 246, 247, 248, 249, 250, 37, 251, 252, 253, 182, 183, 581, 397, 398, 115, 399, 128, 582, 583, 584, 585, 129, 130, 374, 375, 376, 19, 377, 378, 55, 53, 379, 56, 78, 79, 80, 81, 67, 58, 59, 60, 82, 83, 84, 85, 86, 87, 380, 381, 382, 383, 384, 385, 386, 69, 387, 388, 389, 390, 391, 392, 393, 394, 395, 396, 400, 401, 402, 403, 404, 405, 406, 407, 68, 70, 408, 409, 410, 411, 412, 27, 413, 95, 414, 415, 416, 417, 96, 418, 419, 420, 421, 422, 423, 424, 425, 426, 427, 428, 429, 430, 431, 371, 372, 373, 432, 433, 434, 435, 332, 333, 334, 335, 336, 337, 338, 339, 36, 340, 341, 342, 343, 344, 345, 346, 347, 348, 349, 350, 351, 352, 353, 354, 355, 356, 357, 358, 359, 360, 361, 362, 363, 364, 365, 366, 367, 368, 369, 370, 436, 437, 438, 439, 440, 441, 62, 442, 443, 444, 445, 446, 447, 448, 449, 450, 451, 452, 453, 454, 455, 456, 457, 458, 459, 460, 461, 462, 463, 464, 465, 466, 467, 468, 469, 470, 471, 472, 64, 473, 77, 474, 475, 476, 477, 478, 75, 479, 76, 480, 481, 482, 483, 484, 485, 486, 487, 488, 489, 490, 491, 492, 493, 494, 495, 496, 497, 498, 499, 500, 501, 502, 503, 504, 505, 506, 507, 508, 509, 510, 511, 512, 513, 514, 515, 516, 517, 518, 519, 520, 521, 522, 523, 524, 525, 526, 527, 528, 66, 529, 530, 531, 532, 533, 534, 535, 1024, 1025, 1026, 1027, 1028, 1029, 1030, 1031, 1032, 1033, 1034, 1035, 1036, 951, 952, 953, 954, 955, 956, 957, 958, 1008, 1009, 1010, 1046, 1047, 1048, 1011, 1012, 1013, 1014, 1015, 1016, 1017, 1018, 1019, 1020, 1021, 1022, 1023, 1037, 1038, 1039, 1040, 1041, 1042, 1043, 1044, 1045] (by decide +kernel) (by decide +kernel)) (goodIn_sub (fun _ h => List.mem_append_left _ (List.mem_append_right _ h)) (by decide +kernel))) (goodIn_sub (fun _ h => List.mem_append_right _ h) (by decide +kernel))) (goodIn_sub (fun _ h => List.mem_append_left _ (List.mem_append_left _ (List.mem_append_right _ h))) (by decide +kernel))
set_option maxRecDepth 20000 in
theorem gL_law_L_strike : GoodIn wsL_law (va_wsS RL 121 yL_strike wsL_strike) := goodIn_app (goodIn_of _ (by decide +kernel)) ggL_law_L_strike
set_option maxRecDepth 20000 in
theorem ggL_law_X7_strike : GoodIn wsL_law wsX7_strike := goodIn_r _ [605, 155, 190, 156, 260, 261, 5, 262, 191, 192, 193, 263, 264, 265, 266, 267, 590, 591, 592, 593, 194, 195, 196, 197, 198, 959, 960, 961, 962, 963, 964, 965, 966, 967, 968, 969, 970, 971, 972, 973, 974, 975, 976, 977, 978, 979, 980, 981, 982, 983, 984, 985, 986, 987, 988, 989, 990, 991, 992, 993, 994, 995, 996, 997, 998, 999, 1000, 1001, 1002, 1003, 1004, 1005, 1006, 1007] (by decide +kernel) (by decide +kernel)
set_option maxRecDepth 20000 in
theorem gL_law_X7_strike : GoodIn wsL_law (wsV RL 123 RX7 yX7_strike wsX7_strike) := goodIn_app (goodIn_of _ (by decide +kernel)) ggL_law_X7_strike
set_option maxRecDepth 20000 in
theorem ggL_law_L_suspend : GoodIn wsL_law wsL_suspend := goodIn_ca (goodIn_ca (goodIn_ca (goodIn_r _ [608, 218, 176, 177, 609, 610, 611, 2, 612, 182, 183, 184, 185, 613, 29, 20, 16, 224, 225, 226, 227, 228, 229, 230, 231, 232, 233, 15, 234, 88, 235, 236, 237, 238, 239, 240, 241, 242, 243, 244, 245, 246, 247, 248, 249, 250, 37, 251, 252, 253, 581, 397, 398, 115, 399, 128, 582, 583, 584, 585, 129, 130, 374, 375, 376, 19, 377, 378, 55, 53, 379, 56, 78, 79, 80, 81, 67, 58, 59, 60, 82, 83, 84, 85, 86, 87, 380, 381, 382, 383, 384, 385, 386, 69, 387, 388, 389, 390, 391, 392, 393, 394, 395, 396, 400, 401, 402, 403, 404, 405, 406, 407, 68, 70, 408, 409, 410, 411, 412, 27, 413, 95, 414, 415, 416, 417, 96, 418, 419, 420, 421, 422, 423, 424, 425, 426, 427, 428, 429, 430, 431, 371, 372, 373, 432, 433, 434, 435, 332, 333, 334, 335, 336, 337, 338, 339, 36, 340, 341, 342, 343, 344, 345, 346, 347, 348, 349, 350, 351, 352, 353, 354, 355, 356, 357, 358, 359, 360, 361, 362, 363, 364, 365, 366, 367, 368, 369, 370, 436, 437, 438, 439, 440, 441, 62, 442, 443, 444, 445, 446, 447, 448, 449, 450, 451, 452, 453, 454, 455, 456, 457, 458, 459, 460, 461, 462, 463, 464, 465, 466, 467, 468, 469, 470, 471, 472, 64, 473, 77, 474, 475, 476, 477, 478, 75, 479, 76, 480, 481, 482, 483, 484, 485, 486, 487, 488, 489, 490, 491, 492, 493, 494, 495, 496, 497, 498, 499, 500, 501, 502, 503, 504, 505, 506, 507, 508, 509, 510, 511, 512, 513, 514, 515, 516, 517, 518, 519, 520, 521, 522, 523, 524, 525, 526, 527, 528, 66, 529, 530, 531, 532, 533, 534, 535, 1024, 1025, 1026, 1027, 1028, 1029, 1030, 1031, 1032, 1033, 1034, 1035, 1036, 951, 952, 953, 954, 955, 956, 957, 958, 1008, 1009, 1010, 1046, 1047, 1048, 1011, 1012, 1013, 1014, 1015, 1016, 1017, 1018, 1019, 1020, 1021, 1022, 1023, 1037, 1038, 1039, 1040, 1041, 1042, 1043, 1044, 1045] (by decide +kernel) (by decide +kernel)) (goodIn_sub (fun _ h => List.mem_append_left _ (List.mem_append_left _ (List.mem_append_right _ h))) (by decide +kernel))) (goodIn_sub (fun _ h => List.mem_append_left _ (List.mem_append_right _ h)) (by decide +kernel))) (goodIn_sub (fun _ h => List.mem_append_right _ h) (by decide +kernel))
set_option maxRecDepth 20000 in
theorem gL_law_L_suspend : GoodIn wsL_law (va_wsS RL 124 yL_suspend wsL_suspend) := goodIn_app (goodIn_of _ (by decide +kernel)) ggL_law_L_suspend
set_option maxRecDepth 20000 in
theorem ggL_law_X7_suspend : GoodIn wsL_law wsX7_suspend := goodIn_r _ [617, 157, 190, 158, 159, 260, 261, 5, 262, 191, 192, 193, 263, 264, 265, 266, 267, 590, 591, 592, 593, 194, 195, 196, 197, 198, 959, 960, 961, 962, 963, 964, 965, 966, 967, 968, 969, 970, 971, 972, 973, 974, 975, 976, 977, 978, 979, 980, 981, 982, 983, 984, 985, 986, 987, 988, 989, 990, 991, 992, 993, 994, 995, 996, 997, 998, 999, 1000, 1001, 1002, 1003, 1004, 1005, 1006, 1007] (by decide +kernel) (by decide +kernel)
set_option maxRecDepth 20000 in
theorem gL_law_X7_suspend : GoodIn wsL_law (wsV RL 127 RX7 yX7_suspend wsX7_suspend) := goodIn_app (goodIn_of _ (by decide +kernel)) ggL_law_X7_suspend
set_option maxRecDepth 20000 in
theorem ggL_law_L_look : GoodIn wsL_law wsL_look := goodIn_ca (goodIn_r _ [620, 176, 621, 622, 623, 2, 624, 182, 183, 29, 20, 16, 251, 252, 253, 625, 626, 627, 19, 628, 68, 69, 70, 374, 375, 376, 377, 378, 55, 53, 379, 56, 78, 79, 80, 81, 67, 58, 59, 60, 82, 83, 84, 15, 85, 86, 87, 37, 88, 380, 232, 233, 234, 381, 236, 237, 238, 239, 240, 241, 242, 243, 244, 245, 246, 247, 248, 249, 250, 382, 383, 384, 385, 386, 387, 388, 389, 390, 391, 392, 393, 394, 115, 395, 128, 396, 397, 398, 399, 400, 401, 402, 403, 404, 405, 406, 407, 408, 409, 410, 411, 412, 27, 413, 95, 414, 415, 416, 417, 96, 418, 419, 420, 421, 129, 130, 422, 423, 424, 425, 426, 427, 428, 429, 430, 431, 371, 372, 373, 432, 433, 434, 435, 332, 333, 334, 335, 336, 337, 338, 339, 36, 340, 341, 342, 343, 344, 345, 346, 347, 348, 349, 350, 351, 352, 353, 354, 355, 356, 357, 358, 359, 360, 361, 362, 363, 364, 365, 366, 367, 368, 369, 370, 436, 437, 438, 439, 440, 441, 62, 442, 443, 444, 445, 446, 447, 448, 449, 450, 451, 452, 453, 454, 455, 456, 457, 458, 459, 460, 461, 462, 463, 464, 465, 466, 467, 468, 469, 470, 471, 472, 64, 473, 77, 474, 475, 476, 477, 478, 75, 479, 76, 480, 481, 482, 483, 484, 485, 486, 487, 488, 489, 490, 491, 492, 493, 494, 495, 496, 497, 498, 499, 500, 501, 502, 503, 504, 505, 506, 507, 508, 509, 510, 511, 512, 513, 514, 515, 516, 517, 518, 519, 520, 521, 522, 523, 524, 525, 526, 527, 528, 66, 529, 530, 531, 532, 533, 534, 535, 951, 952, 953, 954, 955, 956, 957, 958, 1011, 1012, 1013, 1014, 1015, 1016, 1017, 1018, 1019, 1020, 1021, 1022, 1023, 1024, 1025, 1026, 1027, 1028, 1029, 1030, 1031, 1032, 1033, 1034, 1035, 1036, 1008, 1009, 1010, 1037, 1038, 1039, 1040, 1046, 1047, 1048, 1041, 1042, 1043, 1044, 1045] (by decide +kernel) (by decide +kernel)) (goodIn_sub (fun _ h => List.mem_append_left _ (List.mem_append_left _ (List.mem_append_right _ h))) (by decide +kernel))
set_option maxRecDepth 20000 in
theorem gL_law_L_look : GoodIn wsL_law (va_wsS RL 128 yL_look wsL_look) := goodIn_app (goodIn_of _ (by decide +kernel)) ggL_law_L_look
set_option maxRecDepth 20000 in
theorem ggL_law_X7_look : GoodIn wsL_law wsX7_look := goodIn_r _ [632, 190, 633, 634, 635, 260, 261, 5, 262, 191, 192, 193, 194, 195, 196, 197, 198, 636, 637, 638, 639, 640, 641, 642, 643, 162, 165, 267, 160, 168, 147, 169, 148, 644, 645, 646, 647, 135, 141, 149, 150, 153, 154, 648, 649, 650, 651, 652, 653, 654, 655, 152, 155, 156, 157, 158, 159, 151, 656, 657, 658, 659, 140, 142, 660, 661, 662, 663, 664, 143, 144, 164, 163, 665, 666, 667, 668, 669, 670, 671, 672, 540, 673, 674, 675, 676, 677, 678, 679, 680, 170, 171, 681, 682, 683, 684, 166, 167, 685, 686, 687, 688, 689, 690, 691, 692, 145, 693, 694, 695, 696, 697, 698, 699, 700, 146, 701, 702, 703, 704, 705, 706, 707, 708, 709, 710, 711, 712, 713, 714, 715, 716, 717, 718, 719, 720, 721, 722, 723, 724, 725, 726, 727, 728, 729, 730, 731, 732, 959, 960, 961, 962, 963, 964, 965, 966, 967, 968, 969, 970, 971, 972, 973, 974, 975, 976, 977, 978, 979, 980, 981, 982, 983, 984, 985, 986, 987, 988, 989, 990, 991, 992, 993, 994, 995, 996, 997, 998, 999, 1000, 1001, 1002, 1003, 1004, 1005, 1006, 1007] (by decide +kernel) (by decide +kernel)
set_option maxRecDepth 20000 in
theorem gL_law_X7_look : GoodIn wsL_law (wsV RL 130 RX7 yX7_look wsX7_look) := goodIn_app (goodIn_of _ (by decide +kernel)) ggL_law_X7_look
set_option maxRecDepth 20000 in
theorem ggL_law_L_provisionAt : GoodIn wsL_law wsL_provisionAt := goodIn_ca (goodIn_r _ [735, 218, 736, 737, 738, 2, 739, 228, 229, 20, 740, 741, 742, 19, 743, 67, 66, 951, 952, 953, 954, 955, 956, 957, 958, 1011, 1012, 1013, 1014, 1015, 1016, 1017, 1018, 1019, 1020, 1021, 1022, 1023] (by decide +kernel) (by decide +kernel)) (goodIn_sub (fun _ h => List.mem_append_right _ h) (by decide +kernel))
set_option maxRecDepth 20000 in
theorem gL_law_L_provisionAt : GoodIn wsL_law (va_wsS RL 131 yL_provisionAt wsL_provisionAt) := goodIn_app (goodIn_of _ (by decide +kernel)) ggL_law_L_provisionAt
set_option maxRecDepth 20000 in
theorem ggL_law_X7_provisionAt : GoodIn wsL_law wsX7_provisionAt := goodIn_r _ [747, 194, 195, 196, 5, 197, 198, 636, 637, 638, 639, 633, 634, 635, 640, 641, 642, 643, 162, 165, 267, 160, 168, 147, 169, 148, 644, 645, 646, 647, 135, 141, 149, 150, 153, 154, 648, 649, 650, 651, 652, 653, 654, 655, 152, 155, 156, 157, 158, 159, 151, 191, 192, 193, 656, 657, 658, 659, 140, 142, 660, 661, 662, 663, 664, 143, 144, 164, 163, 665, 666, 667, 668, 669, 670, 671, 672, 540, 673, 674, 675, 676, 677, 678, 679, 680, 170, 171, 681, 682, 683, 684, 166, 167, 685, 686, 687, 688, 689, 690, 691, 692, 145, 693, 694, 695, 696, 697, 698, 699, 700, 146, 701, 702, 703, 704, 705, 706, 707, 708, 709, 710, 711, 712, 713, 714, 715, 716, 717, 718, 719, 720, 721, 722, 723, 724, 725, 726, 727, 728, 748, 749, 750, 751, 752, 753, 754, 755, 756, 757, 758, 959, 960, 961, 962, 963, 964, 965, 966, 967, 968, 969, 970, 971, 972, 973, 974, 975, 976, 977, 978, 979, 980, 981, 982, 983, 984, 985, 986, 987, 988, 989, 990, 991, 992, 993, 994, 995, 996, 997, 998, 999, 1000, 1001, 1002, 1003, 1004, 1005, 1006, 1007] (by decide +kernel) (by decide +kernel)
set_option maxRecDepth 20000 in
theorem gL_law_X7_provisionAt : GoodIn wsL_law (wsV RL 133 RX7 yX7_provisionAt wsX7_provisionAt) := goodIn_app (goodIn_of _ (by decide +kernel)) ggL_law_X7_provisionAt
set_option maxRecDepth 20000 in
theorem ggL_law_L_label : GoodIn wsL_law wsL_label := goodIn_ca (goodIn_r _ [761, 218, 762, 763, 764, 2, 765, 20, 301, 302, 303, 304, 228, 229, 32, 766, 457, 458, 19, 459, 59, 951, 952, 953, 954, 955, 956, 957, 958, 1011, 1012, 1013, 1014, 1015, 1016, 1017, 1018, 1019, 1020, 1021, 1022, 1023] (by decide +kernel) (by decide +kernel)) (goodIn_sub (fun _ h => List.mem_append_right _ h) (by decide +kernel))
set_option maxRecDepth 20000 in
theorem gL_law_L_label : GoodIn wsL_law (va_wsS RL 134 yL_label wsL_label) := goodIn_app (goodIn_of _ (by decide +kernel)) ggL_law_L_label
set_option maxRecDepth 20000 in
theorem ggL_law_X7_label : GoodIn wsL_law wsX7_label := goodIn_r _ [770, 162, 163, 771, 772, 773, 5, 774, 636, 637, 638, 639, 633, 634, 635, 640, 641, 642, 643, 165, 267, 160, 168, 147, 169, 148, 644, 645, 646, 647, 135, 141, 149, 150, 153, 154, 648, 649, 650, 651, 652, 653, 654, 655, 152, 155, 156, 157, 158, 159, 151, 191, 192, 193, 656, 657, 658, 659, 140, 142, 660, 661, 662, 663, 664, 143, 144, 164, 665, 666, 667, 668, 669, 670, 671, 672, 540, 673, 674, 675, 676, 677, 678, 679, 680, 170, 171, 681, 682, 683, 684, 166, 167, 685, 686, 687, 688, 689, 690, 691, 692, 145, 693, 694, 695, 696, 697, 698, 699, 700, 146, 701, 702, 703, 704, 705, 706, 707, 708, 709, 710, 711, 712, 713, 714, 715, 716, 717, 718, 719, 720, 721, 722, 723, 724, 725, 726, 727, 728, 541, 542, 543, 544, 194, 195, 196, 197, 198, 959, 960, 961, 962, 963, 964, 965, 966, 967, 968, 969, 970, 971, 972, 973, 974, 975, 976, 977, 978, 979, 980, 981, 982, 983, 984, 985, 986, 987, 988, 989, 990, 991, 992, 993, 994, 995, 996, 997, 998, 999, 1000, 1001, 1002, 1003, 1004, 1005, 1006, 1007] (by decide +kernel) (by decide +kernel)
set_option maxRecDepth 20000 in
theorem gL_law_X7_label : GoodIn wsL_law (wsV RL 136 RX7 yX7_label wsX7_label) := goodIn_app (goodIn_of _ (by decide +kernel)) ggL_law_X7_label
set_option maxRecDepth 20000 in
theorem ggL_law_L_parent : GoodIn wsL_law wsL_parent := goodIn_ca (goodIn_r _ [777, 218, 778, 779, 780, 2, 781, 20, 301, 302, 303, 304, 228, 229, 32, 782, 453, 454, 19, 455, 456, 457, 458, 459, 59, 783, 506, 507, 508, 60, 951, 952, 953, 954, 955, 956, 957, 958, 1011, 1012, 1013, 1014, 1015, 1016, 1017, 1018, 1019, 1020, 1021, 1022, 1023] (by decide +kernel) (by decide +kernel)) (goodIn_sub (fun _ h => List.mem_append_right _ h) (by decide +kernel))
set_option maxRecDepth 20000 in
theorem gL_law_L_parent : GoodIn wsL_law (va_wsS RL 137 yL_parent wsL_parent) := goodIn_app (goodIn_of _ (by decide +kernel)) ggL_law_L_parent
set_option maxRecDepth 20000 in
theorem ggL_law_X7_parent : GoodIn wsL_law wsX7_parent := goodIn_r _ [787, 162, 164, 771, 772, 773, 5, 774, 636, 637, 638, 639, 633, 634, 635, 640, 641, 642, 643, 165, 267, 160, 168, 147, 169, 148, 644, 645, 646, 647, 135, 141, 149, 150, 153, 154, 648, 649, 650, 651, 652, 653, 654, 655, 152, 155, 156, 157, 158, 159, 151, 191, 192, 193, 656, 657, 658, 659, 140, 142, 660, 661, 662, 663, 664, 143, 144, 163, 665, 666, 667, 668, 669, 670, 671, 672, 540, 673, 674, 675, 676, 677, 678, 679, 680, 170, 171, 681, 682, 683, 684, 166, 167, 685, 686, 687, 688, 689, 690, 691, 692, 145, 693, 694, 695, 696, 697, 698, 699, 700, 146, 701, 702, 703, 704, 705, 706, 707, 708, 709, 710, 711, 712, 713, 714, 715, 716, 717, 718, 719, 720, 721, 722, 723, 724, 725, 726, 727, 728, 541, 542, 543, 544, 194, 195, 196, 197, 198, 959, 960, 961, 962, 963, 964, 965, 966, 967, 968, 969, 970, 971, 972, 973, 974, 975, 976, 977, 978, 979, 980, 981, 982, 983, 984, 985, 986, 987, 988, 989, 990, 991, 992, 993, 994, 995, 996, 997, 998, 999, 1000, 1001, 1002, 1003, 1004, 1005, 1006, 1007] (by decide +kernel) (by decide +kernel)
set_option maxRecDepth 20000 in
theorem gL_law_X7_parent : GoodIn wsL_law (wsV RL 139 RX7 yX7_parent wsX7_parent) := goodIn_app (goodIn_of _ (by decide +kernel)) ggL_law_X7_parent
set_option maxRecDepth 20000 in
theorem ggL_law_L_words : GoodIn wsL_law wsL_words := goodIn_ca (goodIn_r _ [790, 218, 791, 792, 793, 2, 794, 20, 301, 302, 303, 304, 228, 229, 32, 795, 796, 797, 19, 798, 62, 452, 453, 454, 455, 456, 457, 458, 459, 59, 951, 952, 953, 954, 955, 956, 957, 958, 1011, 1012, 1013, 1014, 1015, 1016, 1017, 1018, 1019, 1020, 1021, 1022, 1023, 1041, 1042, 1043] (by decide +kernel) (by decide +kernel)) (goodIn_sub (fun _ h => List.mem_append_right _ h) (by decide +kernel))
set_option maxRecDepth 20000 in
theorem gL_law_L_words : GoodIn wsL_law (va_wsS RL 140 yL_words wsL_words) := goodIn_app (goodIn_of _ (by decide +kernel)) ggL_law_L_words
set_option maxRecDepth 20000 in
theorem ggL_law_X7_words : GoodIn wsL_law wsX7_words := goodIn_r _ [802, 162, 165, 771, 772, 773, 5, 774, 636, 637, 638, 639, 633, 634, 635, 640, 641, 642, 643, 267, 160, 168, 147, 169, 148, 644, 645, 646, 647, 135, 141, 149, 150, 153, 154, 648, 649, 650, 651, 652, 653, 654, 655, 152, 155, 156, 157, 158, 159, 151, 191, 192, 193, 656, 657, 658, 659, 140, 142, 660, 661, 662, 663, 664, 143, 144, 164, 163, 665, 666, 667, 668, 669, 670, 671, 672, 540, 673, 674, 675, 676, 677, 678, 679, 680, 170, 171, 681, 682, 683, 684, 166, 167, 685, 686, 687, 688, 689, 690, 691, 692, 145, 693, 694, 695, 696, 697, 698, 699, 700, 146, 701, 702, 703, 704, 705, 706, 707, 708, 709, 710, 711, 712, 713, 714, 715, 716, 717, 718, 719, 720, 721, 722, 723, 724, 725, 726, 727, 728, 541, 542, 543, 544, 194, 195, 196, 197, 198, 959, 960, 961, 962, 963, 964, 965, 966, 967, 968, 969, 970, 971, 972, 973, 974, 975, 976, 977, 978, 979, 980, 981, 982, 983, 984, 985, 986, 987, 988, 989, 990, 991, 992, 993, 994, 995, 996, 997, 998, 999, 1000, 1001, 1002, 1003, 1004, 1005, 1006, 1007] (by decide +kernel) (by decide +kernel)
set_option maxRecDepth 20000 in
theorem gL_law_X7_words : GoodIn wsL_law (wsV RL 142 RX7 yX7_words wsX7_words) := goodIn_app (goodIn_of _ (by decide +kernel)) ggL_law_X7_words
set_option maxRecDepth 20000 in
theorem ggL_law_L_wordAt : GoodIn wsL_law wsL_wordAt := goodIn_ca (goodIn_r _ [805, 218, 806, 807, 808, 2, 809, 20, 810, 811, 812, 813, 228, 229, 301, 302, 303, 304, 32, 795, 796, 797, 19, 798, 62, 452, 453, 454, 455, 456, 457, 458, 459, 59, 814, 815, 816, 817, 818, 819, 820, 64, 821, 77, 75, 951, 952, 953, 954, 955, 956, 957, 958, 1011, 1012, 1013, 1014, 1015, 1016, 1017, 1018, 1019, 1020, 1021, 1022, 1023, 1041, 1042, 1043] (by decide +kernel) (by decide +kernel)) (goodIn_sub (fun _ h => List.mem_append_right _ h) (by decide +kernel))
set_option maxRecDepth 20000 in
theorem gL_law_L_wordAt : GoodIn wsL_law (va_wsS RL 143 yL_wordAt wsL_wordAt) := goodIn_app (goodIn_of _ (by decide +kernel)) ggL_law_L_wordAt
set_option maxRecDepth 20000 in
theorem ggL_law_X7_wordAt : GoodIn wsL_law wsX7_wordAt := goodIn_r _ [825, 166, 826, 827, 828, 5, 829, 636, 637, 638, 639, 633, 634, 635, 640, 641, 642, 643, 162, 165, 267, 160, 168, 147, 169, 148, 644, 645, 646, 647, 135, 141, 149, 150, 153, 154, 648, 649, 650, 651, 652, 653, 654, 655, 152, 155, 156, 157, 158, 159, 151, 191, 192, 193, 656, 657, 658, 659, 140, 142, 660, 661, 662, 663, 664, 143, 144, 164, 163, 665, 666, 667, 668, 669, 670, 671, 672, 540, 673, 674, 675, 676, 677, 678, 679, 680, 170, 171, 681, 682, 683, 684, 167, 685, 686, 687, 688, 689, 690, 691, 692, 145, 693, 694, 695, 696, 697, 698, 699, 700, 146, 701, 702, 703, 704, 705, 706, 707, 708, 709, 710, 711, 712, 713, 714, 715, 716, 717, 718, 719, 720, 721, 722, 723, 724, 725, 726, 727, 728, 541, 542, 543, 544, 830, 831, 832, 833, 194, 195, 196, 197, 198, 959, 960, 961, 962, 963, 964, 965, 966, 967, 968, 969, 970, 971, 972, 973, 974, 975, 976, 977, 978, 979, 980, 981, 982, 983, 984, 985, 986, 987, 988, 989, 990, 991, 992, 993, 994, 995, 996, 997, 998, 999, 1000, 1001, 1002, 1003, 1004, 1005, 1006, 1007] (by decide +kernel) (by decide +kernel)
set_option maxRecDepth 20000 in
theorem gL_law_X7_wordAt : GoodIn wsL_law (wsV RL 146 RX7 yX7_wordAt wsX7_wordAt) := goodIn_app (goodIn_of _ (by decide +kernel)) ggL_law_X7_wordAt
set_option maxRecDepth 20000 in
theorem ggL_law_L_wordAnew : GoodIn wsL_law wsL_wordAnew := goodIn_ca (goodIn_r _ [836, 218, 837, 838, 839, 2, 840, 228, 229, 20, 301, 302, 303, 304, 32, 841, 842, 843, 19, 844, 53, 378, 379, 65, 452, 453, 454, 455, 456, 457, 458, 459, 59, 380, 232, 233, 15, 234, 88, 381, 236, 237, 238, 239, 240, 241, 242, 243, 244, 245, 246, 247, 248, 249, 250, 37, 845, 846, 847, 24, 848, 104, 105, 849, 850, 851, 852, 56, 460, 461, 462, 463, 440, 464, 465, 466, 467, 468, 58, 469, 470, 471, 472, 64, 473, 77, 474, 475, 476, 477, 478, 75, 479, 371, 372, 373, 76, 480, 481, 482, 483, 484, 485, 486, 487, 488, 489, 490, 491, 492, 493, 494, 495, 496, 497, 498, 499, 500, 818, 819, 820, 821, 951, 952, 953, 954, 955, 956, 957, 958, 1011, 1012, 1013, 1014, 1015, 1016, 1017, 1018, 1019, 1020, 1021, 1022, 1023, 1024, 1025, 1026, 1027, 1028, 1029, 1030, 1031, 1032, 1033, 1034, 1035, 1036, 1008, 1009, 1010, 1041, 1042, 1043, 1044, 1045] (by decide +kernel) (by decide +kernel)) (goodIn_sub (fun _ h => List.mem_append_right _ h) (by decide +kernel))
set_option maxRecDepth 20000 in
theorem gL_law_L_wordAnew : GoodIn wsL_law (va_wsS RL 147 yL_wordAnew wsL_wordAnew) := goodIn_app (goodIn_of _ (by decide +kernel)) ggL_law_L_wordAnew
set_option maxRecDepth 20000 in
theorem ggL_law_X7_wordAnew : GoodIn wsL_law wsX7_wordAnew := goodIn_r _ [856, 166, 636, 637, 638, 5, 639, 633, 634, 635, 640, 641, 642, 643, 162, 165, 267, 160, 168, 147, 169, 148, 644, 645, 646, 647, 135, 141, 149, 150, 153, 154, 648, 649, 650, 651, 652, 653, 654, 655, 152, 155, 156, 157, 158, 159, 151, 191, 192, 193, 656, 657, 658, 659, 140, 142, 660, 661, 662, 663, 664, 143, 144, 164, 163, 665, 666, 667, 668, 669, 670, 671, 672, 540, 673, 674, 675, 676, 677, 678, 679, 680, 170, 171, 681, 682, 683, 684, 167, 685, 686, 687, 688, 689, 690, 691, 692, 145, 693, 694, 695, 696, 697, 698, 699, 700, 146, 701, 702, 703, 704, 705, 706, 707, 708, 709, 710, 711, 712, 713, 714, 715, 716, 717, 718, 719, 720, 721, 722, 723, 724, 725, 726, 727, 728, 541, 542, 543, 544, 194, 195, 196, 197, 198, 830, 831, 832, 833, 959, 960, 961, 962, 963, 964, 965, 966, 967, 968, 969, 970, 971, 972, 973, 974, 975, 976, 977, 978, 979, 980, 981, 982, 983, 984, 985, 986, 987, 988, 989, 990, 991, 992, 993, 994, 995, 996, 997, 998, 999, 1000, 1001, 1002, 1003, 1004, 1005, 1006, 1007] (by decide +kernel) (by decide +kernel)
set_option maxRecDepth 20000 in
theorem gL_law_X7_wordAnew : GoodIn wsL_law (wsV RL 149 RX7 yX7_wordAnew wsX7_wordAnew) := goodIn_app (goodIn_of _ (by decide +kernel)) ggL_law_X7_wordAnew
set_option maxRecDepth 20000 in
theorem ggL_law_L_origin : GoodIn wsL_law wsL_origin := goodIn_ca (goodIn_r _ [859, 218, 860, 861, 862, 2, 863, 20, 810, 811, 812, 813, 228, 229, 301, 302, 303, 304, 32, 795, 796, 797, 19, 798, 62, 452, 453, 454, 455, 456, 457, 458, 459, 59, 864, 865, 866, 867, 868, 869, 870, 64, 871, 77, 76, 951, 952, 953, 954, 955, 956, 957, 958, 1011, 1012, 1013, 1014, 1015, 1016, 1017, 1018, 1019, 1020, 1021, 1022, 1023, 1041, 1042, 1043] (by decide +kernel) (by decide +kernel)) (goodIn_sub (fun _ h => List.mem_append_right _ h) (by decide +kernel))
set_option maxRecDepth 20000 in
theorem gL_law_L_origin : GoodIn wsL_law (va_wsS RL 150 yL_origin wsL_origin) := goodIn_app (goodIn_of _ (by decide +kernel)) ggL_law_L_origin
set_option maxRecDepth 20000 in
theorem ggL_law_X7_origin : GoodIn wsL_law wsX7_origin := goodIn_r _ [875, 167, 826, 827, 828, 5, 829, 636, 637, 638, 639, 633, 634, 635, 640, 641, 642, 643, 162, 165, 267, 160, 168, 147, 169, 148, 644, 645, 646, 647, 135, 141, 149, 150, 153, 154, 648, 649, 650, 651, 652, 653, 654, 655, 152, 155, 156, 157, 158, 159, 151, 191, 192, 193, 656, 657, 658, 659, 140, 142, 660, 661, 662, 663, 664, 143, 144, 164, 163, 665, 666, 667, 668, 669, 670, 671, 672, 540, 673, 674, 675, 676, 677, 678, 679, 680, 170, 171, 681, 682, 683, 684, 166, 685, 686, 687, 688, 689, 690, 691, 692, 145, 693, 694, 695, 696, 697, 698, 699, 700, 146, 701, 702, 703, 704, 705, 706, 707, 708, 709, 710, 711, 712, 713, 714, 715, 716, 717, 718, 719, 720, 721, 722, 723, 724, 725, 726, 727, 728, 541, 542, 543, 544, 830, 831, 832, 833, 194, 195, 196, 197, 198, 959, 960, 961, 962, 963, 964, 965, 966, 967, 968, 969, 970, 971, 972, 973, 974, 975, 976, 977, 978, 979, 980, 981, 982, 983, 984, 985, 986, 987, 988, 989, 990, 991, 992, 993, 994, 995, 996, 997, 998, 999, 1000, 1001, 1002, 1003, 1004, 1005, 1006, 1007] (by decide +kernel) (by decide +kernel)
set_option maxRecDepth 20000 in
theorem gL_law_X7_origin : GoodIn wsL_law (wsV RL 152 RX7 yX7_origin wsX7_origin) := goodIn_app (goodIn_of _ (by decide +kernel)) ggL_law_X7_origin
set_option maxRecDepth 20000 in
theorem ggL_law_L_refers : GoodIn wsL_law wsL_refers := goodIn_ca (goodIn_r _ [878, 218, 879, 880, 881, 2, 882, 20, 21, 16, 810, 811, 812, 813, 228, 229, 301, 302, 303, 304, 32, 795, 796, 797, 19, 798, 62, 452, 453, 454, 455, 456, 457, 458, 459, 59, 814, 815, 816, 817, 818, 819, 820, 64, 821, 77, 75, 766, 864, 865, 866, 867, 868, 869, 870, 871, 76, 883, 401, 402, 403, 55, 625, 626, 627, 628, 68, 69, 70, 374, 375, 376, 377, 378, 53, 379, 56, 78, 79, 80, 81, 67, 58, 60, 82, 83, 84, 15, 85, 86, 87, 37, 88, 380, 232, 233, 234, 381, 236, 237, 238, 239, 240, 241, 242, 243, 244, 245, 246, 247, 248, 249, 250, 382, 383, 384, 385, 386, 387, 388, 389, 390, 391, 392, 393, 394, 115, 395, 128, 396, 397, 398, 399, 400, 404, 405, 406, 407, 408, 409, 410, 411, 412, 27, 413, 95, 414, 415, 416, 417, 96, 418, 419, 420, 421, 129, 130, 422, 423, 424, 425, 426, 427, 428, 429, 430, 431, 371, 372, 373, 432, 433, 434, 435, 332, 333, 334, 335, 336, 337, 338, 339, 36, 340, 341, 342, 343, 344, 345, 346, 347, 348, 349, 350, 351, 352, 353, 354, 355, 356, 357, 358, 359, 360, 361, 362, 363, 364, 365, 366, 367, 368, 369, 370, 436, 437, 438, 439, 440, 441, 442, 443, 444, 445, 446, 447, 448, 449, 450, 451, 460, 461, 462, 463, 464, 465, 466, 467, 468, 469, 470, 471, 472, 473, 474, 475, 476, 477, 478, 479, 480, 481, 482, 483, 484, 485, 486, 487, 488, 489, 490, 491, 492, 493, 494, 495, 496, 497, 498, 499, 500, 501, 502, 503, 504, 505, 506, 507, 508, 509, 510, 511, 512, 513, 514, 515, 516, 517, 518, 519, 520, 521, 522, 523, 524, 525, 526, 527, 528, 66, 529, 530, 531, 532, 533, 534, 535, 951, 952, 953, 954, 955, 956, 957, 958, 1011, 1012, 1013, 1014, 1015, 1016, 1017, 1018, 1019, 1020, 1021, 1022, 1023, 1041, 1042, 1043, 1024, 1025, 1026, 1027, 1028, 1029, 1030, 1031, 1032, 1033, 1034, 1035, 1036, 1008, 1009, 1010, 1037, 1038, 1039, 1040, 1046, 1047, 1048, 1044, 1045] (by decide +kernel) (by decide +kernel)) (goodIn_sub (fun _ h => List.mem_append_right _ h) (by decide +kernel))
