/-! the law: its callees' words among its own, part b. Packed by wip/gen25/p25names.py -/
set_option maxRecDepth 20000 in
theorem ggL_does_X6_commences : GoodIn wsL_does wsX6_commences := goodIn_ca (goodIn_r _ [488, 42, 380, 381, 382, 7, 383, 52, 53, 43, 384, 61, 62, 63, 64, 65, 66, 385, 195, 196, 197, 198, 199, 200, 201, 202, 203, 204, 205, 206, 207, 208, 209, 89, 479, 230, 231, 174, 232, 177, 489, 490, 491, 492, 493, 494, 495, 496, 512, 513, 514, 518, 519, 520, 521, 522, 523, 524, 525, 526, 527, 528, 529, 530] (by decide +kernel) (by decide +kernel)) (goodIn_sub (fun _ h => List.mem_cons_of_mem _ (List.mem_append_right _ h)) (by decide +kernel))
set_option maxRecDepth 20000 in
theorem gL_does_X6_commences : GoodIn wsL_does (wsV RL 62 RX6 yX6_commences wsX6_commences) := goodIn_app (goodIn_of _ (by decide +kernel)) ggL_does_X6_commences
set_option maxRecDepth 20000 in
theorem ggL_tells_X6_terms : GoodIn wsL_tells wsX6_terms := goodIn_ca (goodIn_ca (goodIn_r _ [5, 6, 7, 8, 9, 10, 11, 12, 13, 14, 15, 4, 16, 17, 18, 19, 20, 21, 22, 23, 24, 25, 26, 27, 28, 29, 30, 31, 32, 33, 34, 35, 36, 37, 38, 39, 40, 41, 42, 43, 44, 45, 46, 47, 48, 49, 50, 51, 52, 53, 54, 55, 56, 318, 319, 320, 321, 322, 323, 324, 325, 326, 327, 328, 329, 330, 331, 332, 333, 334, 335, 336, 337, 338, 339, 340, 341, 342, 343, 344, 345] (by decide +kernel) (by decide +kernel)) (goodIn_sub (fun _ h => List.mem_cons_of_mem _ (List.mem_append_left _ (List.mem_append_left _ (List.mem_append_right _ h)))) (by decide +kernel))) (goodIn_sub (fun _ h => List.mem_cons_of_mem _ (List.mem_append_left _ (List.mem_append_right _ h))) (by decide +kernel))
set_option maxRecDepth 20000 in
theorem gL_tells_X6_terms : GoodIn wsL_tells (wsV RL 71 RX6 yX6_terms wsX6_terms) := goodIn_app (goodIn_of _ (by decide +kernel)) ggL_tells_X6_terms
set_option maxRecDepth 100000 in
theorem gkL_tells_X6_order_r1 : GoodIn wsL_tells wsX6_order_r1 := goodIn_r _ [61, 62, 12, 63, 64, 65, 66, 19, 13, 14, 15, 4, 16, 17, 18, 20, 21, 22, 23, 24, 25, 26, 27, 28] (by decide +kernel) (by decide +kernel) -- ggL
set_option maxRecDepth 100000 in
theorem gkL_tells_X6_order_r2 : GoodIn wsL_tells wsX6_order_r2 := goodIn_r _ [29, 30, 31, 32, 33, 34, 35, 36, 37, 38, 39, 40, 41, 42, 43, 44, 45, 46, 6, 7, 67, 68, 69, 70] (by decide +kernel) (by decide +kernel) -- ggL
set_option maxRecDepth 100000 in
theorem gkL_tells_X6_order_r3 : GoodIn wsL_tells wsX6_order_r3 := goodIn_r _ [71, 72, 73, 74, 75, 76, 77, 78, 79, 80, 81, 82, 83, 84, 85, 86, 87, 88, 89, 90, 91, 92, 93, 94] (by decide +kernel) (by decide +kernel) -- ggL
set_option maxRecDepth 100000 in
theorem gkL_tells_X6_order_r4 : GoodIn wsL_tells wsX6_order_r4 := goodIn_r _ [95, 96, 97, 98, 99, 100, 101, 102, 103, 104, 105, 106, 107, 108, 109, 110, 111, 112, 113, 114, 115, 116, 117, 118] (by decide +kernel) (by decide +kernel) -- ggL
set_option maxRecDepth 100000 in
theorem gkL_tells_X6_order_r5 : GoodIn wsL_tells wsX6_order_r5 := goodIn_r _ [119, 120, 121, 122, 123, 124, 125, 126, 127, 128, 129, 130, 131, 132, 133, 134, 135, 11, 136, 55, 137, 138, 139, 140] (by decide +kernel) (by decide +kernel) -- ggL
set_option maxRecDepth 100000 in
theorem gkL_tells_X6_order_r6 : GoodIn wsL_tells wsX6_order_r6 := goodIn_r _ [56, 141, 142, 143, 144, 145, 146, 147, 148, 149, 150, 151, 152, 153, 154, 155, 156, 157, 158, 159, 160, 161, 162, 163] (by decide +kernel) (by decide +kernel) -- ggL
set_option maxRecDepth 100000 in
theorem gkL_tells_X6_order_r7 : GoodIn wsL_tells wsX6_order_r7 := goodIn_r _ [164, 165, 166, 167, 168, 169, 170, 171, 172, 173, 174, 175, 176, 177, 178, 179, 180, 181, 182, 183, 184, 185, 186, 187] (by decide +kernel) (by decide +kernel) -- ggL
set_option maxRecDepth 100000 in
theorem gkL_tells_X6_order_r8 : GoodIn wsL_tells wsX6_order_r8 := goodIn_r _ [188, 189, 190, 191, 192, 193, 194, 195, 196, 197, 198, 199, 200, 201, 202, 203, 204, 205, 206, 207, 208, 209, 210, 211] (by decide +kernel) (by decide +kernel) -- ggL
set_option maxRecDepth 100000 in
theorem gkL_tells_X6_order_r9 : GoodIn wsL_tells wsX6_order_r9 := goodIn_r _ [212, 213, 214, 215, 216, 217, 218, 219, 220, 221, 222, 223, 224, 225, 226, 227, 228, 229, 230, 231, 232, 233, 234, 235] (by decide +kernel) (by decide +kernel) -- ggL
set_option maxRecDepth 100000 in
theorem gkL_tells_X6_order_r10 : GoodIn wsL_tells wsX6_order_r10 := goodIn_r _ [236, 237, 238, 239, 240, 241, 242, 243, 244, 245, 246, 247, 248, 249, 250, 251, 252, 253, 254, 255, 256, 257, 258, 259] (by decide +kernel) (by decide +kernel) -- ggL
set_option maxRecDepth 100000 in
theorem gkL_tells_X6_order_r11 : GoodIn wsL_tells wsX6_order_r11 := goodIn_r _ [260, 261, 262, 263, 264, 265, 266, 267, 268, 269, 270, 271, 272, 273, 274, 275, 276, 277, 278, 279, 280, 281, 282, 283] (by decide +kernel) (by decide +kernel) -- ggL
set_option maxRecDepth 100000 in
theorem gkL_tells_X6_order_r12 : GoodIn wsL_tells wsX6_order_r12 := goodIn_r _ [284, 285, 286, 287, 288, 289, 290, 291, 292, 293, 294, 295, 296, 297, 298, 299, 300, 301, 302, 303, 304, 305, 306, 307] (by decide +kernel) (by decide +kernel) -- ggL
set_option maxRecDepth 20000 in
theorem ggL_tells_X6_order : GoodIn wsL_tells wsX6_order := goodIn_ca (goodIn_ca (goodIn_ca ((goodIn_cc (goodIn_r _ [60] (by decide +kernel) (by decide +kernel)) (goodIn_app (goodIn_app (goodIn_app (goodIn_app (goodIn_app (goodIn_app (goodIn_app (goodIn_app (goodIn_app gkL_tells_X6_order_r1 (goodIn_app gkL_tells_X6_order_r2 (goodIn_app gkL_tells_X6_order_r3 (goodIn_app gkL_tells_X6_order_r4 (goodIn_app gkL_tells_X6_order_r5 (goodIn_app gkL_tells_X6_order_r6 (goodIn_app gkL_tells_X6_order_r7 (goodIn_app gkL_tells_X6_order_r8 (goodIn_app gkL_tells_X6_order_r9 (goodIn_app gkL_tells_X6_order_r10 (goodIn_app gkL_tells_X6_order_r11 gkL_tells_X6_order_r12))))))))))) (goodIn_r _ [330, 331, 332, 333, 334, 335, 336, 337, 338, 339, 340, 341, 342] (by decide +kernel) (by decide +kernel))) (goodIn_r _ [326, 327, 328, 329] (by decide +kernel) (by decide +kernel))) (goodIn_r _ [318, 319, 320, 321, 322, 323, 324, 325] (by decide +kernel) (by decide +kernel))) (goodIn_r _ [343, 344, 345] (by decide +kernel) (by decide +kernel))) (goodIn_r _ [346, 347, 348] (by decide +kernel) (by decide +kernel))) (goodIn_r _ [349, 350, 351, 352, 353, 354, 355, 356, 357, 358, 359, 360, 361] (by decide +kernel) (by decide +kernel))) (goodIn_r _ [362, 363, 364] (by decide +kernel) (by decide +kernel))) (goodIn_r _ [365, 366] (by decide +kernel) (by decide +kernel))))) (goodIn_sub (fun _ h => List.mem_cons_of_mem _ (List.mem_append_right _ h)) (by decide +kernel))) (goodIn_sub (fun _ h => List.mem_cons_of_mem _ (List.mem_append_left _ (List.mem_append_right _ h))) (by decide +kernel))) (goodIn_sub (fun _ h => List.mem_cons_of_mem _ (List.mem_append_left _ (List.mem_append_left _ (List.mem_append_right _ h)))) (by decide +kernel))
set_option maxRecDepth 20000 in
theorem gL_tells_X6_order : GoodIn wsL_tells (wsV RL 75 RX6 yX6_order wsX6_order) := goodIn_app (goodIn_of _ (by decide +kernel)) ggL_tells_X6_order
set_option maxRecDepth 100000 in
theorem gkL_tells_X6_strike_r1 : GoodIn wsL_tells wsX6_strike_r1 := goodIn_r _ [61, 62, 312, 65, 66, 19, 13, 14, 15, 4, 16, 17, 18, 20, 21, 22, 23, 24, 25, 26, 27, 28, 29, 30] (by decide +kernel) (by decide +kernel) -- ggL
set_option maxRecDepth 100000 in
theorem gkL_tells_X6_strike_r2 : GoodIn wsL_tells wsX6_strike_r2 := goodIn_r _ [31, 32, 33, 34, 35, 36, 37, 38, 39, 40, 41, 42, 43, 44, 45, 46, 6, 7, 67, 68, 69, 70, 71, 72] (by decide +kernel) (by decide +kernel) -- ggL
set_option maxRecDepth 100000 in
theorem gkL_tells_X6_strike_r3 : GoodIn wsL_tells wsX6_strike_r3 := goodIn_r _ [73, 74, 75, 76, 77, 78, 79, 80, 81, 82, 83, 84, 85, 86, 87, 88, 89, 90, 91, 92, 93, 94, 95, 96] (by decide +kernel) (by decide +kernel) -- ggL
set_option maxRecDepth 100000 in
theorem gkL_tells_X6_strike_r4 : GoodIn wsL_tells wsX6_strike_r4 := goodIn_r _ [97, 98, 99, 100, 101, 102, 103, 104, 105, 106, 107, 108, 109, 110, 111, 112, 113, 114, 115, 116, 117, 118, 119, 120] (by decide +kernel) (by decide +kernel) -- ggL
set_option maxRecDepth 100000 in
theorem gkL_tells_X6_strike_r5 : GoodIn wsL_tells wsX6_strike_r5 := goodIn_r _ [121, 122, 123, 124, 125, 126, 127, 128, 129, 130, 131, 132, 133, 134, 135, 11, 136, 55, 137, 138, 139, 140, 56, 141] (by decide +kernel) (by decide +kernel) -- ggL
set_option maxRecDepth 100000 in
theorem gkL_tells_X6_strike_r6 : GoodIn wsL_tells wsX6_strike_r6 := goodIn_r _ [142, 143, 144, 145, 146, 147, 148, 149, 150, 151, 152, 153, 154, 155, 156, 157, 158, 159, 160, 161, 162, 163, 164, 165] (by decide +kernel) (by decide +kernel) -- ggL
set_option maxRecDepth 100000 in
theorem gkL_tells_X6_strike_r7 : GoodIn wsL_tells wsX6_strike_r7 := goodIn_r _ [166, 167, 168, 169, 170, 171, 172, 173, 174, 175, 176, 177, 178, 179, 180, 181, 182, 183, 184, 185, 186, 187, 188, 189] (by decide +kernel) (by decide +kernel) -- ggL
set_option maxRecDepth 100000 in
theorem gkL_tells_X6_strike_r8 : GoodIn wsL_tells wsX6_strike_r8 := goodIn_r _ [190, 191, 192, 193, 194, 195, 196, 197, 198, 199, 200, 201, 202, 203, 204, 205, 206, 207, 208, 209, 210, 211, 212, 213] (by decide +kernel) (by decide +kernel) -- ggL
set_option maxRecDepth 100000 in
theorem gkL_tells_X6_strike_r9 : GoodIn wsL_tells wsX6_strike_r9 := goodIn_r _ [214, 215, 216, 217, 218, 219, 220, 221, 222, 223, 224, 225, 226, 227, 228, 229, 230, 231, 232, 233, 234, 235, 236, 237] (by decide +kernel) (by decide +kernel) -- ggL
set_option maxRecDepth 100000 in
theorem gkL_tells_X6_strike_r10 : GoodIn wsL_tells wsX6_strike_r10 := goodIn_r _ [238, 239, 240, 241, 242, 243, 244, 245, 246, 247, 248, 249, 250, 251, 252, 253, 254, 255, 256, 257, 258, 259, 260, 261] (by decide +kernel) (by decide +kernel) -- ggL
set_option maxRecDepth 100000 in
theorem gkL_tells_X6_strike_r11 : GoodIn wsL_tells wsX6_strike_r11 := goodIn_r _ [262, 263, 264, 265, 266, 267, 268, 269, 270, 271, 272, 273, 274, 275, 276, 277, 278, 279, 280, 281, 282, 283, 284, 285] (by decide +kernel) (by decide +kernel) -- ggL
set_option maxRecDepth 100000 in
theorem gkL_tells_X6_strike_r12 : GoodIn wsL_tells wsX6_strike_r12 := goodIn_r _ [286, 287, 288, 289, 290, 291, 292, 293, 294, 295, 296, 297, 298, 299, 300, 301, 302, 303, 304, 305, 306, 307] (by decide +kernel) (by decide +kernel) -- ggL
set_option maxRecDepth 20000 in
theorem ggL_tells_X6_strike : GoodIn wsL_tells wsX6_strike := goodIn_ca (goodIn_ca (goodIn_ca ((goodIn_cc (goodIn_r _ [311] (by decide +kernel) (by decide +kernel)) (goodIn_app (goodIn_app (goodIn_app (goodIn_app (goodIn_app (goodIn_app (goodIn_app (goodIn_app (goodIn_app gkL_tells_X6_strike_r1 (goodIn_app gkL_tells_X6_strike_r2 (goodIn_app gkL_tells_X6_strike_r3 (goodIn_app gkL_tells_X6_strike_r4 (goodIn_app gkL_tells_X6_strike_r5 (goodIn_app gkL_tells_X6_strike_r6 (goodIn_app gkL_tells_X6_strike_r7 (goodIn_app gkL_tells_X6_strike_r8 (goodIn_app gkL_tells_X6_strike_r9 (goodIn_app gkL_tells_X6_strike_r10 (goodIn_app gkL_tells_X6_strike_r11 gkL_tells_X6_strike_r12))))))))))) (goodIn_r _ [330, 331, 332, 333, 334, 335, 336, 337, 338, 339, 340, 341, 342] (by decide +kernel) (by decide +kernel))) (goodIn_r _ [318, 319, 320, 321, 322, 323, 324, 325] (by decide +kernel) (by decide +kernel))) (goodIn_r _ [343, 344, 345] (by decide +kernel) (by decide +kernel))) (goodIn_r _ [346, 347, 348] (by decide +kernel) (by decide +kernel))) (goodIn_r _ [349, 350, 351, 352, 353, 354, 355, 356, 357, 358, 359, 360, 361] (by decide +kernel) (by decide +kernel))) (goodIn_r _ [326, 327, 328, 329] (by decide +kernel) (by decide +kernel))) (goodIn_r _ [362, 363, 364] (by decide +kernel) (by decide +kernel))) (goodIn_r _ [365, 366] (by decide +kernel) (by decide +kernel))))) (goodIn_sub (fun _ h => List.mem_cons_of_mem _ (List.mem_append_right _ h)) (by decide +kernel))) (goodIn_sub (fun _ h => List.mem_cons_of_mem _ (List.mem_append_left _ (List.mem_append_right _ h))) (by decide +kernel))) (goodIn_sub (fun _ h => List.mem_cons_of_mem _ (List.mem_append_left _ (List.mem_append_left _ (List.mem_append_right _ h)))) (by decide +kernel))
set_option maxRecDepth 20000 in
theorem gL_tells_X6_strike : GoodIn wsL_tells (wsV RL 79 RX6 yX6_strike wsX6_strike) := goodIn_app (goodIn_of _ (by decide +kernel)) ggL_tells_X6_strike
set_option maxRecDepth 100000 in
theorem gkL_tells_X6_suspend_r1 : GoodIn wsL_tells wsX6_suspend_r1 := goodIn_r _ [6, 7, 61, 62, 317, 65, 66, 19, 13, 14, 15, 4, 16, 17, 18, 20, 21, 22, 23, 24, 25, 26, 27, 28] (by decide +kernel) (by decide +kernel) -- ggL
set_option maxRecDepth 100000 in
theorem gkL_tells_X6_suspend_r2 : GoodIn wsL_tells wsX6_suspend_r2 := goodIn_r _ [29, 30, 31, 32, 33, 34, 35, 36, 37, 38, 39, 40, 41, 42, 43, 44, 45, 46, 67, 68, 69, 70, 71, 72] (by decide +kernel) (by decide +kernel) -- ggL
set_option maxRecDepth 100000 in
theorem gkL_tells_X6_suspend_r3 : GoodIn wsL_tells wsX6_suspend_r3 := goodIn_r _ [73, 74, 75, 76, 77, 78, 79, 80, 81, 82, 83, 84, 85, 86, 87, 88, 89, 90, 91, 92, 93, 94, 95, 96] (by decide +kernel) (by decide +kernel) -- ggL
set_option maxRecDepth 100000 in
theorem gkL_tells_X6_suspend_r4 : GoodIn wsL_tells wsX6_suspend_r4 := goodIn_r _ [97, 98, 99, 100, 101, 102, 103, 104, 105, 106, 107, 108, 109, 110, 111, 112, 113, 114, 115, 116, 117, 118, 119, 120] (by decide +kernel) (by decide +kernel) -- ggL
set_option maxRecDepth 100000 in
theorem gkL_tells_X6_suspend_r5 : GoodIn wsL_tells wsX6_suspend_r5 := goodIn_r _ [121, 122, 123, 124, 125, 126, 127, 128, 129, 130, 131, 132, 133, 134, 135, 11, 136, 55, 137, 138, 139, 140, 56, 141] (by decide +kernel) (by decide +kernel) -- ggL
set_option maxRecDepth 100000 in
theorem gkL_tells_X6_suspend_r6 : GoodIn wsL_tells wsX6_suspend_r6 := goodIn_r _ [142, 143, 144, 145, 146, 147, 148, 149, 150, 151, 152, 153, 154, 155, 156, 157, 158, 159, 160, 161, 162, 163, 164, 165] (by decide +kernel) (by decide +kernel) -- ggL
set_option maxRecDepth 100000 in
theorem gkL_tells_X6_suspend_r7 : GoodIn wsL_tells wsX6_suspend_r7 := goodIn_r _ [166, 167, 168, 169, 170, 171, 172, 173, 174, 175, 176, 177, 178, 179, 180, 181, 182, 183, 184, 185, 186, 187, 188, 189] (by decide +kernel) (by decide +kernel) -- ggL
set_option maxRecDepth 100000 in
theorem gkL_tells_X6_suspend_r8 : GoodIn wsL_tells wsX6_suspend_r8 := goodIn_r _ [190, 191, 192, 193, 194, 195, 196, 197, 198, 199, 200, 201, 202, 203, 204, 205, 206, 207, 208, 209, 210, 211, 212, 213] (by decide +kernel) (by decide +kernel) -- ggL
set_option maxRecDepth 100000 in
theorem gkL_tells_X6_suspend_r9 : GoodIn wsL_tells wsX6_suspend_r9 := goodIn_r _ [214, 215, 216, 217, 218, 219, 220, 221, 222, 223, 224, 225, 226, 227, 228, 229, 230, 231, 232, 233, 234, 235, 236, 237] (by decide +kernel) (by decide +kernel) -- ggL
set_option maxRecDepth 100000 in
theorem gkL_tells_X6_suspend_r10 : GoodIn wsL_tells wsX6_suspend_r10 := goodIn_r _ [238, 239, 240, 241, 242, 243, 244, 245, 246, 247, 248, 249, 250, 251, 252, 253, 254, 255, 256, 257, 258, 259, 260, 261] (by decide +kernel) (by decide +kernel) -- ggL
set_option maxRecDepth 100000 in
theorem gkL_tells_X6_suspend_r11 : GoodIn wsL_tells wsX6_suspend_r11 := goodIn_r _ [262, 263, 264, 265, 266, 267, 268, 269, 270, 271, 272, 273, 274, 275, 276, 277, 278, 279, 280, 281, 282, 283, 284, 285] (by decide +kernel) (by decide +kernel) -- ggL
set_option maxRecDepth 100000 in
theorem gkL_tells_X6_suspend_r12 : GoodIn wsL_tells wsX6_suspend_r12 := goodIn_r _ [286, 287, 288, 289, 290, 291, 292, 293, 294, 295, 296, 297, 298, 299, 300, 301, 302, 303, 304, 305, 306, 307] (by decide +kernel) (by decide +kernel) -- ggL
set_option maxRecDepth 20000 in
theorem ggL_tells_X6_suspend : GoodIn wsL_tells wsX6_suspend := goodIn_ca (goodIn_ca (goodIn_ca ((goodIn_cc (goodIn_r _ [316] (by decide +kernel) (by decide +kernel)) (goodIn_app (goodIn_app (goodIn_app (goodIn_app (goodIn_app (goodIn_app (goodIn_app (goodIn_app (goodIn_app gkL_tells_X6_suspend_r1 (goodIn_app gkL_tells_X6_suspend_r2 (goodIn_app gkL_tells_X6_suspend_r3 (goodIn_app gkL_tells_X6_suspend_r4 (goodIn_app gkL_tells_X6_suspend_r5 (goodIn_app gkL_tells_X6_suspend_r6 (goodIn_app gkL_tells_X6_suspend_r7 (goodIn_app gkL_tells_X6_suspend_r8 (goodIn_app gkL_tells_X6_suspend_r9 (goodIn_app gkL_tells_X6_suspend_r10 (goodIn_app gkL_tells_X6_suspend_r11 gkL_tells_X6_suspend_r12))))))))))) (goodIn_r _ [330, 331, 332, 333, 334, 335, 336, 337, 338, 339, 340, 341, 342] (by decide +kernel) (by decide +kernel))) (goodIn_r _ [318, 319, 320, 321, 322, 323, 324, 325] (by decide +kernel) (by decide +kernel))) (goodIn_r _ [343, 344, 345] (by decide +kernel) (by decide +kernel))) (goodIn_r _ [346, 347, 348] (by decide +kernel) (by decide +kernel))) (goodIn_r _ [349, 350, 351, 352, 353, 354, 355, 356, 357, 358, 359, 360, 361] (by decide +kernel) (by decide +kernel))) (goodIn_r _ [326, 327, 328, 329] (by decide +kernel) (by decide +kernel))) (goodIn_r _ [362, 363, 364] (by decide +kernel) (by decide +kernel))) (goodIn_r _ [365, 366] (by decide +kernel) (by decide +kernel))))) (goodIn_sub (fun _ h => List.mem_cons_of_mem _ (List.mem_append_left _ (List.mem_append_left _ (List.mem_append_right _ h)))) (by decide +kernel))) (goodIn_sub (fun _ h => List.mem_cons_of_mem _ (List.mem_append_right _ h)) (by decide +kernel))) (goodIn_sub (fun _ h => List.mem_cons_of_mem _ (List.mem_append_left _ (List.mem_append_right _ h))) (by decide +kernel))
set_option maxRecDepth 20000 in
theorem gL_tells_X6_suspend : GoodIn wsL_tells (wsV RL 82 RX6 yX6_suspend wsX6_suspend) := goodIn_app (goodIn_of _ (by decide +kernel)) ggL_tells_X6_suspend
set_option maxRecDepth 100000 in
theorem gkL_silent_L_tells_r1 : GoodIn wsL_silent wsL_tells_r1 := goodIn_r _ [8, 9, 10, 11, 12, 13, 14, 15, 16, 17, 18, 19, 20, 21, 22, 23, 24, 25, 26, 27, 28, 29, 30, 31] (by decide +kernel) (by decide +kernel) -- ggL
set_option maxRecDepth 100000 in
theorem gkL_silent_L_tells_r2 : GoodIn wsL_silent wsL_tells_r2 := goodIn_r _ [32, 33, 34, 35, 36, 37, 38, 39, 40, 41, 42, 43, 44, 45, 46, 47, 48, 49, 50, 51, 52, 53, 54, 55] (by decide +kernel) (by decide +kernel) -- ggL
set_option maxRecDepth 100000 in
theorem gkL_silent_L_tells_r3 : GoodIn wsL_silent wsL_tells_r3 := goodIn_r _ [56, 57, 58, 59, 60, 61, 62, 63, 64, 65, 66, 67, 68, 69, 70, 71, 72, 73, 74, 75, 76, 77, 78, 79] (by decide +kernel) (by decide +kernel) -- ggL
set_option maxRecDepth 100000 in
theorem gkL_silent_L_tells_r4 : GoodIn wsL_silent wsL_tells_r4 := goodIn_r _ [80, 81, 82, 83, 84, 85, 86, 87, 88, 89, 90, 91, 92, 93, 94, 95, 96, 97, 98, 99, 100, 101, 102, 103] (by decide +kernel) (by decide +kernel) -- ggL
set_option maxRecDepth 100000 in
theorem gkL_silent_L_tells_r5 : GoodIn wsL_silent wsL_tells_r5 := goodIn_r _ [104, 105, 106, 107, 108, 109, 110, 111, 112, 113, 114, 115, 116, 117, 118, 119, 120, 121, 122, 123, 124, 125, 126, 127] (by decide +kernel) (by decide +kernel) -- ggL
set_option maxRecDepth 100000 in
theorem gkL_silent_L_tells_r6 : GoodIn wsL_silent wsL_tells_r6 := goodIn_r _ [128, 129, 130, 131, 132, 133, 134, 135, 136, 137, 138, 139, 140, 141, 142, 143, 144, 145, 146, 147, 148, 149, 150, 151] (by decide +kernel) (by decide +kernel) -- ggL
set_option maxRecDepth 100000 in
theorem gkL_silent_L_tells_r7 : GoodIn wsL_silent wsL_tells_r7 := goodIn_r _ [152, 153, 154, 155, 156, 157, 158, 159, 160, 161, 162, 163, 164, 165, 166, 167, 168, 169, 170, 171, 172, 173, 174, 175] (by decide +kernel) (by decide +kernel) -- ggL
set_option maxRecDepth 100000 in
theorem gkL_silent_L_tells_r8 : GoodIn wsL_silent wsL_tells_r8 := goodIn_r _ [176, 177, 178, 179, 180, 181, 182, 183, 184, 185, 186, 187, 188, 189, 190, 191, 192, 193, 194, 195, 196, 197, 198, 199] (by decide +kernel) (by decide +kernel) -- ggL
set_option maxRecDepth 100000 in
theorem gkL_silent_L_tells_r9 : GoodIn wsL_silent wsL_tells_r9 := goodIn_r _ [200, 201, 202, 203, 204, 205, 206, 207, 208, 209, 210, 211, 212, 213, 214, 215, 216, 217, 218, 219, 220, 221, 222, 223] (by decide +kernel) (by decide +kernel) -- ggL
set_option maxRecDepth 100000 in
theorem gkL_silent_L_tells_r10 : GoodIn wsL_silent wsL_tells_r10 := goodIn_r _ [224, 225, 226, 227, 228, 229, 230, 231, 232, 233, 234, 235, 236, 237, 238, 239, 240, 241, 242, 243, 244, 245, 246, 247] (by decide +kernel) (by decide +kernel) -- ggL
set_option maxRecDepth 100000 in
theorem gkL_silent_L_tells_r11 : GoodIn wsL_silent wsL_tells_r11 := goodIn_r _ [248, 249, 250, 251, 252, 253, 254, 255, 256, 257, 258, 259, 260, 261, 262, 263, 264, 265, 266, 267, 268, 269, 270, 271] (by decide +kernel) (by decide +kernel) -- ggL
set_option maxRecDepth 100000 in
theorem gkL_silent_L_tells_r12 : GoodIn wsL_silent wsL_tells_r12 := goodIn_r _ [272, 273, 274, 275, 276, 277, 278, 279, 280, 281, 282, 283, 284, 285, 286, 287, 288, 289, 290, 291, 292, 293, 294, 295] (by decide +kernel) (by decide +kernel) -- ggL
set_option maxRecDepth 100000 in
theorem gkL_silent_L_tells_r13 : GoodIn wsL_silent wsL_tells_r13 := goodIn_r _ [296, 297, 298, 299, 300, 301, 302, 303, 304, 305, 306, 307, 308, 309, 310, 311, 312, 313, 314, 315, 316, 317, 318, 319] (by decide +kernel) (by decide +kernel) -- ggL
set_option maxRecDepth 100000 in
theorem gkL_silent_L_tells_r14 : GoodIn wsL_silent wsL_tells_r14 := goodIn_r _ [320, 321, 322, 323, 324] (by decide +kernel) (by decide +kernel) -- ggL
set_option maxRecDepth 20000 in
theorem ggL_silent_L_tells : GoodIn wsL_silent wsL_tells := goodIn_ca (goodIn_ca (goodIn_ca ((goodIn_cc (goodIn_r _ [7] (by decide +kernel) (by decide +kernel)) (goodIn_app (goodIn_app (goodIn_app (goodIn_app (goodIn_app (goodIn_app (goodIn_app (goodIn_app (goodIn_app gkL_silent_L_tells_r1 (goodIn_app gkL_silent_L_tells_r2 (goodIn_app gkL_silent_L_tells_r3 (goodIn_app gkL_silent_L_tells_r4 (goodIn_app gkL_silent_L_tells_r5 (goodIn_app gkL_silent_L_tells_r6 (goodIn_app gkL_silent_L_tells_r7 (goodIn_app gkL_silent_L_tells_r8 (goodIn_app gkL_silent_L_tells_r9 (goodIn_app gkL_silent_L_tells_r10 (goodIn_app gkL_silent_L_tells_r11 (goodIn_app gkL_silent_L_tells_r12 (goodIn_app gkL_silent_L_tells_r13 gkL_silent_L_tells_r14))))))))))))) (goodIn_r _ [325, 326, 327, 328, 329, 330, 331, 332] (by decide +kernel) (by decide +kernel))) (goodIn_r _ [333, 334, 335, 336] (by decide +kernel) (by decide +kernel))) (goodIn_r _ [337, 338, 339, 340, 341, 342, 343, 344, 345, 346, 347, 348, 349] (by decide +kernel) (by decide +kernel))) (goodIn_r _ [350, 351, 352] (by decide +kernel) (by decide +kernel))) (goodIn_r _ [353, 354, 355] (by decide +kernel) (by decide +kernel))) (goodIn_r _ [356, 357, 358, 359, 360, 361, 362, 363, 364, 365, 366, 367, 368] (by decide +kernel) (by decide +kernel))) (goodIn_r _ [369, 370, 371] (by decide +kernel) (by decide +kernel))) (goodIn_r _ [372, 373] (by decide +kernel) (by decide +kernel))))) (goodIn_sub (fun _ h => List.mem_cons_of_mem _ (List.mem_append_left _ (List.mem_append_left _ (List.mem_append_right _ h)))) (by decide +kernel))) (goodIn_sub (fun _ h => List.mem_cons_of_mem _ (List.mem_append_left _ (List.mem_append_right _ h))) (by decide +kernel))) (goodIn_sub (fun _ h => List.mem_cons_of_mem _ (List.mem_append_right _ h)) (by decide +kernel))
set_option maxRecDepth 20000 in
theorem gL_silent_L_tells : GoodIn wsL_silent (va_wsS RL 86 yL_tells wsL_tells) := goodIn_app (goodIn_of _ (by decide +kernel)) ggL_silent_L_tells
set_option maxRecDepth 20000 in
theorem ggL_all_X6_print : GoodIn wsL_all wsX6_print := goodIn_r _ [8, 9, 10, 11, 12, 13, 14, 15, 16, 17, 18, 19, 20, 21, 22, 23, 24, 25, 26, 27, 28, 29, 30, 31, 32, 33, 34, 35, 36, 37, 38, 39, 40, 41, 42, 43, 44, 45, 46, 47, 48, 49, 50, 51, 52, 158, 159, 160, 161, 162, 163, 164, 165, 166, 167, 168, 169, 170, 171, 172, 173, 174, 175, 176, 177, 178, 179, 180, 181] (by decide +kernel) (by decide +kernel)
set_option maxRecDepth 20000 in
theorem gL_all_X6_print : GoodIn wsL_all (wsV RL 92 RX6 yX6_print wsX6_print) := goodIn_app (goodIn_of _ (by decide +kernel)) ggL_all_X6_print
set_option maxRecDepth 20000 in
theorem ggL_all_X6_conflicts : GoodIn wsL_all wsX6_conflicts := goodIn_r _ [56, 9, 57, 58, 59, 13, 60, 61, 62, 63, 64, 65, 66, 67, 68, 69, 70, 71, 72, 73, 74, 75, 76, 77, 78, 79, 80, 81, 82, 83, 84, 85, 86, 87, 88, 89, 90, 91, 92, 93, 94, 95, 96, 97, 98, 99, 100, 101, 102, 103, 104, 105, 106, 107, 108, 109, 110, 111, 112, 158, 159, 160, 161, 162, 163, 164, 165, 166, 167, 168, 169, 170, 171, 172, 173, 174, 175, 176, 177, 178, 182, 183, 184, 185, 186, 187, 188, 189, 190, 191, 192, 193, 194, 195, 196, 197] (by decide +kernel) (by decide +kernel)
set_option maxRecDepth 20000 in
theorem gL_all_X6_conflicts : GoodIn wsL_all (wsV RL 98 RX6 yX6_conflicts wsX6_conflicts) := goodIn_app (goodIn_of _ (by decide +kernel)) ggL_all_X6_conflicts
set_option maxRecDepth 20000 in
theorem ggL_all_X6_state : GoodIn wsL_all wsX6_state := goodIn_ca (goodIn_r _ [116, 9, 117, 118, 119, 7, 120, 121, 122, 123, 124, 125, 64, 65, 66, 67, 68, 126, 70, 71, 72, 73, 74, 75, 76, 77, 78, 79, 80, 81, 82, 83, 84, 85, 127, 104, 105, 13, 106, 107, 158, 159, 160, 161, 162, 163, 164, 165, 182, 183, 184, 166, 167, 168, 169, 170, 171, 172, 173, 174, 175, 176, 177, 178] (by decide +kernel) (by decide +kernel)) (goodIn_sub (fun _ h => List.mem_cons_of_mem _ (List.mem_append_right _ h)) (by decide +kernel))
set_option maxRecDepth 20000 in
theorem gL_all_X6_state : GoodIn wsL_all (wsV RL 59 RX6 yX6_state wsX6_state) := goodIn_app (goodIn_of _ (by decide +kernel)) ggL_all_X6_state
set_option maxRecDepth 20000 in
theorem ggL_all_X6_commences : GoodIn wsL_all wsX6_commences := goodIn_ca (goodIn_r _ [131, 9, 117, 118, 119, 7, 120, 121, 122, 123, 124, 125, 64, 65, 66, 67, 68, 126, 70, 71, 72, 73, 74, 75, 76, 77, 78, 79, 80, 81, 82, 83, 84, 85, 132, 109, 110, 13, 111, 112, 158, 159, 160, 161, 162, 163, 164, 165, 182, 183, 184, 166, 167, 168, 169, 170, 171, 172, 173, 174, 175, 176, 177, 178] (by decide +kernel) (by decide +kernel)) (goodIn_sub (fun _ h => List.mem_cons_of_mem _ (List.mem_append_right _ h)) (by decide +kernel))
set_option maxRecDepth 20000 in
theorem gL_all_X6_commences : GoodIn wsL_all (wsV RL 62 RX6 yX6_commences wsX6_commences) := goodIn_app (goodIn_of _ (by decide +kernel)) ggL_all_X6_commences
set_option maxRecDepth 20000 in
theorem ggL_all_X6_label : GoodIn wsL_all wsX6_label := goodIn_ca (goodIn_r _ [136, 9, 137, 138, 139, 7, 140, 121, 122, 141, 142, 29, 30, 13, 31, 32, 158, 159, 160, 161, 162, 163, 164, 165, 166, 167, 168, 169, 170, 171, 172, 173, 174, 175, 176, 177, 178] (by decide +kernel) (by decide +kernel)) (goodIn_sub (fun _ h => List.mem_cons_of_mem _ (List.mem_append_right _ h)) (by decide +kernel))
set_option maxRecDepth 20000 in
theorem gL_all_X6_label : GoodIn wsL_all (wsV RL 37 RX6 yX6_label wsX6_label) := goodIn_app (goodIn_of _ (by decide +kernel)) ggL_all_X6_label
set_option maxRecDepth 20000 in
theorem ggL_all_X6_parent : GoodIn wsL_all wsX6_parent := goodIn_ca (goodIn_r _ [146, 9, 137, 138, 139, 7, 140, 121, 122, 141, 147, 25, 26, 13, 27, 28, 29, 30, 31, 32, 148, 149, 150, 151, 152, 158, 159, 160, 161, 162, 163, 164, 165, 166, 167, 168, 169, 170, 171, 172, 173, 174, 175, 176, 177, 178] (by decide +kernel) (by decide +kernel)) (goodIn_sub (fun _ h => List.mem_cons_of_mem _ (List.mem_append_right _ h)) (by decide +kernel))
set_option maxRecDepth 20000 in
theorem gL_all_X6_parent : GoodIn wsL_all (wsV RL 40 RX6 yX6_parent wsX6_parent) := goodIn_app (goodIn_of _ (by decide +kernel)) ggL_all_X6_parent
set_option maxRecDepth 20000 in
theorem ggL_all_X6_words : GoodIn wsL_all wsX6_words := goodIn_ca (goodIn_r _ [156, 9, 137, 138, 139, 7, 140, 121, 122, 141, 157, 20, 21, 13, 22, 23, 24, 25, 26, 27, 28, 29, 30, 31, 32, 158, 159, 160, 161, 162, 163, 164, 165, 166, 167, 168, 169, 170, 171, 172, 173, 174, 175, 176, 177, 178, 179, 180, 181] (by decide +kernel) (by decide +kernel)) (goodIn_sub (fun _ h => List.mem_cons_of_mem _ (List.mem_append_right _ h)) (by decide +kernel))
set_option maxRecDepth 20000 in
theorem gL_all_X6_words : GoodIn wsL_all (wsV RL 43 RX6 yX6_words wsX6_words) := goodIn_app (goodIn_of _ (by decide +kernel)) ggL_all_X6_words
set_option maxRecDepth 100000 in
theorem gkL_isRefused_L_all_r1 : GoodIn wsL_isRefused wsL_all_r1 := goodIn_r _ [5, 6, 7, 8, 9, 10, 11, 12, 13, 14, 15, 16, 17, 18, 19, 20, 21, 22, 23, 24, 25, 26, 27, 28] (by decide +kernel) (by decide +kernel) -- ggL
set_option maxRecDepth 100000 in
theorem gkL_isRefused_L_all_r2 : GoodIn wsL_isRefused wsL_all_r2 := goodIn_r _ [29, 30, 31, 32, 33, 34, 35, 36, 37, 38, 39, 40, 41, 42, 43, 44, 45, 46, 47, 48, 49, 50, 51, 52] (by decide +kernel) (by decide +kernel) -- ggL
set_option maxRecDepth 100000 in
theorem gkL_isRefused_L_all_r3 : GoodIn wsL_isRefused wsL_all_r3 := goodIn_r _ [53, 54, 55, 56, 57, 58, 59, 60, 61, 62, 63, 64, 65, 66, 67, 68, 69, 70, 71, 72, 73, 74, 75, 76] (by decide +kernel) (by decide +kernel) -- ggL
set_option maxRecDepth 100000 in
theorem gkL_isRefused_L_all_r4 : GoodIn wsL_isRefused wsL_all_r4 := goodIn_r _ [77, 78, 79, 80, 81, 82, 83, 84, 85, 86, 87, 88, 89, 90, 91, 92, 93, 94, 95, 96, 97, 98, 99, 100] (by decide +kernel) (by decide +kernel) -- ggL
set_option maxRecDepth 100000 in
theorem gkL_isRefused_L_all_r5 : GoodIn wsL_isRefused wsL_all_r5 := goodIn_r _ [101, 102, 103, 104, 105, 106, 107, 108, 109, 110, 111, 112, 113, 114, 115, 116, 117, 118, 119, 120, 121, 122, 123, 124] (by decide +kernel) (by decide +kernel) -- ggL
set_option maxRecDepth 100000 in
theorem gkL_isRefused_L_all_r6 : GoodIn wsL_isRefused wsL_all_r6 := goodIn_r _ [125, 126, 127, 128, 129, 130, 131, 132, 133, 134, 135, 136, 137, 138, 139, 140, 141, 142, 143, 144, 145, 146, 147, 148] (by decide +kernel) (by decide +kernel) -- ggL
