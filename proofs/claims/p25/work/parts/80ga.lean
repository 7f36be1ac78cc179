/-! the law: its callees' words among its own, part a. Packed by wip/gen25/p25names.py -/
theorem goodIn_cc {big a : List Cond} {c : Cond} (hc : GoodIn big [c]) (ha : GoodIn big a) : GoodIn big (c :: a) := fun w h => (List.mem_cons.mp h).elim (fun e => hc w (List.mem_singleton.mpr e)) (ha w)
set_option maxRecDepth 20000 in
theorem ggL_does_X6_pass : GoodIn wsL_does wsX6_pass := goodIn_ca (goodIn_ca (goodIn_r _ [8, 9, 10, 11, 12, 13, 489, 490, 491, 492, 493, 494, 495, 496] (by decide +kernel) (by decide +kernel)) (goodIn_sub (fun _ h => List.mem_cons_of_mem _ (List.mem_append_left _ (List.mem_append_left _ (List.mem_append_right _ h)))) (by decide +kernel))) (goodIn_sub (fun _ h => List.mem_cons_of_mem _ (List.mem_append_left _ (List.mem_append_right _ h))) (by decide +kernel))
set_option maxRecDepth 20000 in
theorem gL_does_X6_pass : GoodIn wsL_does (wsV RL 9 RX6 yX6_pass wsX6_pass) := goodIn_app (goodIn_of _ (by decide +kernel)) ggL_does_X6_pass
set_option maxRecDepth 20000 in
theorem ggL_does_X6_act : GoodIn wsL_does wsX6_act := goodIn_ca (goodIn_r _ [17, 11, 12, 18, 13, 19, 489, 490, 491, 492, 493, 494, 495, 496] (by decide +kernel) (by decide +kernel)) (goodIn_sub (fun _ h => List.mem_cons_of_mem _ (List.mem_append_left _ (List.mem_append_right _ h))) (by decide +kernel))
set_option maxRecDepth 20000 in
theorem gL_does_X6_act : GoodIn wsL_does (wsV RL 15 RX6 yX6_act wsX6_act) := goodIn_app (goodIn_of _ (by decide +kernel)) ggL_does_X6_act
set_option maxRecDepth 20000 in
theorem ggL_does_X6_word : GoodIn wsL_does wsX6_word := goodIn_ca (goodIn_ca (goodIn_r _ [23, 9, 10, 11, 12, 24, 25, 26, 27, 28, 29, 30, 31, 32, 33, 34, 489, 490, 491, 492, 493, 494, 495, 496, 497, 498, 499, 500, 501, 502, 503, 504, 505, 506, 507, 508, 509, 510, 511] (by decide +kernel) (by decide +kernel)) (goodIn_sub (fun _ h => List.mem_cons_of_mem _ (List.mem_append_left _ (List.mem_append_left _ (List.mem_append_right _ h)))) (by decide +kernel))) (goodIn_sub (fun _ h => List.mem_cons_of_mem _ (List.mem_append_left _ (List.mem_append_right _ h))) (by decide +kernel))
set_option maxRecDepth 20000 in
theorem gL_does_X6_word : GoodIn wsL_does (wsV RL 19 RX6 yX6_word wsX6_word) := goodIn_app (goodIn_of _ (by decide +kernel)) ggL_does_X6_word
set_option maxRecDepth 100000 in
theorem gkL_does_X6_enact_r1 : GoodIn wsL_does wsX6_enact_r1 := goodIn_r _ [11, 12, 39, 24, 26, 27, 40, 41, 42, 43, 44, 45, 46, 7, 47, 48, 49, 50, 51, 52, 53, 54, 55, 56] (by decide +kernel) (by decide +kernel) -- ggL
set_option maxRecDepth 100000 in
theorem gkL_does_X6_enact_r2 : GoodIn wsL_does wsX6_enact_r2 := goodIn_r _ [9, 10, 57, 58, 59, 60, 19, 13, 61, 62, 63, 64, 65, 66, 67, 68, 69, 70, 71, 72, 73, 74, 18, 75] (by decide +kernel) (by decide +kernel) -- ggL
set_option maxRecDepth 100000 in
theorem gkL_does_X6_enact_r3 : GoodIn wsL_does wsX6_enact_r3 := goodIn_r _ [76, 77, 78, 79, 80, 81, 82, 83, 84, 85, 86, 87, 88, 89, 90, 91, 92, 93, 94, 95, 96, 97, 98, 99] (by decide +kernel) (by decide +kernel) -- ggL
set_option maxRecDepth 100000 in
theorem gkL_does_X6_enact_r4 : GoodIn wsL_does wsX6_enact_r4 := goodIn_r _ [100, 101, 102, 103, 104, 105, 106, 107, 108, 109, 110, 111, 112, 113, 114, 115, 116, 117, 118, 119, 120, 121, 122, 123] (by decide +kernel) (by decide +kernel) -- ggL
set_option maxRecDepth 100000 in
theorem gkL_does_X6_enact_r5 : GoodIn wsL_does wsX6_enact_r5 := goodIn_r _ [124, 125, 126, 127, 128, 129, 130, 131, 132, 133, 134, 135, 136, 137, 138, 139, 140, 141, 142, 143, 144, 145, 146, 147] (by decide +kernel) (by decide +kernel) -- ggL
set_option maxRecDepth 100000 in
theorem gkL_does_X6_enact_r6 : GoodIn wsL_does wsX6_enact_r6 := goodIn_r _ [148, 149, 150, 151, 31, 152, 153, 154, 155, 156, 157, 158, 159, 160, 161, 162, 163, 164, 34, 33, 165, 166, 167, 168] (by decide +kernel) (by decide +kernel) -- ggL
set_option maxRecDepth 100000 in
theorem gkL_does_X6_enact_r7 : GoodIn wsL_does wsX6_enact_r7 := goodIn_r _ [169, 170, 171, 172, 173, 174, 175, 176, 177, 178, 179, 180, 181, 182, 183, 184, 185, 186, 187, 188, 189, 190, 191, 192] (by decide +kernel) (by decide +kernel) -- ggL
set_option maxRecDepth 100000 in
theorem gkL_does_X6_enact_r8 : GoodIn wsL_does wsX6_enact_r8 := goodIn_r _ [193, 194, 195, 196, 197, 198, 199, 200, 201, 202, 203, 204, 205, 206, 207, 208, 209, 210, 211, 212, 213, 214, 215, 216] (by decide +kernel) (by decide +kernel) -- ggL
set_option maxRecDepth 100000 in
theorem gkL_does_X6_enact_r9 : GoodIn wsL_does wsX6_enact_r9 := goodIn_r _ [217, 218, 219, 220, 221, 222, 223, 224, 225, 226, 227, 228, 229, 230, 231, 232, 233, 234, 235, 236, 237, 238, 239, 240] (by decide +kernel) (by decide +kernel) -- ggL
set_option maxRecDepth 100000 in
theorem gkL_does_X6_enact_r10 : GoodIn wsL_does wsX6_enact_r10 := goodIn_r _ [241, 242, 243, 244, 245, 246, 247, 248, 249, 250, 251, 252, 253, 254, 255, 256, 257, 258, 259, 260, 261, 262, 263, 264] (by decide +kernel) (by decide +kernel) -- ggL
set_option maxRecDepth 100000 in
theorem gkL_does_X6_enact_r11 : GoodIn wsL_does wsX6_enact_r11 := goodIn_r _ [265, 266, 267, 268, 269, 270, 271, 272, 273, 274, 275, 276, 277, 278, 279, 280, 281, 282, 283, 284, 285, 286, 287, 288] (by decide +kernel) (by decide +kernel) -- ggL
set_option maxRecDepth 100000 in
theorem gkL_does_X6_enact_r12 : GoodIn wsL_does wsX6_enact_r12 := goodIn_r _ [289, 290, 291, 292, 293, 294, 295, 296, 297, 298, 299, 300, 301, 302, 303, 304, 305, 306, 307, 308, 309, 310, 311, 312] (by decide +kernel) (by decide +kernel) -- ggL
set_option maxRecDepth 100000 in
theorem gkL_does_X6_enact_r13 : GoodIn wsL_does wsX6_enact_r13 := goodIn_r _ [313, 314, 315, 316, 317, 318, 319, 320, 321, 322, 323, 324, 325, 326, 327, 328, 329, 330, 331, 332, 333, 334, 335, 336] (by decide +kernel) (by decide +kernel) -- ggL
set_option maxRecDepth 100000 in
theorem gkL_does_X6_enact_r14 : GoodIn wsL_does wsX6_enact_r14 := goodIn_r _ [337, 338, 339, 340, 341, 342, 343, 344, 345, 346, 347, 348, 349, 350, 351, 352, 353, 354, 355, 356, 357, 358, 359, 360] (by decide +kernel) (by decide +kernel) -- ggL
set_option maxRecDepth 100000 in
theorem gkL_does_X6_enact_r15 : GoodIn wsL_does wsX6_enact_r15 := goodIn_r _ [361, 362, 363, 364, 365, 366, 367, 368, 369, 370, 371, 372, 373, 374, 375] (by decide +kernel) (by decide +kernel) -- ggL
set_option maxRecDepth 20000 in
theorem ggL_does_X6_enact : GoodIn wsL_does wsX6_enact := goodIn_ca (goodIn_ca (goodIn_ca ((goodIn_cc (goodIn_r _ [38] (by decide +kernel) (by decide +kernel)) (goodIn_app (goodIn_app (goodIn_app (goodIn_app (goodIn_app (goodIn_app (goodIn_app (goodIn_app (goodIn_app gkL_does_X6_enact_r1 (goodIn_app gkL_does_X6_enact_r2 (goodIn_app gkL_does_X6_enact_r3 (goodIn_app gkL_does_X6_enact_r4 (goodIn_app gkL_does_X6_enact_r5 (goodIn_app gkL_does_X6_enact_r6 (goodIn_app gkL_does_X6_enact_r7 (goodIn_app gkL_does_X6_enact_r8 (goodIn_app gkL_does_X6_enact_r9 (goodIn_app gkL_does_X6_enact_r10 (goodIn_app gkL_does_X6_enact_r11 (goodIn_app gkL_does_X6_enact_r12 (goodIn_app gkL_does_X6_enact_r13 (goodIn_app gkL_does_X6_enact_r14 gkL_does_X6_enact_r15)))))))))))))) (goodIn_r _ [489, 490, 491, 492, 493, 494, 495, 496] (by decide +kernel) (by decide +kernel))) (goodIn_r _ [497, 498, 499, 500, 501, 502, 503, 504, 505, 506, 507, 508, 509] (by decide +kernel) (by decide +kernel))) (goodIn_r _ [510, 511] (by decide +kernel) (by decide +kernel))) (goodIn_r _ [512, 513, 514] (by decide +kernel) (by decide +kernel))) (goodIn_r _ [515, 516, 517] (by decide +kernel) (by decide +kernel))) (goodIn_r _ [518, 519, 520, 521, 522, 523, 524, 525, 526, 527, 528, 529, 530] (by decide +kernel) (by decide +kernel))) (goodIn_r _ [531, 532, 533, 534] (by decide +kernel) (by decide +kernel))) (goodIn_r _ [535, 536, 537] (by decide +kernel) (by decide +kernel))))) (goodIn_sub (fun _ h => List.mem_cons_of_mem _ (List.mem_append_left _ (List.mem_append_right _ h))) (by decide +kernel))) (goodIn_sub (fun _ h => List.mem_cons_of_mem _ (List.mem_append_right _ h)) (by decide +kernel))) (goodIn_sub (fun _ h => List.mem_cons_of_mem _ (List.mem_append_left _ (List.mem_append_left _ (List.mem_append_right _ h)))) (by decide +kernel))
set_option maxRecDepth 20000 in
theorem gL_does_X6_enact : GoodIn wsL_does (wsV RL 23 RX6 yX6_enact wsX6_enact) := goodIn_app (goodIn_of _ (by decide +kernel)) ggL_does_X6_enact
set_option maxRecDepth 100000 in
theorem gkL_does_X6_instruct_r1 : GoodIn wsL_does wsX6_instruct_r1 := goodIn_r _ [9, 10, 11, 12, 24, 40, 41, 42, 43, 380, 381, 382, 7, 383, 52, 53, 384, 61, 62, 63, 64, 65, 66, 385] (by decide +kernel) (by decide +kernel) -- ggL
set_option maxRecDepth 100000 in
theorem gkL_does_X6_instruct_r2 : GoodIn wsL_does wsX6_instruct_r2 := goodIn_r _ [195, 196, 197, 198, 199, 200, 201, 202, 203, 204, 205, 206, 207, 208, 209, 89, 48, 49, 50, 51, 39, 44, 45, 46] (by decide +kernel) (by decide +kernel) -- ggL
set_option maxRecDepth 100000 in
theorem gkL_does_X6_instruct_r3 : GoodIn wsL_does wsX6_instruct_r3 := goodIn_r _ [47, 54, 55, 56, 57, 58, 59, 60, 19, 13, 386, 387, 388, 81, 389, 153, 390, 152, 67, 68, 69, 70, 71, 72] (by decide +kernel) (by decide +kernel) -- ggL
set_option maxRecDepth 100000 in
theorem gkL_does_X6_instruct_r4 : GoodIn wsL_does wsX6_instruct_r4 := goodIn_r _ [73, 74, 18, 75, 76, 77, 78, 79, 80, 82, 83, 84, 85, 86, 87, 88, 90, 91, 92, 93, 94, 95, 96, 97] (by decide +kernel) (by decide +kernel) -- ggL
set_option maxRecDepth 100000 in
theorem gkL_does_X6_instruct_r5 : GoodIn wsL_does wsX6_instruct_r5 := goodIn_r _ [98, 99, 100, 101, 102, 103, 104, 105, 106, 107, 108, 109, 110, 111, 112, 113, 114, 115, 116, 117, 118, 119, 120, 121] (by decide +kernel) (by decide +kernel) -- ggL
set_option maxRecDepth 100000 in
theorem gkL_does_X6_instruct_r6 : GoodIn wsL_does wsX6_instruct_r6 := goodIn_r _ [122, 123, 124, 125, 126, 127, 128, 129, 130, 131, 132, 133, 134, 135, 136, 137, 138, 139, 140, 141, 142, 143, 144, 145] (by decide +kernel) (by decide +kernel) -- ggL
set_option maxRecDepth 100000 in
theorem gkL_does_X6_instruct_r7 : GoodIn wsL_does wsX6_instruct_r7 := goodIn_r _ [146, 147, 148, 149, 150, 151, 31, 154, 155, 156, 157, 158, 159, 160, 161, 162, 163, 164, 34, 33, 165, 166, 167, 168] (by decide +kernel) (by decide +kernel) -- ggL
set_option maxRecDepth 100000 in
theorem gkL_does_X6_instruct_r8 : GoodIn wsL_does wsX6_instruct_r8 := goodIn_r _ [169, 170, 171, 172, 173, 174, 175, 176, 177, 178, 179, 180, 181, 182, 183, 184, 185, 186, 187, 188, 189, 190, 191, 192] (by decide +kernel) (by decide +kernel) -- ggL
set_option maxRecDepth 100000 in
theorem gkL_does_X6_instruct_r9 : GoodIn wsL_does wsX6_instruct_r9 := goodIn_r _ [193, 194, 210, 211, 212, 213, 214, 215, 216, 217, 218, 219, 220, 221, 222, 223, 224, 225, 226, 227, 228, 229, 230, 231] (by decide +kernel) (by decide +kernel) -- ggL
set_option maxRecDepth 100000 in
theorem gkL_does_X6_instruct_r10 : GoodIn wsL_does wsX6_instruct_r10 := goodIn_r _ [232, 233, 234, 235, 236, 237, 238, 239, 240, 241, 242, 243, 244, 245, 246, 247, 248, 249, 250, 251, 252, 253, 254, 255] (by decide +kernel) (by decide +kernel) -- ggL
set_option maxRecDepth 100000 in
theorem gkL_does_X6_instruct_r11 : GoodIn wsL_does wsX6_instruct_r11 := goodIn_r _ [256, 257, 258, 259, 260, 261, 262, 263, 264, 265, 266, 267, 268, 269, 270, 271, 272, 273, 274, 275, 276, 277, 278, 279] (by decide +kernel) (by decide +kernel) -- ggL
set_option maxRecDepth 100000 in
theorem gkL_does_X6_instruct_r12 : GoodIn wsL_does wsX6_instruct_r12 := goodIn_r _ [280, 281, 282, 283, 284, 285, 286, 287, 288, 289, 290, 291, 292, 293, 294, 295, 296, 297, 298, 299, 300, 301, 302, 303] (by decide +kernel) (by decide +kernel) -- ggL
set_option maxRecDepth 100000 in
theorem gkL_does_X6_instruct_r13 : GoodIn wsL_does wsX6_instruct_r13 := goodIn_r _ [304, 305, 306, 307, 308, 309, 310, 311, 312, 313, 314, 315, 316, 317, 318, 319, 320, 321, 322, 323, 324, 325, 326, 327] (by decide +kernel) (by decide +kernel) -- ggL
set_option maxRecDepth 100000 in
theorem gkL_does_X6_instruct_r14 : GoodIn wsL_does wsX6_instruct_r14 := goodIn_r _ [328, 329, 330, 331, 332, 333, 334, 335, 336, 337, 338, 339, 340, 341, 342, 343, 344, 345, 346, 347, 348, 349, 350, 351] (by decide +kernel) (by decide +kernel) -- ggL
set_option maxRecDepth 100000 in
theorem gkL_does_X6_instruct_r15 : GoodIn wsL_does wsX6_instruct_r15 := goodIn_r _ [352, 353, 354, 355, 356, 357, 358, 359, 360, 361, 362, 363, 364, 365, 366, 367, 368, 369, 370, 371, 372, 373, 374, 375] (by decide +kernel) (by decide +kernel) -- ggL
set_option maxRecDepth 20000 in
theorem ggL_does_X6_instruct : GoodIn wsL_does wsX6_instruct := goodIn_ca (goodIn_ca (goodIn_ca ((goodIn_cc (goodIn_r _ [379] (by decide +kernel) (by decide +kernel)) (goodIn_app (goodIn_app (goodIn_app (goodIn_app (goodIn_app (goodIn_app (goodIn_app (goodIn_app (goodIn_app gkL_does_X6_instruct_r1 (goodIn_app gkL_does_X6_instruct_r2 (goodIn_app gkL_does_X6_instruct_r3 (goodIn_app gkL_does_X6_instruct_r4 (goodIn_app gkL_does_X6_instruct_r5 (goodIn_app gkL_does_X6_instruct_r6 (goodIn_app gkL_does_X6_instruct_r7 (goodIn_app gkL_does_X6_instruct_r8 (goodIn_app gkL_does_X6_instruct_r9 (goodIn_app gkL_does_X6_instruct_r10 (goodIn_app gkL_does_X6_instruct_r11 (goodIn_app gkL_does_X6_instruct_r12 (goodIn_app gkL_does_X6_instruct_r13 (goodIn_app gkL_does_X6_instruct_r14 gkL_does_X6_instruct_r15)))))))))))))) (goodIn_r _ [489, 490, 491, 492, 493, 494, 495, 496] (by decide +kernel) (by decide +kernel))) (goodIn_r _ [497, 498, 499, 500, 501, 502, 503, 504, 505, 506, 507, 508, 509] (by decide +kernel) (by decide +kernel))) (goodIn_r _ [512, 513, 514] (by decide +kernel) (by decide +kernel))) (goodIn_r _ [510, 511] (by decide +kernel) (by decide +kernel))) (goodIn_r _ [515, 516, 517] (by decide +kernel) (by decide +kernel))) (goodIn_r _ [518, 519, 520, 521, 522, 523, 524, 525, 526, 527, 528, 529, 530] (by decide +kernel) (by decide +kernel))) (goodIn_r _ [531, 532, 533, 534] (by decide +kernel) (by decide +kernel))) (goodIn_r _ [535, 536, 537] (by decide +kernel) (by decide +kernel))))) (goodIn_sub (fun _ h => List.mem_cons_of_mem _ (List.mem_append_left _ (List.mem_append_left _ (List.mem_append_right _ h)))) (by decide +kernel))) (goodIn_sub (fun _ h => List.mem_cons_of_mem _ (List.mem_append_left _ (List.mem_append_right _ h))) (by decide +kernel))) (goodIn_sub (fun _ h => List.mem_cons_of_mem _ (List.mem_append_right _ h)) (by decide +kernel))
set_option maxRecDepth 20000 in
theorem gL_does_X6_instruct : GoodIn wsL_does (wsV RL 27 RX6 yX6_instruct wsX6_instruct) := goodIn_app (goodIn_of _ (by decide +kernel)) ggL_does_X6_instruct
set_option maxRecDepth 100000 in
theorem gkL_does_X6_look_r1 : GoodIn wsL_does wsX6_look_r1 := goodIn_r _ [9, 10, 13, 42, 43, 395, 396, 7, 397, 398, 399, 400, 174, 401, 237, 215, 238, 171, 172, 173, 175, 176, 177, 178] (by decide +kernel) (by decide +kernel) -- ggL
set_option maxRecDepth 100000 in
theorem gkL_does_X6_look_r2 : GoodIn wsL_does wsX6_look_r2 := goodIn_r _ [179, 180, 181, 182, 183, 184, 185, 186, 187, 188, 189, 190, 191, 64, 192, 87, 88, 89, 66, 193, 62, 63, 65, 194] (by decide +kernel) (by decide +kernel) -- ggL
set_option maxRecDepth 100000 in
theorem gkL_does_X6_look_r3 : GoodIn wsL_does wsX6_look_r3 := goodIn_r _ [195, 196, 197, 198, 199, 200, 201, 202, 203, 204, 205, 206, 207, 208, 209, 210, 211, 212, 213, 214, 216, 217, 218, 219] (by decide +kernel) (by decide +kernel) -- ggL
set_option maxRecDepth 100000 in
theorem gkL_does_X6_look_r4 : GoodIn wsL_does wsX6_look_r4 := goodIn_r _ [220, 221, 222, 223, 156, 224, 168, 225, 226, 227, 228, 229, 230, 231, 232, 233, 234, 235, 236, 239, 240, 241, 242, 243] (by decide +kernel) (by decide +kernel) -- ggL
set_option maxRecDepth 100000 in
theorem gkL_does_X6_look_r5 : GoodIn wsL_does wsX6_look_r5 := goodIn_r _ [244, 245, 246, 247, 248, 249, 250, 251, 252, 253, 254, 255, 169, 170, 256, 257, 258, 259, 260, 261, 262, 263, 264, 265] (by decide +kernel) (by decide +kernel) -- ggL
set_option maxRecDepth 100000 in
theorem gkL_does_X6_look_r6 : GoodIn wsL_does wsX6_look_r6 := goodIn_r _ [134, 135, 136, 266, 267, 268, 269, 94, 95, 96, 97, 98, 99, 100, 101, 102, 103, 104, 105, 106, 107, 108, 109, 110] (by decide +kernel) (by decide +kernel) -- ggL
set_option maxRecDepth 100000 in
theorem gkL_does_X6_look_r7 : GoodIn wsL_does wsX6_look_r7 := goodIn_r _ [111, 112, 113, 114, 115, 116, 117, 118, 119, 120, 121, 122, 123, 124, 125, 126, 127, 128, 129, 130, 131, 132, 133, 270] (by decide +kernel) (by decide +kernel) -- ggL
set_option maxRecDepth 100000 in
theorem gkL_does_X6_look_r8 : GoodIn wsL_does wsX6_look_r8 := goodIn_r _ [271, 272, 273, 274, 275, 276, 277, 278, 279, 280, 281, 282, 283, 284, 285, 286, 287, 288, 289, 290, 291, 292, 293, 294] (by decide +kernel) (by decide +kernel) -- ggL
set_option maxRecDepth 100000 in
theorem gkL_does_X6_look_r9 : GoodIn wsL_does wsX6_look_r9 := goodIn_r _ [295, 296, 297, 298, 299, 300, 301, 302, 303, 304, 305, 306, 307, 308, 309, 310, 311, 312, 313, 314, 315, 316, 317, 318] (by decide +kernel) (by decide +kernel) -- ggL
set_option maxRecDepth 100000 in
theorem gkL_does_X6_look_r10 : GoodIn wsL_does wsX6_look_r10 := goodIn_r _ [319, 320, 321, 322, 323, 324, 325, 326, 327, 328, 329, 330, 331, 332, 333, 334, 335, 336, 337, 338, 339, 340, 341, 342] (by decide +kernel) (by decide +kernel) -- ggL
set_option maxRecDepth 100000 in
theorem gkL_does_X6_look_r11 : GoodIn wsL_does wsX6_look_r11 := goodIn_r _ [343, 344, 345, 346, 347, 348, 349, 350, 351, 352, 353, 354, 355, 356, 357, 358, 359, 360, 361, 362, 363, 364, 365, 366] (by decide +kernel) (by decide +kernel) -- ggL
set_option maxRecDepth 100000 in
theorem gkL_does_X6_look_r12 : GoodIn wsL_does wsX6_look_r12 := goodIn_r _ [367, 368, 369, 370, 371, 372, 373, 374, 375] (by decide +kernel) (by decide +kernel) -- ggL
set_option maxRecDepth 20000 in
theorem ggL_does_X6_look : GoodIn wsL_does wsX6_look := goodIn_ca ((goodIn_cc (goodIn_r _ [394] (by decide +kernel) (by decide +kernel)) (goodIn_app (goodIn_app (goodIn_app (goodIn_app (goodIn_app (goodIn_app (goodIn_app (goodIn_app (goodIn_app gkL_does_X6_look_r1 (goodIn_app gkL_does_X6_look_r2 (goodIn_app gkL_does_X6_look_r3 (goodIn_app gkL_does_X6_look_r4 (goodIn_app gkL_does_X6_look_r5 (goodIn_app gkL_does_X6_look_r6 (goodIn_app gkL_does_X6_look_r7 (goodIn_app gkL_does_X6_look_r8 (goodIn_app gkL_does_X6_look_r9 (goodIn_app gkL_does_X6_look_r10 (goodIn_app gkL_does_X6_look_r11 gkL_does_X6_look_r12))))))))))) (goodIn_r _ [489, 490, 491, 492, 493, 494, 495, 496] (by decide +kernel) (by decide +kernel))) (goodIn_r _ [518, 519, 520, 521, 522, 523, 524, 525, 526, 527, 528, 529, 530] (by decide +kernel) (by decide +kernel))) (goodIn_r _ [497, 498, 499, 500, 501, 502, 503, 504, 505, 506, 507, 508, 509] (by decide +kernel) (by decide +kernel))) (goodIn_r _ [512, 513, 514] (by decide +kernel) (by decide +kernel))) (goodIn_r _ [531, 532, 533, 534] (by decide +kernel) (by decide +kernel))) (goodIn_r _ [515, 516, 517] (by decide +kernel) (by decide +kernel))) (goodIn_r _ [535, 536, 537] (by decide +kernel) (by decide +kernel))) (goodIn_r _ [510, 511] (by decide +kernel) (by decide +kernel))))) (goodIn_sub (fun _ h => List.mem_cons_of_mem _ (List.mem_append_left _ (List.mem_append_left _ (List.mem_append_right _ h)))) (by decide +kernel))
set_option maxRecDepth 20000 in
theorem gL_does_X6_look : GoodIn wsL_does (wsV RL 31 RX6 yX6_look wsX6_look) := goodIn_app (goodIn_of _ (by decide +kernel)) ggL_does_X6_look
set_option maxRecDepth 20000 in
theorem ggL_does_X6_provisionAt : GoodIn wsL_does wsX6_provisionAt := goodIn_ca (goodIn_r _ [405, 52, 53, 42, 406, 407, 408, 174, 409, 185, 368, 489, 490, 491, 492, 493, 494, 495, 496, 518, 519, 520, 521, 522, 523, 524, 525, 526, 527, 528, 529, 530] (by decide +kernel) (by decide +kernel)) (goodIn_sub (fun _ h => List.mem_cons_of_mem _ (List.mem_append_right _ h)) (by decide +kernel))
set_option maxRecDepth 20000 in
theorem gL_does_X6_provisionAt : GoodIn wsL_does (wsV RL 34 RX6 yX6_provisionAt wsX6_provisionAt) := goodIn_app (goodIn_of _ (by decide +kernel)) ggL_does_X6_provisionAt
set_option maxRecDepth 20000 in
theorem ggL_does_X6_label : GoodIn wsL_does wsX6_label := goodIn_ca (goodIn_r _ [413, 42, 48, 49, 50, 7, 51, 52, 53, 39, 414, 292, 293, 174, 294, 187, 489, 490, 491, 492, 493, 494, 495, 496, 518, 519, 520, 521, 522, 523, 524, 525, 526, 527, 528, 529, 530] (by decide +kernel) (by decide +kernel)) (goodIn_sub (fun _ h => List.mem_cons_of_mem _ (List.mem_append_right _ h)) (by decide +kernel))
set_option maxRecDepth 20000 in
theorem gL_does_X6_label : GoodIn wsL_does (wsV RL 37 RX6 yX6_label wsX6_label) := goodIn_app (goodIn_of _ (by decide +kernel)) ggL_does_X6_label
set_option maxRecDepth 20000 in
theorem ggL_does_X6_parent : GoodIn wsL_does wsX6_parent := goodIn_ca (goodIn_r _ [418, 42, 48, 49, 50, 7, 51, 52, 53, 39, 419, 288, 289, 174, 290, 291, 292, 293, 294, 187, 420, 345, 346, 347, 188, 489, 490, 491, 492, 493, 494, 495, 496, 518, 519, 520, 521, 522, 523, 524, 525, 526, 527, 528, 529, 530] (by decide +kernel) (by decide +kernel)) (goodIn_sub (fun _ h => List.mem_cons_of_mem _ (List.mem_append_right _ h)) (by decide +kernel))
set_option maxRecDepth 20000 in
theorem gL_does_X6_parent : GoodIn wsL_does (wsV RL 40 RX6 yX6_parent wsX6_parent) := goodIn_app (goodIn_of _ (by decide +kernel)) ggL_does_X6_parent
set_option maxRecDepth 20000 in
theorem ggL_does_X6_words : GoodIn wsL_does wsX6_words := goodIn_ca (goodIn_r _ [424, 42, 48, 49, 50, 7, 51, 52, 53, 39, 425, 426, 427, 174, 428, 276, 287, 288, 289, 290, 291, 292, 293, 294, 187, 489, 490, 491, 492, 493, 494, 495, 496, 518, 519, 520, 521, 522, 523, 524, 525, 526, 527, 528, 529, 530, 535, 536, 537] (by decide +kernel) (by decide +kernel)) (goodIn_sub (fun _ h => List.mem_cons_of_mem _ (List.mem_append_right _ h)) (by decide +kernel))
set_option maxRecDepth 20000 in
theorem gL_does_X6_words : GoodIn wsL_does (wsV RL 43 RX6 yX6_words wsX6_words) := goodIn_app (goodIn_of _ (by decide +kernel)) ggL_does_X6_words
set_option maxRecDepth 20000 in
theorem ggL_does_X6_wordAt : GoodIn wsL_does wsX6_wordAt := goodIn_ca (goodIn_r _ [432, 42, 433, 434, 435, 7, 436, 52, 53, 48, 49, 50, 51, 39, 425, 426, 427, 174, 428, 276, 287, 288, 289, 290, 291, 292, 293, 294, 187, 437, 438, 439, 440, 441, 442, 443, 308, 444, 310, 316, 489, 490, 491, 492, 493, 494, 495, 496, 518, 519, 520, 521, 522, 523, 524, 525, 526, 527, 528, 529, 530, 535, 536, 537] (by decide +kernel) (by decide +kernel)) (goodIn_sub (fun _ h => List.mem_cons_of_mem _ (List.mem_append_right _ h)) (by decide +kernel))
set_option maxRecDepth 20000 in
theorem gL_does_X6_wordAt : GoodIn wsL_does (wsV RL 46 RX6 yX6_wordAt wsX6_wordAt) := goodIn_app (goodIn_of _ (by decide +kernel)) ggL_does_X6_wordAt
set_option maxRecDepth 100000 in
theorem gkL_does_X6_wordAnew_r1 : GoodIn wsL_does wsX6_wordAnew_r1 := goodIn_r _ [52, 53, 42, 48, 49, 50, 7, 51, 39, 449, 450, 451, 174, 452, 178, 176, 179, 453, 287, 288, 289, 290, 291, 292] (by decide +kernel) (by decide +kernel) -- ggL
set_option maxRecDepth 100000 in
theorem gkL_does_X6_wordAnew_r2 : GoodIn wsL_does wsX6_wordAnew_r2 := goodIn_r _ [293, 294, 187, 193, 62, 63, 64, 65, 66, 194, 195, 196, 197, 198, 199, 200, 201, 202, 203, 204, 205, 206, 207, 208] (by decide +kernel) (by decide +kernel) -- ggL
set_option maxRecDepth 100000 in
theorem gkL_does_X6_wordAnew_r3 : GoodIn wsL_does wsX6_wordAnew_r3 := goodIn_r _ [209, 89, 454, 455, 456, 81, 457, 146, 147, 458, 459, 460, 461, 180, 295, 296, 297, 298, 274, 299, 300, 301, 302, 303] (by decide +kernel) (by decide +kernel) -- ggL
set_option maxRecDepth 100000 in
theorem gkL_does_X6_wordAnew_r4 : GoodIn wsL_does wsX6_wordAnew_r4 := goodIn_r _ [186, 304, 305, 306, 307, 308, 309, 310, 311, 312, 313, 314, 315, 316, 317, 134, 135, 136, 318, 319, 320, 321, 322, 323] (by decide +kernel) (by decide +kernel) -- ggL
set_option maxRecDepth 100000 in
theorem gkL_does_X6_wordAnew_r5 : GoodIn wsL_does wsX6_wordAnew_r5 := goodIn_r _ [324, 325, 326, 327, 328, 329, 330, 331, 332, 333, 334, 335, 336, 337, 338, 339, 441, 442, 443, 444] (by decide +kernel) (by decide +kernel) -- ggL
set_option maxRecDepth 20000 in
theorem ggL_does_X6_wordAnew : GoodIn wsL_does wsX6_wordAnew := goodIn_ca ((goodIn_cc (goodIn_r _ [448] (by decide +kernel) (by decide +kernel)) (goodIn_app (goodIn_app (goodIn_app (goodIn_app (goodIn_app (goodIn_app (goodIn_app gkL_does_X6_wordAnew_r1 (goodIn_app gkL_does_X6_wordAnew_r2 (goodIn_app gkL_does_X6_wordAnew_r3 (goodIn_app gkL_does_X6_wordAnew_r4 gkL_does_X6_wordAnew_r5)))) (goodIn_r _ [489, 490, 491, 492, 493, 494, 495, 496] (by decide +kernel) (by decide +kernel))) (goodIn_r _ [518, 519, 520, 521, 522, 523, 524, 525, 526, 527, 528, 529, 530] (by decide +kernel) (by decide +kernel))) (goodIn_r _ [497, 498, 499, 500, 501, 502, 503, 504, 505, 506, 507, 508, 509] (by decide +kernel) (by decide +kernel))) (goodIn_r _ [512, 513, 514] (by decide +kernel) (by decide +kernel))) (goodIn_r _ [535, 536, 537] (by decide +kernel) (by decide +kernel))) (goodIn_r _ [510, 511] (by decide +kernel) (by decide +kernel))))) (goodIn_sub (fun _ h => List.mem_cons_of_mem _ (List.mem_append_right _ h)) (by decide +kernel))
set_option maxRecDepth 20000 in
theorem gL_does_X6_wordAnew : GoodIn wsL_does (wsV RL 50 RX6 yX6_wordAnew wsX6_wordAnew) := goodIn_app (goodIn_of _ (by decide +kernel)) ggL_does_X6_wordAnew
set_option maxRecDepth 20000 in
theorem ggL_does_X6_origin : GoodIn wsL_does wsX6_origin := goodIn_ca (goodIn_r _ [465, 42, 433, 434, 435, 7, 436, 52, 53, 48, 49, 50, 51, 39, 425, 426, 427, 174, 428, 276, 287, 288, 289, 290, 291, 292, 293, 294, 187, 466, 467, 468, 469, 470, 471, 472, 308, 473, 310, 318, 489, 490, 491, 492, 493, 494, 495, 496, 518, 519, 520, 521, 522, 523, 524, 525, 526, 527, 528, 529, 530, 535, 536, 537] (by decide +kernel) (by decide +kernel)) (goodIn_sub (fun _ h => List.mem_cons_of_mem _ (List.mem_append_right _ h)) (by decide +kernel))
set_option maxRecDepth 20000 in
theorem gL_does_X6_origin : GoodIn wsL_does (wsV RL 53 RX6 yX6_origin wsX6_origin) := goodIn_app (goodIn_of _ (by decide +kernel)) ggL_does_X6_origin
set_option maxRecDepth 100000 in
theorem gkL_does_X6_refers_r1 : GoodIn wsL_does wsX6_refers_r1 := goodIn_r _ [42, 478, 43, 433, 434, 435, 7, 436, 52, 53, 48, 49, 50, 51, 39, 425, 426, 427, 174, 428, 276, 287, 288, 289] (by decide +kernel) (by decide +kernel) -- ggL
set_option maxRecDepth 100000 in
theorem gkL_does_X6_refers_r2 : GoodIn wsL_does wsX6_refers_r2 := goodIn_r _ [290, 291, 292, 293, 294, 187, 437, 438, 439, 440, 441, 442, 443, 308, 444, 310, 316, 414, 466, 467, 468, 469, 470, 471] (by decide +kernel) (by decide +kernel) -- ggL
set_option maxRecDepth 100000 in
theorem gkL_does_X6_refers_r3 : GoodIn wsL_does wsX6_refers_r3 := goodIn_r _ [472, 473, 318, 479, 230, 231, 232, 177, 398, 399, 400, 401, 237, 215, 238, 171, 172, 173, 175, 176, 178, 179, 180, 181] (by decide +kernel) (by decide +kernel) -- ggL
set_option maxRecDepth 100000 in
theorem gkL_does_X6_refers_r4 : GoodIn wsL_does wsX6_refers_r4 := goodIn_r _ [182, 183, 184, 185, 186, 188, 189, 190, 191, 64, 192, 87, 88, 89, 66, 193, 62, 63, 65, 194, 195, 196, 197, 198] (by decide +kernel) (by decide +kernel) -- ggL
set_option maxRecDepth 100000 in
theorem gkL_does_X6_refers_r5 : GoodIn wsL_does wsX6_refers_r5 := goodIn_r _ [199, 200, 201, 202, 203, 204, 205, 206, 207, 208, 209, 210, 211, 212, 213, 214, 216, 217, 218, 219, 220, 221, 222, 223] (by decide +kernel) (by decide +kernel) -- ggL
set_option maxRecDepth 100000 in
theorem gkL_does_X6_refers_r6 : GoodIn wsL_does wsX6_refers_r6 := goodIn_r _ [156, 224, 168, 225, 226, 227, 228, 229, 233, 234, 235, 236, 239, 240, 241, 242, 243, 244, 245, 246, 247, 248, 249, 250] (by decide +kernel) (by decide +kernel) -- ggL
set_option maxRecDepth 100000 in
theorem gkL_does_X6_refers_r7 : GoodIn wsL_does wsX6_refers_r7 := goodIn_r _ [251, 252, 253, 254, 255, 169, 170, 256, 257, 258, 259, 260, 261, 262, 263, 264, 265, 134, 135, 136, 266, 267, 268, 269] (by decide +kernel) (by decide +kernel) -- ggL
set_option maxRecDepth 100000 in
theorem gkL_does_X6_refers_r8 : GoodIn wsL_does wsX6_refers_r8 := goodIn_r _ [94, 95, 96, 97, 98, 99, 100, 101, 102, 103, 104, 105, 106, 107, 108, 109, 110, 111, 112, 113, 114, 115, 116, 117] (by decide +kernel) (by decide +kernel) -- ggL
set_option maxRecDepth 100000 in
theorem gkL_does_X6_refers_r9 : GoodIn wsL_does wsX6_refers_r9 := goodIn_r _ [118, 119, 120, 121, 122, 123, 124, 125, 126, 127, 128, 129, 130, 131, 132, 133, 270, 271, 272, 273, 274, 275, 277, 278] (by decide +kernel) (by decide +kernel) -- ggL
set_option maxRecDepth 100000 in
theorem gkL_does_X6_refers_r10 : GoodIn wsL_does wsX6_refers_r10 := goodIn_r _ [279, 280, 281, 282, 283, 284, 285, 286, 295, 296, 297, 298, 299, 300, 301, 302, 303, 304, 305, 306, 307, 309, 311, 312] (by decide +kernel) (by decide +kernel) -- ggL
set_option maxRecDepth 100000 in
theorem gkL_does_X6_refers_r11 : GoodIn wsL_does wsX6_refers_r11 := goodIn_r _ [313, 314, 315, 317, 319, 320, 321, 322, 323, 324, 325, 326, 327, 328, 329, 330, 331, 332, 333, 334, 335, 336, 337, 338] (by decide +kernel) (by decide +kernel) -- ggL
set_option maxRecDepth 100000 in
theorem gkL_does_X6_refers_r12 : GoodIn wsL_does wsX6_refers_r12 := goodIn_r _ [339, 340, 341, 342, 343, 344, 345, 346, 347, 348, 349, 350, 351, 352, 353, 354, 355, 356, 357, 358, 359, 360, 361, 362] (by decide +kernel) (by decide +kernel) -- ggL
set_option maxRecDepth 100000 in
theorem gkL_does_X6_refers_r13 : GoodIn wsL_does wsX6_refers_r13 := goodIn_r _ [363, 364, 365, 366, 367, 368, 369, 370, 371, 372, 373, 374, 375] (by decide +kernel) (by decide +kernel) -- ggL
set_option maxRecDepth 20000 in
theorem ggL_does_X6_refers : GoodIn wsL_does wsX6_refers := goodIn_ca ((goodIn_cc (goodIn_r _ [477] (by decide +kernel) (by decide +kernel)) (goodIn_app (goodIn_app (goodIn_app (goodIn_app (goodIn_app (goodIn_app (goodIn_app (goodIn_app (goodIn_app gkL_does_X6_refers_r1 (goodIn_app gkL_does_X6_refers_r2 (goodIn_app gkL_does_X6_refers_r3 (goodIn_app gkL_does_X6_refers_r4 (goodIn_app gkL_does_X6_refers_r5 (goodIn_app gkL_does_X6_refers_r6 (goodIn_app gkL_does_X6_refers_r7 (goodIn_app gkL_does_X6_refers_r8 (goodIn_app gkL_does_X6_refers_r9 (goodIn_app gkL_does_X6_refers_r10 (goodIn_app gkL_does_X6_refers_r11 (goodIn_app gkL_does_X6_refers_r12 gkL_does_X6_refers_r13)))))))))))) (goodIn_r _ [489, 490, 491, 492, 493, 494, 495, 496] (by decide +kernel) (by decide +kernel))) (goodIn_r _ [518, 519, 520, 521, 522, 523, 524, 525, 526, 527, 528, 529, 530] (by decide +kernel) (by decide +kernel))) (goodIn_r _ [535, 536, 537] (by decide +kernel) (by decide +kernel))) (goodIn_r _ [497, 498, 499, 500, 501, 502, 503, 504, 505, 506, 507, 508, 509] (by decide +kernel) (by decide +kernel))) (goodIn_r _ [512, 513, 514] (by decide +kernel) (by decide +kernel))) (goodIn_r _ [531, 532, 533, 534] (by decide +kernel) (by decide +kernel))) (goodIn_r _ [515, 516, 517] (by decide +kernel) (by decide +kernel))) (goodIn_r _ [510, 511] (by decide +kernel) (by decide +kernel))))) (goodIn_sub (fun _ h => List.mem_cons_of_mem _ (List.mem_append_right _ h)) (by decide +kernel))
set_option maxRecDepth 20000 in
theorem gL_does_X6_refers : GoodIn wsL_does (wsV RL 56 RX6 yX6_refers wsX6_refers) := goodIn_app (goodIn_of _ (by decide +kernel)) ggL_does_X6_refers
set_option maxRecDepth 20000 in
theorem ggL_does_X6_state : GoodIn wsL_does wsX6_state := goodIn_ca (goodIn_r _ [483, 42, 380, 381, 382, 7, 383, 52, 53, 43, 384, 61, 62, 63, 64, 65, 66, 385, 195, 196, 197, 198, 199, 200, 201, 202, 203, 204, 205, 206, 207, 208, 209, 89, 484, 459, 460, 174, 461, 180, 489, 490, 491, 492, 493, 494, 495, 496, 512, 513, 514, 518, 519, 520, 521, 522, 523, 524, 525, 526, 527, 528, 529, 530] (by decide +kernel) (by decide +kernel)) (goodIn_sub (fun _ h => List.mem_cons_of_mem _ (List.mem_append_right _ h)) (by decide +kernel))
set_option maxRecDepth 20000 in
theorem gL_does_X6_state : GoodIn wsL_does (wsV RL 59 RX6 yX6_state wsX6_state) := goodIn_app (goodIn_of _ (by decide +kernel)) ggL_does_X6_state
