/-! the law: its callees' words among its own, part d. Packed by wip/gen25/p25names.py -/
set_option maxRecDepth 100000 in
theorem gkL_areSound_X6_refers_r8 : GoodIn wsL_areSound wsX6_refers_r8 := goodIn_r _ [184, 185, 186, 187, 188, 189, 190, 191, 192, 193, 194, 195, 196, 197, 198, 199, 200, 201, 202, 203, 204, 205, 206, 207] (by decide +kernel) (by decide +kernel) -- ggL
set_option maxRecDepth 100000 in
theorem gkL_areSound_X6_refers_r9 : GoodIn wsL_areSound wsX6_refers_r9 := goodIn_r _ [208, 209, 210, 211, 212, 213, 214, 215, 216, 217, 218, 219, 220, 221, 222, 223, 336, 337, 338, 339, 340, 341, 342, 343] (by decide +kernel) (by decide +kernel) -- ggL
set_option maxRecDepth 100000 in
theorem gkL_areSound_X6_refers_r10 : GoodIn wsL_areSound wsX6_refers_r10 := goodIn_r _ [344, 345, 346, 347, 348, 349, 350, 351, 352, 353, 354, 355, 356, 357, 358, 359, 360, 361, 362, 363, 364, 366, 368, 369] (by decide +kernel) (by decide +kernel) -- ggL
set_option maxRecDepth 100000 in
theorem gkL_areSound_X6_refers_r11 : GoodIn wsL_areSound wsX6_refers_r11 := goodIn_r _ [370, 371, 372, 374, 376, 377, 378, 379, 380, 381, 382, 383, 384, 385, 386, 387, 388, 389, 390, 391, 392, 393, 394, 395] (by decide +kernel) (by decide +kernel) -- ggL
set_option maxRecDepth 100000 in
theorem gkL_areSound_X6_refers_r12 : GoodIn wsL_areSound wsX6_refers_r12 := goodIn_r _ [396, 397, 398, 399, 400, 401, 86, 87, 88, 402, 403, 404, 405, 406, 407, 408, 409, 410, 411, 412, 413, 414, 415, 416] (by decide +kernel) (by decide +kernel) -- ggL
set_option maxRecDepth 100000 in
theorem gkL_areSound_X6_refers_r13 : GoodIn wsL_areSound wsX6_refers_r13 := goodIn_r _ [417, 418, 419, 420, 421, 66, 422, 423, 424, 425, 426, 427, 428] (by decide +kernel) (by decide +kernel) -- ggL
set_option maxRecDepth 20000 in
theorem ggL_areSound_X6_refers : GoodIn wsL_areSound wsX6_refers := goodIn_ca ((goodIn_cc (goodIn_r _ [494] (by decide +kernel) (by decide +kernel)) (goodIn_app (goodIn_app (goodIn_app (goodIn_app (goodIn_app (goodIn_app (goodIn_app (goodIn_app (goodIn_app gkL_areSound_X6_refers_r1 (goodIn_app gkL_areSound_X6_refers_r2 (goodIn_app gkL_areSound_X6_refers_r3 (goodIn_app gkL_areSound_X6_refers_r4 (goodIn_app gkL_areSound_X6_refers_r5 (goodIn_app gkL_areSound_X6_refers_r6 (goodIn_app gkL_areSound_X6_refers_r7 (goodIn_app gkL_areSound_X6_refers_r8 (goodIn_app gkL_areSound_X6_refers_r9 (goodIn_app gkL_areSound_X6_refers_r10 (goodIn_app gkL_areSound_X6_refers_r11 (goodIn_app gkL_areSound_X6_refers_r12 gkL_areSound_X6_refers_r13)))))))))))) (goodIn_r _ [516, 517, 518, 519, 520, 521, 522, 523] (by decide +kernel) (by decide +kernel))) (goodIn_r _ [527, 528, 529, 530, 531, 532, 533, 534, 535, 536, 537, 538, 539] (by decide +kernel) (by decide +kernel))) (goodIn_r _ [540, 541, 542] (by decide +kernel) (by decide +kernel))) (goodIn_r _ [543, 544, 545, 546, 547, 548, 549, 550, 551, 552, 553, 554, 555] (by decide +kernel) (by decide +kernel))) (goodIn_r _ [524, 525, 526] (by decide +kernel) (by decide +kernel))) (goodIn_r _ [561, 562, 563, 564] (by decide +kernel) (by decide +kernel))) (goodIn_r _ [558, 559, 560] (by decide +kernel) (by decide +kernel))) (goodIn_r _ [556, 557] (by decide +kernel) (by decide +kernel))))) (goodIn_sub (fun _ h => List.mem_cons_of_mem _ (List.mem_append_left _ (List.mem_append_left _ (List.mem_append_right _ h)))) (by decide +kernel))
set_option maxRecDepth 20000 in
theorem gL_areSound_X6_refers : GoodIn wsL_areSound (wsV RL 56 RX6 yX6_refers wsX6_refers) := goodIn_app (goodIn_of _ (by decide +kernel)) ggL_areSound_X6_refers
set_option maxRecDepth 100000 in
theorem gkL_areSound_X6_wordAnew_r1 : GoodIn wsL_areSound wsX6_wordAnew_r1 := goodIn_r _ [15, 16, 10, 71, 72, 73, 8, 74, 75, 469, 470, 471, 45, 472, 266, 265, 267, 473, 99, 77, 78, 79, 80, 81] (by decide +kernel) (by decide +kernel) -- ggL
set_option maxRecDepth 100000 in
theorem gkL_areSound_X6_wordAnew_r2 : GoodIn wsL_areSound wsX6_wordAnew_r2 := goodIn_r _ [82, 83, 84, 277, 20, 21, 22, 23, 24, 278, 26, 27, 28, 29, 30, 31, 32, 33, 34, 35, 36, 37, 38, 39] (by decide +kernel) (by decide +kernel) -- ggL
set_option maxRecDepth 100000 in
theorem gkL_areSound_X6_wordAnew_r3 : GoodIn wsL_areSound wsX6_wordAnew_r3 := goodIn_r _ [40, 41, 474, 475, 476, 172, 477, 236, 237, 478, 43, 44, 46, 47, 352, 353, 354, 355, 340, 356, 357, 358, 359, 360] (by decide +kernel) (by decide +kernel) -- ggL
set_option maxRecDepth 100000 in
theorem gkL_areSound_X6_wordAnew_r4 : GoodIn wsL_areSound wsX6_wordAnew_r4 := goodIn_r _ [272, 361, 362, 363, 364, 365, 366, 367, 368, 369, 370, 371, 372, 373, 374, 224, 225, 226, 375, 376, 377, 378, 379, 380] (by decide +kernel) (by decide +kernel) -- ggL
set_option maxRecDepth 100000 in
theorem gkL_areSound_X6_wordAnew_r5 : GoodIn wsL_areSound wsX6_wordAnew_r5 := goodIn_r _ [381, 382, 383, 384, 385, 386, 387, 388, 389, 390, 391, 392, 393, 394, 395, 396, 461, 462, 463, 464] (by decide +kernel) (by decide +kernel) -- ggL
set_option maxRecDepth 20000 in
theorem ggL_areSound_X6_wordAnew : GoodIn wsL_areSound wsX6_wordAnew := goodIn_ca ((goodIn_cc (goodIn_r _ [468] (by decide +kernel) (by decide +kernel)) (goodIn_app (goodIn_app (goodIn_app (goodIn_app (goodIn_app (goodIn_app (goodIn_app gkL_areSound_X6_wordAnew_r1 (goodIn_app gkL_areSound_X6_wordAnew_r2 (goodIn_app gkL_areSound_X6_wordAnew_r3 (goodIn_app gkL_areSound_X6_wordAnew_r4 gkL_areSound_X6_wordAnew_r5)))) (goodIn_r _ [516, 517, 518, 519, 520, 521, 522, 523] (by decide +kernel) (by decide +kernel))) (goodIn_r _ [527, 528, 529, 530, 531, 532, 533, 534, 535, 536, 537, 538, 539] (by decide +kernel) (by decide +kernel))) (goodIn_r _ [543, 544, 545, 546, 547, 548, 549, 550, 551, 552, 553, 554, 555] (by decide +kernel) (by decide +kernel))) (goodIn_r _ [524, 525, 526] (by decide +kernel) (by decide +kernel))) (goodIn_r _ [540, 541, 542] (by decide +kernel) (by decide +kernel))) (goodIn_r _ [556, 557] (by decide +kernel) (by decide +kernel))))) (goodIn_sub (fun _ h => List.mem_cons_of_mem _ (List.mem_append_left _ (List.mem_append_left _ (List.mem_append_right _ h)))) (by decide +kernel))
set_option maxRecDepth 20000 in
theorem gL_areSound_X6_wordAnew : GoodIn wsL_areSound (wsV RL 50 RX6 yX6_wordAnew wsX6_wordAnew) := goodIn_app (goodIn_of _ (by decide +kernel)) ggL_areSound_X6_wordAnew
set_option maxRecDepth 20000 in
theorem ggL_areSound_X6_conflicts : GoodIn wsL_areSound wsX6_conflicts := goodIn_r _ [502, 10, 503, 504, 505, 45, 506, 266, 265, 277, 20, 21, 22, 23, 24, 278, 26, 27, 28, 29, 30, 31, 32, 33, 34, 35, 36, 37, 38, 39, 40, 41, 507, 508, 509, 510, 267, 511, 512, 513, 172, 514, 234, 236, 237, 515, 475, 476, 477, 478, 43, 44, 46, 47, 298, 53, 54, 55, 56, 516, 517, 518, 519, 520, 521, 522, 523, 527, 528, 529, 530, 531, 532, 533, 534, 535, 536, 537, 538, 539, 524, 525, 526, 543, 544, 545, 546, 547, 548, 549, 550, 551, 552, 553, 554, 555] (by decide +kernel) (by decide +kernel)
set_option maxRecDepth 20000 in
theorem gL_areSound_X6_conflicts : GoodIn wsL_areSound (wsV RL 98 RX6 yX6_conflicts wsX6_conflicts) := goodIn_app (goodIn_of _ (by decide +kernel)) ggL_areSound_X6_conflicts
set_option maxRecDepth 100000 in
theorem gkL_isLooked_L_does_r1 : GoodIn wsL_isLooked wsL_does_r1 := goodIn_r _ [5, 6, 7, 8, 9, 10, 11, 12, 13, 14, 15, 16, 17, 18, 19, 20, 21, 22, 23, 24, 25, 26, 27, 28] (by decide +kernel) (by decide +kernel) -- ggL
set_option maxRecDepth 100000 in
theorem gkL_isLooked_L_does_r2 : GoodIn wsL_isLooked wsL_does_r2 := goodIn_r _ [29, 30, 31, 32, 33, 34, 35, 36, 37, 38, 39, 40, 41, 42, 43, 44, 45, 46, 47, 48, 49, 50, 51, 52] (by decide +kernel) (by decide +kernel) -- ggL
set_option maxRecDepth 100000 in
theorem gkL_isLooked_L_does_r3 : GoodIn wsL_isLooked wsL_does_r3 := goodIn_r _ [53, 54, 55, 56, 57, 58, 59, 60, 61, 62, 63, 64, 65, 66, 67, 68, 69, 70, 71, 72, 73, 74, 75, 76] (by decide +kernel) (by decide +kernel) -- ggL
set_option maxRecDepth 100000 in
theorem gkL_isLooked_L_does_r4 : GoodIn wsL_isLooked wsL_does_r4 := goodIn_r _ [77, 78, 79, 80, 81, 82, 83, 84, 85, 86, 87, 88, 89, 90, 91, 92, 93, 94, 95, 96, 97, 98, 99, 100] (by decide +kernel) (by decide +kernel) -- ggL
set_option maxRecDepth 100000 in
theorem gkL_isLooked_L_does_r5 : GoodIn wsL_isLooked wsL_does_r5 := goodIn_r _ [101, 102, 103, 104, 105, 106, 107, 108, 109, 110, 111, 112, 113, 114, 115, 116, 117, 118, 119, 120, 121, 122, 123, 124] (by decide +kernel) (by decide +kernel) -- ggL
set_option maxRecDepth 100000 in
theorem gkL_isLooked_L_does_r6 : GoodIn wsL_isLooked wsL_does_r6 := goodIn_r _ [125, 126, 127, 128, 129, 130, 131, 132, 133, 134, 135, 136, 137, 138, 139, 140, 141, 142, 143, 144, 145, 146, 147, 148] (by decide +kernel) (by decide +kernel) -- ggL
set_option maxRecDepth 100000 in
theorem gkL_isLooked_L_does_r7 : GoodIn wsL_isLooked wsL_does_r7 := goodIn_r _ [149, 150, 151, 152, 153, 154, 155, 156, 157, 158, 159, 160, 161, 162, 163, 164, 165, 166, 167, 168, 169, 170, 171, 172] (by decide +kernel) (by decide +kernel) -- ggL
set_option maxRecDepth 100000 in
theorem gkL_isLooked_L_does_r8 : GoodIn wsL_isLooked wsL_does_r8 := goodIn_r _ [173, 174, 175, 176, 177, 178, 179, 180, 181, 182, 183, 184, 185, 186, 187, 188, 189, 190, 191, 192, 193, 194, 195, 196] (by decide +kernel) (by decide +kernel) -- ggL
set_option maxRecDepth 100000 in
theorem gkL_isLooked_L_does_r9 : GoodIn wsL_isLooked wsL_does_r9 := goodIn_r _ [197, 198, 199, 200, 201, 202, 203, 204, 205, 206, 207, 208, 209, 210, 211, 212, 213, 214, 215, 216, 217, 218, 219, 220] (by decide +kernel) (by decide +kernel) -- ggL
set_option maxRecDepth 100000 in
theorem gkL_isLooked_L_does_r10 : GoodIn wsL_isLooked wsL_does_r10 := goodIn_r _ [221, 222, 223, 224, 225, 226, 227, 228, 229, 230, 231, 232, 233, 234, 235, 236, 237, 238, 239, 240, 241, 242, 243, 244] (by decide +kernel) (by decide +kernel) -- ggL
set_option maxRecDepth 100000 in
theorem gkL_isLooked_L_does_r11 : GoodIn wsL_isLooked wsL_does_r11 := goodIn_r _ [245, 246, 247, 248, 249, 250, 251, 252, 253, 254, 255, 256, 257, 258, 259, 260, 261, 262, 263, 264, 265, 266, 267, 268] (by decide +kernel) (by decide +kernel) -- ggL
set_option maxRecDepth 100000 in
theorem gkL_isLooked_L_does_r12 : GoodIn wsL_isLooked wsL_does_r12 := goodIn_r _ [269, 270, 271, 272, 273, 274, 275, 276, 277, 278, 279, 280, 281, 282, 283, 284, 285, 286, 287, 288, 289, 290, 291, 292] (by decide +kernel) (by decide +kernel) -- ggL
set_option maxRecDepth 100000 in
theorem gkL_isLooked_L_does_r13 : GoodIn wsL_isLooked wsL_does_r13 := goodIn_r _ [293, 294, 295, 296, 297, 298, 299, 300, 301, 302, 303, 304, 305, 306, 307, 308, 309, 310, 311, 312, 313, 314, 315, 316] (by decide +kernel) (by decide +kernel) -- ggL
set_option maxRecDepth 100000 in
theorem gkL_isLooked_L_does_r14 : GoodIn wsL_isLooked wsL_does_r14 := goodIn_r _ [317, 318, 319, 320, 321, 322, 323, 324, 325, 326, 327, 328, 329, 330, 331, 332, 333, 334, 335, 336, 337, 338, 339, 340] (by decide +kernel) (by decide +kernel) -- ggL
set_option maxRecDepth 100000 in
theorem gkL_isLooked_L_does_r15 : GoodIn wsL_isLooked wsL_does_r15 := goodIn_r _ [341, 342, 343, 344, 345, 346, 347, 348, 349, 350, 351, 352, 353, 354, 355, 356, 357, 358, 359, 360, 361, 362, 363, 364] (by decide +kernel) (by decide +kernel) -- ggL
set_option maxRecDepth 100000 in
theorem gkL_isLooked_L_does_r16 : GoodIn wsL_isLooked wsL_does_r16 := goodIn_r _ [365, 366, 367, 368, 369, 370, 371, 372, 373, 374, 375, 376, 377, 378, 379, 380, 381, 382, 383, 384, 385, 386, 387, 388] (by decide +kernel) (by decide +kernel) -- ggL
set_option maxRecDepth 100000 in
theorem gkL_isLooked_L_does_r17 : GoodIn wsL_isLooked wsL_does_r17 := goodIn_r _ [389, 390, 391, 392, 393, 394, 395, 396, 397, 398, 399, 400, 401, 402, 403, 404, 405, 406, 407, 408, 409, 410, 411, 412] (by decide +kernel) (by decide +kernel) -- ggL
set_option maxRecDepth 100000 in
theorem gkL_isLooked_L_does_r18 : GoodIn wsL_isLooked wsL_does_r18 := goodIn_r _ [413, 414, 415, 416, 417, 418, 419, 420, 421, 422, 423, 424, 425, 426, 427, 428, 429, 430, 431, 432, 433, 434, 435, 436] (by decide +kernel) (by decide +kernel) -- ggL
set_option maxRecDepth 100000 in
theorem gkL_isLooked_L_does_r19 : GoodIn wsL_isLooked wsL_does_r19 := goodIn_r _ [437, 438, 439, 440, 441, 442, 443, 444, 445, 446, 447, 448, 449, 450, 451, 452, 453, 454, 455, 456, 457, 458, 459, 460] (by decide +kernel) (by decide +kernel) -- ggL
set_option maxRecDepth 100000 in
theorem gkL_isLooked_L_does_r20 : GoodIn wsL_isLooked wsL_does_r20 := goodIn_r _ [461, 462, 463, 464, 465, 466, 467, 468, 469, 470, 471, 472, 473, 474, 475, 476, 477, 478, 479, 480, 481, 482, 483, 484] (by decide +kernel) (by decide +kernel) -- ggL
set_option maxRecDepth 100000 in
theorem gkL_isLooked_L_does_r21 : GoodIn wsL_isLooked wsL_does_r21 := goodIn_r _ [485, 486, 487, 488, 489, 490, 491, 492] (by decide +kernel) (by decide +kernel) -- ggL
set_option maxRecDepth 20000 in
theorem ggL_isLooked_L_does : GoodIn wsL_isLooked wsL_does := goodIn_ca (goodIn_ca (goodIn_ca ((goodIn_cc (goodIn_r _ [4] (by decide +kernel) (by decide +kernel)) (goodIn_app (goodIn_app (goodIn_app (goodIn_app (goodIn_app (goodIn_app (goodIn_app (goodIn_app (goodIn_app gkL_isLooked_L_does_r1 (goodIn_app gkL_isLooked_L_does_r2 (goodIn_app gkL_isLooked_L_does_r3 (goodIn_app gkL_isLooked_L_does_r4 (goodIn_app gkL_isLooked_L_does_r5 (goodIn_app gkL_isLooked_L_does_r6 (goodIn_app gkL_isLooked_L_does_r7 (goodIn_app gkL_isLooked_L_does_r8 (goodIn_app gkL_isLooked_L_does_r9 (goodIn_app gkL_isLooked_L_does_r10 (goodIn_app gkL_isLooked_L_does_r11 (goodIn_app gkL_isLooked_L_does_r12 (goodIn_app gkL_isLooked_L_does_r13 (goodIn_app gkL_isLooked_L_does_r14 (goodIn_app gkL_isLooked_L_does_r15 (goodIn_app gkL_isLooked_L_does_r16 (goodIn_app gkL_isLooked_L_does_r17 (goodIn_app gkL_isLooked_L_does_r18 (goodIn_app gkL_isLooked_L_does_r19 (goodIn_app gkL_isLooked_L_does_r20 gkL_isLooked_L_does_r21)))))))))))))))))))) (goodIn_r _ [493, 494, 495, 496, 497, 498, 499, 500] (by decide +kernel) (by decide +kernel))) (goodIn_r _ [501, 502, 503, 504, 505, 506, 507, 508, 509, 510, 511, 512, 513] (by decide +kernel) (by decide +kernel))) (goodIn_r _ [514, 515] (by decide +kernel) (by decide +kernel))) (goodIn_r _ [516, 517, 518] (by decide +kernel) (by decide +kernel))) (goodIn_r _ [519, 520, 521] (by decide +kernel) (by decide +kernel))) (goodIn_r _ [522, 523, 524, 525, 526, 527, 528, 529, 530, 531, 532, 533, 534] (by decide +kernel) (by decide +kernel))) (goodIn_r _ [535, 536, 537, 538] (by decide +kernel) (by decide +kernel))) (goodIn_r _ [539, 540, 541] (by decide +kernel) (by decide +kernel))))) (goodIn_sub (fun _ h => List.mem_cons_of_mem _ (List.mem_append_left _ (List.mem_append_left _ (List.mem_append_right _ h)))) (by decide +kernel))) (goodIn_sub (fun _ h => List.mem_cons_of_mem _ (List.mem_append_left _ (List.mem_append_right _ h))) (by decide +kernel))) (goodIn_sub (fun _ h => List.mem_cons_of_mem _ (List.mem_append_right _ h)) (by decide +kernel))
set_option maxRecDepth 20000 in
theorem gL_isLooked_L_does : GoodIn wsL_isLooked (va_wsS RL 109 yL_does wsL_does) := goodIn_app (goodIn_of _ (by decide +kernel)) ggL_isLooked_L_does
set_option maxRecDepth 100000 in
theorem gkL_law_X6_init_r1 : GoodIn wsL_law wsX6_init_r1 := goodIn_r _ [9, 10, 11, 12, 13, 14, 15, 16, 17, 18, 19, 20, 21, 22, 23, 24, 25, 26, 27, 28, 29, 30, 31, 32] (by decide +kernel) (by decide +kernel) -- ggL
set_option maxRecDepth 100000 in
theorem gkL_law_X6_init_r2 : GoodIn wsL_law wsX6_init_r2 := goodIn_r _ [33, 34, 35, 36, 37, 38, 39, 40, 41, 42, 43, 44, 45, 46, 47, 48, 49, 50, 51, 52, 3, 53, 54, 55] (by decide +kernel) (by decide +kernel) -- ggL
set_option maxRecDepth 100000 in
theorem gkL_law_X6_init_r3 : GoodIn wsL_law wsX6_init_r3 := goodIn_r _ [56, 57, 58, 59, 60, 61, 62, 63, 64, 65, 66, 67, 68, 69, 70, 71, 72, 73, 74, 75, 76, 77, 78, 79] (by decide +kernel) (by decide +kernel) -- ggL
set_option maxRecDepth 100000 in
theorem gkL_law_X6_init_r4 : GoodIn wsL_law wsX6_init_r4 := goodIn_r _ [80, 81, 82, 83, 84, 85, 86, 87, 88, 89, 90, 91, 92, 93, 94, 95, 96, 97, 98, 99, 100, 101, 102, 103] (by decide +kernel) (by decide +kernel) -- ggL
set_option maxRecDepth 100000 in
theorem gkL_law_X6_init_r5 : GoodIn wsL_law wsX6_init_r5 := goodIn_r _ [104, 105, 106, 107, 108, 109, 110, 111, 112, 113, 114, 115, 116, 117, 118, 119, 120, 121, 122, 123, 124, 125, 126, 127] (by decide +kernel) (by decide +kernel) -- ggL
set_option maxRecDepth 100000 in
theorem gkL_law_X6_init_r6 : GoodIn wsL_law wsX6_init_r6 := goodIn_r _ [128] (by decide +kernel) (by decide +kernel) -- ggL
set_option maxRecDepth 20000 in
theorem ggL_law_X6_init : GoodIn wsL_law wsX6_init := (goodIn_cc (goodIn_r _ [8] (by decide +kernel) (by decide +kernel)) (goodIn_app (goodIn_app (goodIn_app (goodIn_app (goodIn_app (goodIn_app (goodIn_app (goodIn_app (goodIn_app gkL_law_X6_init_r1 (goodIn_app gkL_law_X6_init_r2 (goodIn_app gkL_law_X6_init_r3 (goodIn_app gkL_law_X6_init_r4 (goodIn_app gkL_law_X6_init_r5 gkL_law_X6_init_r6))))) (goodIn_r _ [632, 633, 634] (by decide +kernel) (by decide +kernel))) (goodIn_r _ [624, 625, 626, 627, 628, 629, 630, 631] (by decide +kernel) (by decide +kernel))) (goodIn_r _ [635, 636, 637, 638, 639, 640, 641, 642, 643, 644, 645, 646, 647] (by decide +kernel) (by decide +kernel))) (goodIn_r _ [648, 649, 650, 651, 652, 653, 654, 655, 656, 657, 658, 659, 660] (by decide +kernel) (by decide +kernel))) (goodIn_r _ [661, 662, 663, 664] (by decide +kernel) (by decide +kernel))) (goodIn_r _ [665, 666, 667] (by decide +kernel) (by decide +kernel))) (goodIn_r _ [668, 669] (by decide +kernel) (by decide +kernel))) (goodIn_r _ [670, 671, 672] (by decide +kernel) (by decide +kernel))))
set_option maxRecDepth 20000 in
theorem gL_law_X6_init : GoodIn wsL_law (wsX6_init) := ggL_law_X6_init
