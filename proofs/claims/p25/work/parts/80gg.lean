/-! the law: its callees' words among its own, part g. Packed by wip/gen25/p25names.py -/
set_option maxRecDepth 20000 in
theorem ggL_law_X6_print : GoodIn wsL_law wsX6_print := goodIn_r _ [142, 19, 143, 144, 145, 18, 146, 147, 65, 64, 148, 149, 150, 151, 152, 60, 153, 154, 155, 156, 157, 158, 159, 160, 57, 161, 162, 163, 164, 165, 166, 167, 62, 168, 75, 73, 169, 170, 171, 172, 173, 174, 175, 176, 74, 624, 625, 626, 627, 628, 629, 630, 631, 635, 636, 637, 638, 639, 640, 641, 642, 643, 644, 645, 646, 647, 665, 666, 667] (by decide +kernel) (by decide +kernel)
set_option maxRecDepth 20000 in
theorem gL_law_X6_print : GoodIn wsL_law (wsV RL 92 RX6 yX6_print wsX6_print) := goodIn_app (goodIn_of _ (by decide +kernel)) ggL_law_X6_print
set_option maxRecDepth 20000 in
theorem ggL_law_X6_conflicts : GoodIn wsL_law wsX6_conflicts := goodIn_r _ [180, 19, 181, 182, 183, 18, 184, 52, 185, 186, 187, 188, 14, 189, 86, 190, 191, 192, 193, 194, 195, 196, 197, 198, 199, 200, 201, 202, 203, 204, 205, 36, 206, 207, 208, 209, 210, 211, 212, 213, 23, 214, 100, 102, 103, 215, 216, 217, 218, 219, 220, 221, 222, 54, 223, 224, 225, 226, 53, 624, 625, 626, 627, 628, 629, 630, 631, 635, 636, 637, 638, 639, 640, 641, 642, 643, 644, 645, 646, 647, 632, 633, 634, 648, 649, 650, 651, 652, 653, 654, 655, 656, 657, 658, 659, 660] (by decide +kernel) (by decide +kernel)
set_option maxRecDepth 20000 in
theorem gL_law_X6_conflicts : GoodIn wsL_law (wsV RL 98 RX6 yX6_conflicts wsX6_conflicts) := goodIn_app (goodIn_of _ (by decide +kernel)) ggL_law_X6_conflicts
set_option maxRecDepth 100000 in
theorem gkL_law_L_does_r1 : GoodIn wsL_law wsL_does_r1 := goodIn_r _ [272, 273, 274, 275, 276, 277, 2, 278, 279, 280, 281, 282, 28, 283, 284, 285, 286, 29, 30, 287, 288, 289, 290, 27] (by decide +kernel) (by decide +kernel) -- ggL
set_option maxRecDepth 100000 in
theorem gkL_law_L_does_r2 : GoodIn wsL_law wsL_does_r2 := goodIn_r _ [291, 292, 293, 294, 295, 296, 108, 297, 122, 121, 298, 299, 300, 301, 31, 302, 303, 19, 15, 304, 305, 306, 307, 250] (by decide +kernel) (by decide +kernel) -- ggL
set_option maxRecDepth 100000 in
theorem gkL_law_L_does_r3 : GoodIn wsL_law wsL_does_r3 := goodIn_r _ [251, 252, 253, 235, 236, 308, 309, 310, 311, 312, 313, 314, 238, 187, 188, 14, 189, 86, 315, 316, 317, 318, 319, 320] (by decide +kernel) (by decide +kernel) -- ggL
set_option maxRecDepth 100000 in
theorem gkL_law_L_does_r4 : GoodIn wsL_law wsL_does_r4 := goodIn_r _ [321, 322, 323, 324, 325, 326, 21, 22, 23, 327, 328, 329, 330, 331, 84, 85, 36, 332, 333, 334, 335, 336, 337, 338] (by decide +kernel) (by decide +kernel) -- ggL
set_option maxRecDepth 100000 in
theorem gkL_law_L_does_r5 : GoodIn wsL_law wsL_does_r5 := goodIn_r _ [339, 340, 341, 342, 343, 35, 344, 345, 346, 347, 348, 349, 350, 351, 352, 353, 354, 355, 356, 357, 358, 359, 360, 361] (by decide +kernel) (by decide +kernel) -- ggL
set_option maxRecDepth 100000 in
theorem gkL_law_L_does_r6 : GoodIn wsL_law wsL_does_r6 := goodIn_r _ [362, 363, 364, 365, 366, 367, 368, 369, 370, 371, 372, 373, 374, 375, 376, 377, 95, 96, 97, 98, 10, 11, 99, 100] (by decide +kernel) (by decide +kernel) -- ggL
set_option maxRecDepth 100000 in
theorem gkL_law_L_does_r7 : GoodIn wsL_law wsL_does_r7 := goodIn_r _ [101, 102, 103, 104, 105, 106, 107, 109, 110, 111, 112, 113, 114, 115, 116, 117, 118, 119, 120, 3, 123, 124, 125, 126] (by decide +kernel) (by decide +kernel) -- ggL
set_option maxRecDepth 100000 in
theorem gkL_law_L_does_r8 : GoodIn wsL_law wsL_does_r8 := goodIn_r _ [127, 128, 378, 379, 380, 18, 381, 185, 53, 52, 210, 54, 76, 77, 78, 79, 65, 56, 57, 58, 80, 81, 82, 83] (by decide +kernel) (by decide +kernel) -- ggL
set_option maxRecDepth 100000 in
theorem gkL_law_L_does_r9 : GoodIn wsL_law wsL_does_r9 := goodIn_r _ [186, 190, 191, 192, 193, 194, 195, 196, 197, 198, 199, 200, 201, 202, 203, 204, 205, 382, 383, 384, 385, 386, 67, 387] (by decide +kernel) (by decide +kernel) -- ggL
set_option maxRecDepth 100000 in
theorem gkL_law_L_does_r10 : GoodIn wsL_law wsL_does_r10 := goodIn_r _ [388, 389, 390, 391, 392, 393, 394, 395, 396, 397, 398, 399, 223, 224, 225, 226, 400, 401, 402, 403, 66, 68, 404, 405] (by decide +kernel) (by decide +kernel) -- ggL
set_option maxRecDepth 100000 in
theorem gkL_law_L_does_r11 : GoodIn wsL_law wsL_does_r11 := goodIn_r _ [406, 407, 408, 26, 409, 93, 410, 411, 412, 413, 94, 414, 415, 416, 417, 418, 419, 420, 421, 422, 423, 424, 425, 426] (by decide +kernel) (by decide +kernel) -- ggL
set_option maxRecDepth 100000 in
theorem gkL_law_L_does_r12 : GoodIn wsL_law wsL_does_r12 := goodIn_r _ [427, 428, 429, 430, 431, 432, 433, 434, 435, 436, 437, 60, 438, 439, 440, 441, 442, 443, 444, 445, 446, 447, 153, 154] (by decide +kernel) (by decide +kernel) -- ggL
set_option maxRecDepth 100000 in
theorem gkL_law_L_does_r13 : GoodIn wsL_law wsL_does_r13 := goodIn_r _ [155, 156, 157, 158, 159, 160, 448, 449, 450, 451, 452, 453, 454, 455, 456, 457, 458, 459, 460, 62, 461, 75, 462, 463] (by decide +kernel) (by decide +kernel) -- ggL
set_option maxRecDepth 100000 in
theorem gkL_law_L_does_r14 : GoodIn wsL_law wsL_does_r14 := goodIn_r _ [464, 465, 466, 73, 467, 74, 468, 469, 470, 471, 472, 473, 474, 475, 476, 477, 478, 479, 480, 481, 482, 483, 484, 485] (by decide +kernel) (by decide +kernel) -- ggL
set_option maxRecDepth 100000 in
theorem gkL_law_L_does_r15 : GoodIn wsL_law wsL_does_r15 := goodIn_r _ [486, 487, 488, 489, 490, 491, 492, 493, 261, 262, 263, 494, 495, 496, 497, 498, 499, 500, 501, 502, 503, 504, 505, 506] (by decide +kernel) (by decide +kernel) -- ggL
set_option maxRecDepth 100000 in
theorem gkL_law_L_does_r16 : GoodIn wsL_law wsL_does_r16 := goodIn_r _ [507, 508, 509, 510, 511, 512, 513, 64, 514, 515, 516, 517, 518, 519, 520, 521, 522, 523, 524, 231, 232, 233, 234, 237] (by decide +kernel) (by decide +kernel) -- ggL
set_option maxRecDepth 100000 in
theorem gkL_law_L_does_r17 : GoodIn wsL_law wsL_does_r17 := goodIn_r _ [239, 525, 526, 527, 528, 529, 530, 531, 532, 533, 534, 535, 536, 537, 538, 539, 540, 541, 542, 543, 544, 545, 546, 547] (by decide +kernel) (by decide +kernel) -- ggL
set_option maxRecDepth 100000 in
theorem gkL_law_L_does_r18 : GoodIn wsL_law wsL_does_r18 := goodIn_r _ [548, 246, 247, 248, 249, 254, 255, 256, 257, 258, 259, 260, 264, 265, 266, 267, 268, 150, 151, 152, 549, 550, 551, 552] (by decide +kernel) (by decide +kernel) -- ggL
set_option maxRecDepth 100000 in
theorem gkL_law_L_does_r19 : GoodIn wsL_law wsL_does_r19 := goodIn_r _ [553, 554, 555, 556, 557, 162, 163, 164, 165, 166, 167, 168, 558, 559, 560, 561, 562, 563, 564, 565, 63, 566, 216, 217] (by decide +kernel) (by decide +kernel) -- ggL
set_option maxRecDepth 100000 in
theorem gkL_law_L_does_r20 : GoodIn wsL_law wsL_does_r20 := goodIn_r _ [218, 219, 220, 221, 222, 567, 568, 569, 570, 571, 170, 171, 172, 173, 174, 175, 176, 572, 573, 574, 575, 20, 245, 227] (by decide +kernel) (by decide +kernel) -- ggL
set_option maxRecDepth 100000 in
theorem gkL_law_L_does_r21 : GoodIn wsL_law wsL_does_r21 := goodIn_r _ [228, 229, 230, 240, 241, 242, 243, 244] (by decide +kernel) (by decide +kernel) -- ggL
set_option maxRecDepth 20000 in
theorem ggL_law_L_does : GoodIn wsL_law wsL_does := goodIn_ca (goodIn_ca (goodIn_ca ((goodIn_cc (goodIn_r _ [271] (by decide +kernel) (by decide +kernel)) (goodIn_app (goodIn_app (goodIn_app (goodIn_app (goodIn_app (goodIn_app (goodIn_app (goodIn_app (goodIn_app gkL_law_L_does_r1 (goodIn_app gkL_law_L_does_r2 (goodIn_app gkL_law_L_does_r3 (goodIn_app gkL_law_L_does_r4 (goodIn_app gkL_law_L_does_r5 (goodIn_app gkL_law_L_does_r6 (goodIn_app gkL_law_L_does_r7 (goodIn_app gkL_law_L_does_r8 (goodIn_app gkL_law_L_does_r9 (goodIn_app gkL_law_L_does_r10 (goodIn_app gkL_law_L_does_r11 (goodIn_app gkL_law_L_does_r12 (goodIn_app gkL_law_L_does_r13 (goodIn_app gkL_law_L_does_r14 (goodIn_app gkL_law_L_does_r15 (goodIn_app gkL_law_L_does_r16 (goodIn_app gkL_law_L_does_r17 (goodIn_app gkL_law_L_does_r18 (goodIn_app gkL_law_L_does_r19 (goodIn_app gkL_law_L_does_r20 gkL_law_L_does_r21)))))))))))))))))))) (goodIn_r _ [624, 625, 626, 627, 628, 629, 630, 631] (by decide +kernel) (by decide +kernel))) (goodIn_r _ [648, 649, 650, 651, 652, 653, 654, 655, 656, 657, 658, 659, 660] (by decide +kernel) (by decide +kernel))) (goodIn_r _ [668, 669] (by decide +kernel) (by decide +kernel))) (goodIn_r _ [632, 633, 634] (by decide +kernel) (by decide +kernel))) (goodIn_r _ [670, 671, 672] (by decide +kernel) (by decide +kernel))) (goodIn_r _ [635, 636, 637, 638, 639, 640, 641, 642, 643, 644, 645, 646, 647] (by decide +kernel) (by decide +kernel))) (goodIn_r _ [661, 662, 663, 664] (by decide +kernel) (by decide +kernel))) (goodIn_r _ [665, 666, 667] (by decide +kernel) (by decide +kernel))))) (goodIn_sub (fun _ h => List.mem_append_left _ (List.mem_append_right _ h)) (by decide +kernel))) (goodIn_sub (fun _ h => List.mem_append_right _ h) (by decide +kernel))) (goodIn_sub (fun _ h => List.mem_append_left _ (List.mem_append_left _ (List.mem_append_right _ h))) (by decide +kernel))
set_option maxRecDepth 20000 in
theorem gL_law_L_does : GoodIn wsL_law (va_wsS RL 109 yL_does wsL_does) := goodIn_app (goodIn_of _ (by decide +kernel)) ggL_law_L_does
set_option maxRecDepth 20000 in
theorem ggL_law_L_dice : GoodIn wsL_law wsL_dice := goodIn_r _ [609, 610, 611] (by decide +kernel) (by decide +kernel)
set_option maxRecDepth 20000 in
theorem gL_law_L_dice : GoodIn wsL_law (va_wsS RL 130 yL_dice wsL_dice) := goodIn_app (goodIn_of _ (by decide +kernel)) ggL_law_L_dice
