/-! the law: its callees' words among its own, part i. Packed by wip/gen25/p25names.py -/
set_option maxRecDepth 100000 in
theorem gkL_law_L_isLooked_r1 : GoodIn wsL_law wsL_isLooked_r1 := goodIn_r _ [269, 270, 131, 271, 272, 273, 274, 275, 276, 277, 2, 278, 279, 280, 281, 282, 28, 283, 284, 285, 286, 29, 30, 287] (by decide +kernel) (by decide +kernel) -- ggL
set_option maxRecDepth 100000 in
theorem gkL_law_L_isLooked_r2 : GoodIn wsL_law wsL_isLooked_r2 := goodIn_r _ [288, 289, 290, 27, 291, 292, 293, 294, 295, 296, 108, 297, 122, 121, 298, 299, 300, 301, 31, 302, 303, 19, 15, 304] (by decide +kernel) (by decide +kernel) -- ggL
set_option maxRecDepth 100000 in
theorem gkL_law_L_isLooked_r3 : GoodIn wsL_law wsL_isLooked_r3 := goodIn_r _ [305, 306, 307, 250, 251, 252, 253, 235, 236, 308, 309, 310, 311, 312, 313, 314, 238, 187, 188, 14, 189, 86, 315, 316] (by decide +kernel) (by decide +kernel) -- ggL
set_option maxRecDepth 100000 in
theorem gkL_law_L_isLooked_r4 : GoodIn wsL_law wsL_isLooked_r4 := goodIn_r _ [317, 318, 319, 320, 321, 322, 323, 324, 325, 326, 21, 22, 23, 327, 328, 329, 330, 331, 84, 85, 36, 332, 333, 334] (by decide +kernel) (by decide +kernel) -- ggL
set_option maxRecDepth 100000 in
theorem gkL_law_L_isLooked_r5 : GoodIn wsL_law wsL_isLooked_r5 := goodIn_r _ [335, 336, 337, 338, 339, 340, 341, 342, 343, 35, 344, 345, 346, 347, 348, 349, 350, 351, 352, 353, 354, 355, 356, 357] (by decide +kernel) (by decide +kernel) -- ggL
set_option maxRecDepth 100000 in
theorem gkL_law_L_isLooked_r6 : GoodIn wsL_law wsL_isLooked_r6 := goodIn_r _ [358, 359, 360, 361, 362, 363, 364, 365, 366, 367, 368, 369, 370, 371, 372, 373, 374, 375, 376, 377, 95, 96, 97, 98] (by decide +kernel) (by decide +kernel) -- ggL
set_option maxRecDepth 100000 in
theorem gkL_law_L_isLooked_r7 : GoodIn wsL_law wsL_isLooked_r7 := goodIn_r _ [10, 11, 99, 100, 101, 102, 103, 104, 105, 106, 107, 109, 110, 111, 112, 113, 114, 115, 116, 117, 118, 119, 120, 3] (by decide +kernel) (by decide +kernel) -- ggL
set_option maxRecDepth 100000 in
theorem gkL_law_L_isLooked_r8 : GoodIn wsL_law wsL_isLooked_r8 := goodIn_r _ [123, 124, 125, 126, 127, 128, 378, 379, 380, 18, 381, 185, 53, 52, 210, 54, 76, 77, 78, 79, 65, 56, 57, 58] (by decide +kernel) (by decide +kernel) -- ggL
set_option maxRecDepth 100000 in
theorem gkL_law_L_isLooked_r9 : GoodIn wsL_law wsL_isLooked_r9 := goodIn_r _ [80, 81, 82, 83, 186, 190, 191, 192, 193, 194, 195, 196, 197, 198, 199, 200, 201, 202, 203, 204, 205, 382, 383, 384] (by decide +kernel) (by decide +kernel) -- ggL
set_option maxRecDepth 100000 in
theorem gkL_law_L_isLooked_r10 : GoodIn wsL_law wsL_isLooked_r10 := goodIn_r _ [385, 386, 67, 387, 388, 389, 390, 391, 392, 393, 394, 395, 396, 397, 398, 399, 223, 224, 225, 226, 400, 401, 402, 403] (by decide +kernel) (by decide +kernel) -- ggL
set_option maxRecDepth 100000 in
theorem gkL_law_L_isLooked_r11 : GoodIn wsL_law wsL_isLooked_r11 := goodIn_r _ [66, 68, 404, 405, 406, 407, 408, 26, 409, 93, 410, 411, 412, 413, 94, 414, 415, 416, 417, 418, 419, 420, 421, 422] (by decide +kernel) (by decide +kernel) -- ggL
set_option maxRecDepth 100000 in
theorem gkL_law_L_isLooked_r12 : GoodIn wsL_law wsL_isLooked_r12 := goodIn_r _ [423, 424, 425, 426, 427, 428, 429, 430, 431, 432, 433, 434, 435, 436, 437, 60, 438, 439, 440, 441, 442, 443, 444, 445] (by decide +kernel) (by decide +kernel) -- ggL
set_option maxRecDepth 100000 in
theorem gkL_law_L_isLooked_r13 : GoodIn wsL_law wsL_isLooked_r13 := goodIn_r _ [446, 447, 153, 154, 155, 156, 157, 158, 159, 160, 448, 449, 450, 451, 452, 453, 454, 455, 456, 457, 458, 459, 460, 62] (by decide +kernel) (by decide +kernel) -- ggL
set_option maxRecDepth 100000 in
theorem gkL_law_L_isLooked_r14 : GoodIn wsL_law wsL_isLooked_r14 := goodIn_r _ [461, 75, 462, 463, 464, 465, 466, 73, 467, 74, 468, 469, 470, 471, 472, 473, 474, 475, 476, 477, 478, 479, 480, 481] (by decide +kernel) (by decide +kernel) -- ggL
set_option maxRecDepth 100000 in
theorem gkL_law_L_isLooked_r15 : GoodIn wsL_law wsL_isLooked_r15 := goodIn_r _ [482, 483, 484, 485, 486, 487, 488, 489, 490, 491, 492, 493, 261, 262, 263, 494, 495, 496, 497, 498, 499, 500, 501, 502] (by decide +kernel) (by decide +kernel) -- ggL
set_option maxRecDepth 100000 in
theorem gkL_law_L_isLooked_r16 : GoodIn wsL_law wsL_isLooked_r16 := goodIn_r _ [503, 504, 505, 506, 507, 508, 509, 510, 511, 512, 513, 64, 514, 515, 516, 517, 518, 519, 520, 521, 522, 523, 524, 231] (by decide +kernel) (by decide +kernel) -- ggL
set_option maxRecDepth 100000 in
theorem gkL_law_L_isLooked_r17 : GoodIn wsL_law wsL_isLooked_r17 := goodIn_r _ [232, 233, 234, 237, 239, 525, 526, 527, 528, 529, 530, 531, 532, 533, 534, 535, 536, 537, 538, 539, 540, 541, 542, 543] (by decide +kernel) (by decide +kernel) -- ggL
set_option maxRecDepth 100000 in
theorem gkL_law_L_isLooked_r18 : GoodIn wsL_law wsL_isLooked_r18 := goodIn_r _ [544, 545, 546, 547, 548, 246, 247, 248, 249, 254, 255, 256, 257, 258, 259, 260, 264, 265, 266, 267, 268, 150, 151, 152] (by decide +kernel) (by decide +kernel) -- ggL
set_option maxRecDepth 100000 in
theorem gkL_law_L_isLooked_r19 : GoodIn wsL_law wsL_isLooked_r19 := goodIn_r _ [549, 550, 551, 552, 553, 554, 555, 556, 557, 162, 163, 164, 165, 166, 167, 168, 558, 559, 560, 561, 562, 563, 564, 565] (by decide +kernel) (by decide +kernel) -- ggL
set_option maxRecDepth 100000 in
theorem gkL_law_L_isLooked_r20 : GoodIn wsL_law wsL_isLooked_r20 := goodIn_r _ [63, 566, 216, 217, 218, 219, 220, 221, 222, 567, 568, 569, 570, 571, 170, 171, 172, 173, 174, 175, 176, 572, 573, 574] (by decide +kernel) (by decide +kernel) -- ggL
set_option maxRecDepth 100000 in
theorem gkL_law_L_isLooked_r21 : GoodIn wsL_law wsL_isLooked_r21 := goodIn_r _ [575, 20, 245, 227, 228, 229, 230, 240, 241, 242, 243, 244] (by decide +kernel) (by decide +kernel) -- ggL
set_option maxRecDepth 20000 in
theorem ggL_law_L_isLooked : GoodIn wsL_law wsL_isLooked := goodIn_ca (goodIn_ca (goodIn_ca ((goodIn_cc (goodIn_r _ [614] (by decide +kernel) (by decide +kernel)) (goodIn_app (goodIn_app (goodIn_app (goodIn_app (goodIn_app (goodIn_app (goodIn_app (goodIn_app (goodIn_app gkL_law_L_isLooked_r1 (goodIn_app gkL_law_L_isLooked_r2 (goodIn_app gkL_law_L_isLooked_r3 (goodIn_app gkL_law_L_isLooked_r4 (goodIn_app gkL_law_L_isLooked_r5 (goodIn_app gkL_law_L_isLooked_r6 (goodIn_app gkL_law_L_isLooked_r7 (goodIn_app gkL_law_L_isLooked_r8 (goodIn_app gkL_law_L_isLooked_r9 (goodIn_app gkL_law_L_isLooked_r10 (goodIn_app gkL_law_L_isLooked_r11 (goodIn_app gkL_law_L_isLooked_r12 (goodIn_app gkL_law_L_isLooked_r13 (goodIn_app gkL_law_L_isLooked_r14 (goodIn_app gkL_law_L_isLooked_r15 (goodIn_app gkL_law_L_isLooked_r16 (goodIn_app gkL_law_L_isLooked_r17 (goodIn_app gkL_law_L_isLooked_r18 (goodIn_app gkL_law_L_isLooked_r19 (goodIn_app gkL_law_L_isLooked_r20 gkL_law_L_isLooked_r21)))))))))))))))))))) (goodIn_r _ [624, 625, 626, 627, 628, 629, 630, 631] (by decide +kernel) (by decide +kernel))) (goodIn_r _ [648, 649, 650, 651, 652, 653, 654, 655, 656, 657, 658, 659, 660] (by decide +kernel) (by decide +kernel))) (goodIn_r _ [668, 669] (by decide +kernel) (by decide +kernel))) (goodIn_r _ [632, 633, 634] (by decide +kernel) (by decide +kernel))) (goodIn_r _ [670, 671, 672] (by decide +kernel) (by decide +kernel))) (goodIn_r _ [635, 636, 637, 638, 639, 640, 641, 642, 643, 644, 645, 646, 647] (by decide +kernel) (by decide +kernel))) (goodIn_r _ [661, 662, 663, 664] (by decide +kernel) (by decide +kernel))) (goodIn_r _ [665, 666, 667] (by decide +kernel) (by decide +kernel))))) (goodIn_sub (fun _ h => List.mem_append_left _ (List.mem_append_right _ h)) (by decide +kernel))) (goodIn_sub (fun _ h => List.mem_append_right _ h) (by decide +kernel))) (goodIn_sub (fun _ h => List.mem_append_left _ (List.mem_append_left _ (List.mem_append_right _ h))) (by decide +kernel))
set_option maxRecDepth 20000 in
theorem gL_law_L_isLooked : GoodIn wsL_law (va_wsS RL 134 yL_isLooked wsL_isLooked) := goodIn_app (goodIn_of _ (by decide +kernel)) ggL_law_L_isLooked
