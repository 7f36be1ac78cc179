/-! the law: its callees' words among its own, part f. Packed by wip/gen25/p25names.py -/
set_option maxRecDepth 100000 in
theorem gkL_law_L_isRefused_r1 : GoodIn wsL_law wsL_isRefused_r1 := goodIn_r _ [133, 134, 131, 135, 136, 137, 138, 139, 140, 141, 2, 142, 19, 143, 144, 145, 18, 146, 147, 65, 64, 148, 149, 150] (by decide +kernel) (by decide +kernel) -- ggL
set_option maxRecDepth 100000 in
theorem gkL_law_L_isRefused_r2 : GoodIn wsL_law wsL_isRefused_r2 := goodIn_r _ [151, 152, 60, 153, 154, 155, 156, 157, 158, 159, 160, 57, 161, 162, 163, 164, 165, 166, 167, 62, 168, 75, 73, 169] (by decide +kernel) (by decide +kernel) -- ggL
set_option maxRecDepth 100000 in
theorem gkL_law_L_isRefused_r3 : GoodIn wsL_law wsL_isRefused_r3 := goodIn_r _ [170, 171, 172, 173, 174, 175, 176, 74, 177, 178, 179, 180, 181, 182, 183, 184, 52, 185, 186, 187, 188, 14, 189, 86] (by decide +kernel) (by decide +kernel) -- ggL
set_option maxRecDepth 100000 in
theorem gkL_law_L_isRefused_r4 : GoodIn wsL_law wsL_isRefused_r4 := goodIn_r _ [190, 191, 192, 193, 194, 195, 196, 197, 198, 199, 200, 201, 202, 203, 204, 205, 36, 206, 207, 208, 209, 210, 211, 212] (by decide +kernel) (by decide +kernel) -- ggL
set_option maxRecDepth 100000 in
theorem gkL_law_L_isRefused_r5 : GoodIn wsL_law wsL_isRefused_r5 := goodIn_r _ [213, 23, 214, 100, 102, 103, 215, 216, 217, 218, 219, 220, 221, 222, 54, 223, 224, 225, 226, 53, 227, 228, 229, 230] (by decide +kernel) (by decide +kernel) -- ggL
set_option maxRecDepth 100000 in
theorem gkL_law_L_isRefused_r6 : GoodIn wsL_law wsL_isRefused_r6 := goodIn_r _ [231, 232, 233, 234, 235, 236, 15, 237, 238, 239, 240, 241, 242, 243, 244, 245, 246, 247, 248, 249, 250, 251, 252, 253] (by decide +kernel) (by decide +kernel) -- ggL
set_option maxRecDepth 100000 in
theorem gkL_law_L_isRefused_r7 : GoodIn wsL_law wsL_isRefused_r7 := goodIn_r _ [31, 254, 255, 256, 257, 258, 259, 260, 261, 262, 263, 58, 264, 265, 266, 267, 268, 269, 270, 271, 272, 273, 274, 275] (by decide +kernel) (by decide +kernel) -- ggL
set_option maxRecDepth 100000 in
theorem gkL_law_L_isRefused_r8 : GoodIn wsL_law wsL_isRefused_r8 := goodIn_r _ [276, 277, 278, 279, 280, 281, 282, 28, 283, 284, 285, 286, 29, 30, 287, 288, 289, 290, 27, 291, 292, 293, 294, 295] (by decide +kernel) (by decide +kernel) -- ggL
set_option maxRecDepth 100000 in
theorem gkL_law_L_isRefused_r9 : GoodIn wsL_law wsL_isRefused_r9 := goodIn_r _ [296, 108, 297, 122, 121, 298, 299, 300, 301, 302, 303, 304, 305, 306, 307, 308, 309, 310, 311, 312, 313, 314, 315, 316] (by decide +kernel) (by decide +kernel) -- ggL
set_option maxRecDepth 100000 in
theorem gkL_law_L_isRefused_r10 : GoodIn wsL_law wsL_isRefused_r10 := goodIn_r _ [317, 318, 319, 320, 321, 322, 323, 324, 325, 326, 21, 22, 327, 328, 329, 330, 331, 84, 85, 332, 333, 334, 335, 336] (by decide +kernel) (by decide +kernel) -- ggL
set_option maxRecDepth 100000 in
theorem gkL_law_L_isRefused_r11 : GoodIn wsL_law wsL_isRefused_r11 := goodIn_r _ [337, 338, 339, 340, 341, 342, 343, 35, 344, 345, 346, 347, 348, 349, 350, 351, 352, 353, 354, 355, 356, 357, 358, 359] (by decide +kernel) (by decide +kernel) -- ggL
set_option maxRecDepth 100000 in
theorem gkL_law_L_isRefused_r12 : GoodIn wsL_law wsL_isRefused_r12 := goodIn_r _ [360, 361, 362, 363, 364, 365, 366, 367, 368, 369, 370, 371, 372, 373, 374, 375, 376, 377, 95, 96, 97, 98, 10, 11] (by decide +kernel) (by decide +kernel) -- ggL
set_option maxRecDepth 100000 in
theorem gkL_law_L_isRefused_r13 : GoodIn wsL_law wsL_isRefused_r13 := goodIn_r _ [99, 101, 104, 105, 106, 107, 109, 110, 111, 112, 113, 114, 115, 116, 117, 118, 119, 120, 3, 123, 124, 125, 126, 127] (by decide +kernel) (by decide +kernel) -- ggL
set_option maxRecDepth 100000 in
theorem gkL_law_L_isRefused_r14 : GoodIn wsL_law wsL_isRefused_r14 := goodIn_r _ [128, 378, 379, 380, 381, 76, 77, 78, 79, 56, 80, 81, 82, 83, 382, 383, 384, 385, 386, 67, 387, 388, 389, 390] (by decide +kernel) (by decide +kernel) -- ggL
set_option maxRecDepth 100000 in
theorem gkL_law_L_isRefused_r15 : GoodIn wsL_law wsL_isRefused_r15 := goodIn_r _ [391, 392, 393, 394, 395, 396, 397, 398, 399, 400, 401, 402, 403, 66, 68, 404, 405, 406, 407, 408, 26, 409, 93, 410] (by decide +kernel) (by decide +kernel) -- ggL
set_option maxRecDepth 100000 in
theorem gkL_law_L_isRefused_r16 : GoodIn wsL_law wsL_isRefused_r16 := goodIn_r _ [411, 412, 413, 94, 414, 415, 416, 417, 418, 419, 420, 421, 422, 423, 424, 425, 426, 427, 428, 429, 430, 431, 432, 433] (by decide +kernel) (by decide +kernel) -- ggL
set_option maxRecDepth 100000 in
theorem gkL_law_L_isRefused_r17 : GoodIn wsL_law wsL_isRefused_r17 := goodIn_r _ [434, 435, 436, 437, 438, 439, 440, 441, 442, 443, 444, 445, 446, 447, 448, 449, 450, 451, 452, 453, 454, 455, 456, 457] (by decide +kernel) (by decide +kernel) -- ggL
set_option maxRecDepth 100000 in
theorem gkL_law_L_isRefused_r18 : GoodIn wsL_law wsL_isRefused_r18 := goodIn_r _ [458, 459, 460, 461, 462, 463, 464, 465, 466, 467, 468, 469, 470, 471, 472, 473, 474, 475, 476, 477, 478, 479, 480, 481] (by decide +kernel) (by decide +kernel) -- ggL
set_option maxRecDepth 100000 in
theorem gkL_law_L_isRefused_r19 : GoodIn wsL_law wsL_isRefused_r19 := goodIn_r _ [482, 483, 484, 485, 486, 487, 488, 489, 490, 491, 492, 493, 494, 495, 496, 497, 498, 499, 500, 501, 502, 503, 504, 505] (by decide +kernel) (by decide +kernel) -- ggL
set_option maxRecDepth 100000 in
theorem gkL_law_L_isRefused_r20 : GoodIn wsL_law wsL_isRefused_r20 := goodIn_r _ [506, 507, 508, 509, 510, 511, 512, 513, 514, 515, 516, 517, 518, 519, 520, 521, 522, 523, 524, 525, 526, 527, 528, 529] (by decide +kernel) (by decide +kernel) -- ggL
set_option maxRecDepth 100000 in
theorem gkL_law_L_isRefused_r21 : GoodIn wsL_law wsL_isRefused_r21 := goodIn_r _ [530, 531, 532, 533, 534, 535, 536, 537, 538, 539, 540, 541, 542, 543, 544, 545, 546, 547, 548, 549, 550, 551, 552, 553] (by decide +kernel) (by decide +kernel) -- ggL
set_option maxRecDepth 100000 in
theorem gkL_law_L_isRefused_r22 : GoodIn wsL_law wsL_isRefused_r22 := goodIn_r _ [554, 555, 556, 557, 558, 559, 560, 561, 562, 563, 564, 565, 63, 566, 567, 568, 569, 570, 571, 572, 573, 574, 575, 20] (by decide +kernel) (by decide +kernel) -- ggL
set_option maxRecDepth 100000 in
theorem gkL_law_L_isRefused_r23 : GoodIn wsL_law wsL_isRefused_r23 := goodIn_r _ [576, 577, 578, 579, 580, 581, 582, 583, 584, 585, 24, 25, 87, 88, 89, 90, 91, 92, 586, 587, 588, 589, 590, 591] (by decide +kernel) (by decide +kernel) -- ggL
set_option maxRecDepth 100000 in
theorem gkL_law_L_isRefused_r24 : GoodIn wsL_law wsL_isRefused_r24 := goodIn_r _ [592, 593, 594, 595, 596, 597, 598, 599, 600, 601, 602, 603, 604, 605, 606] (by decide +kernel) (by decide +kernel) -- ggL
set_option maxRecDepth 20000 in
theorem ggL_law_L_isRefused : GoodIn wsL_law wsL_isRefused := goodIn_ca (goodIn_ca (goodIn_ca ((goodIn_cc (goodIn_one mmL_isRefused (by decide +kernel)) (goodIn_app (goodIn_app (goodIn_app (goodIn_app (goodIn_app (goodIn_app (goodIn_app (goodIn_app (goodIn_app gkL_law_L_isRefused_r1 (goodIn_app gkL_law_L_isRefused_r2 (goodIn_app gkL_law_L_isRefused_r3 (goodIn_app gkL_law_L_isRefused_r4 (goodIn_app gkL_law_L_isRefused_r5 (goodIn_app gkL_law_L_isRefused_r6 (goodIn_app gkL_law_L_isRefused_r7 (goodIn_app gkL_law_L_isRefused_r8 (goodIn_app gkL_law_L_isRefused_r9 (goodIn_app gkL_law_L_isRefused_r10 (goodIn_app gkL_law_L_isRefused_r11 (goodIn_app gkL_law_L_isRefused_r12 (goodIn_app gkL_law_L_isRefused_r13 (goodIn_app gkL_law_L_isRefused_r14 (goodIn_app gkL_law_L_isRefused_r15 (goodIn_app gkL_law_L_isRefused_r16 (goodIn_app gkL_law_L_isRefused_r17 (goodIn_app gkL_law_L_isRefused_r18 (goodIn_app gkL_law_L_isRefused_r19 (goodIn_app gkL_law_L_isRefused_r20 (goodIn_app gkL_law_L_isRefused_r21 (goodIn_app gkL_law_L_isRefused_r22 (goodIn_app gkL_law_L_isRefused_r23 gkL_law_L_isRefused_r24))))))))))))))))))))))) (goodIn_r _ [624, 625, 626, 627, 628, 629, 630, 631] (by decide +kernel) (by decide +kernel))) (goodIn_r _ [635, 636, 637, 638, 639, 640, 641, 642, 643, 644, 645, 646, 647] (by decide +kernel) (by decide +kernel))) (goodIn_r _ [665, 666, 667] (by decide +kernel) (by decide +kernel))) (goodIn_r _ [632, 633, 634] (by decide +kernel) (by decide +kernel))) (goodIn_r _ [648, 649, 650, 651, 652, 653, 654, 655, 656, 657, 658, 659, 660] (by decide +kernel) (by decide +kernel))) (goodIn_r _ [668, 669] (by decide +kernel) (by decide +kernel))) (goodIn_r _ [670, 671, 672] (by decide +kernel) (by decide +kernel))) (goodIn_r _ [661, 662, 663, 664] (by decide +kernel) (by decide +kernel))))) (goodIn_sub (fun _ h => List.mem_append_left _ (List.mem_append_left _ (List.mem_append_right _ h))) (by decide +kernel))) (goodIn_sub (fun _ h => List.mem_append_left _ (List.mem_append_right _ h)) (by decide +kernel))) (goodIn_sub (fun _ h => List.mem_append_right _ h) (by decide +kernel))
set_option maxRecDepth 20000 in
theorem gL_law_L_isRefused : GoodIn wsL_law (va_wsS RL 124 yL_isRefused wsL_isRefused) := goodIn_app (goodIn_of _ (by decide +kernel)) ggL_law_L_isRefused
