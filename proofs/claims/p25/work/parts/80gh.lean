/-! the law: its callees' words among its own, part h. Packed by wip/gen25/p25names.py -/
set_option maxRecDepth 100000 in
theorem gkL_law_L_silent_r1 : GoodIn wsL_law wsL_silent_r1 := goodIn_r _ [272, 273, 274, 579, 580, 131, 581, 582, 583, 584, 2, 585, 279, 280, 27, 24, 25, 26, 327, 231, 232, 233, 234, 235] (by decide +kernel) (by decide +kernel) -- ggL
set_option maxRecDepth 100000 in
theorem gkL_law_L_silent_r2 : GoodIn wsL_law wsL_silent_r2 := goodIn_r _ [236, 15, 237, 238, 187, 188, 14, 189, 86, 239, 191, 192, 193, 194, 195, 196, 197, 198, 199, 200, 201, 202, 203, 204] (by decide +kernel) (by decide +kernel) -- ggL
set_option maxRecDepth 100000 in
theorem gkL_law_L_silent_r3 : GoodIn wsL_law wsL_silent_r3 := goodIn_r _ [205, 36, 534, 535, 536, 87, 88, 89, 90, 10, 11, 91, 92, 93, 94, 586, 587, 588, 589, 281, 282, 590, 591, 28] (by decide +kernel) (by decide +kernel) -- ggL
set_option maxRecDepth 100000 in
theorem gkL_law_L_silent_r4 : GoodIn wsL_law wsL_silent_r4 := goodIn_r _ [19, 592, 397, 398, 113, 399, 126, 593, 594, 595, 596, 127, 128, 378, 379, 380, 18, 381, 185, 53, 52, 210, 54, 76] (by decide +kernel) (by decide +kernel) -- ggL
set_option maxRecDepth 100000 in
theorem gkL_law_L_silent_r5 : GoodIn wsL_law wsL_silent_r5 := goodIn_r _ [77, 78, 79, 65, 56, 57, 58, 80, 81, 82, 83, 84, 85, 186, 190, 382, 383, 384, 385, 386, 67, 387, 388, 389] (by decide +kernel) (by decide +kernel) -- ggL
set_option maxRecDepth 100000 in
theorem gkL_law_L_silent_r6 : GoodIn wsL_law wsL_silent_r6 := goodIn_r _ [390, 391, 392, 393, 394, 395, 396, 223, 224, 225, 226, 400, 401, 402, 403, 66, 68, 404, 405, 406, 407, 408, 409, 410] (by decide +kernel) (by decide +kernel) -- ggL
set_option maxRecDepth 100000 in
theorem gkL_law_L_silent_r7 : GoodIn wsL_law wsL_silent_r7 := goodIn_r _ [411, 412, 413, 414, 415, 416, 417, 418, 419, 420, 421, 422, 423, 424, 425, 426, 427, 375, 376, 377, 428, 429, 430, 431] (by decide +kernel) (by decide +kernel) -- ggL
set_option maxRecDepth 100000 in
theorem gkL_law_L_silent_r8 : GoodIn wsL_law wsL_silent_r8 := goodIn_r _ [336, 337, 338, 339, 340, 341, 342, 343, 35, 344, 345, 346, 347, 348, 349, 350, 351, 352, 353, 354, 355, 356, 357, 358] (by decide +kernel) (by decide +kernel) -- ggL
set_option maxRecDepth 100000 in
theorem gkL_law_L_silent_r9 : GoodIn wsL_law wsL_silent_r9 := goodIn_r _ [359, 360, 361, 362, 363, 364, 365, 366, 367, 368, 369, 370, 371, 372, 373, 374, 432, 433, 434, 435, 436, 437, 60, 438] (by decide +kernel) (by decide +kernel) -- ggL
set_option maxRecDepth 100000 in
theorem gkL_law_L_silent_r10 : GoodIn wsL_law wsL_silent_r10 := goodIn_r _ [439, 440, 441, 442, 443, 444, 445, 446, 447, 153, 154, 155, 156, 157, 158, 159, 160, 448, 449, 450, 451, 452, 453, 454] (by decide +kernel) (by decide +kernel) -- ggL
set_option maxRecDepth 100000 in
theorem gkL_law_L_silent_r11 : GoodIn wsL_law wsL_silent_r11 := goodIn_r _ [455, 456, 457, 458, 459, 460, 62, 461, 75, 462, 463, 464, 465, 466, 73, 467, 74, 468, 469, 470, 471, 472, 473, 474] (by decide +kernel) (by decide +kernel) -- ggL
set_option maxRecDepth 100000 in
theorem gkL_law_L_silent_r12 : GoodIn wsL_law wsL_silent_r12 := goodIn_r _ [475, 476, 477, 478, 479, 480, 481, 482, 483, 484, 485, 486, 487, 488, 489, 490, 491, 492, 493, 261, 262, 263, 494, 495] (by decide +kernel) (by decide +kernel) -- ggL
set_option maxRecDepth 100000 in
theorem gkL_law_L_silent_r13 : GoodIn wsL_law wsL_silent_r13 := goodIn_r _ [496, 497, 498, 499, 500, 501, 502, 503, 504, 505, 506, 507, 508, 509, 510, 511, 512, 513, 64, 514, 515, 516, 517, 518] (by decide +kernel) (by decide +kernel) -- ggL
set_option maxRecDepth 100000 in
theorem gkL_law_L_silent_r14 : GoodIn wsL_law wsL_silent_r14 := goodIn_r _ [519, 520, 597, 598, 599, 600, 601, 602, 603, 604, 605, 606] (by decide +kernel) (by decide +kernel) -- ggL
set_option maxRecDepth 20000 in
theorem ggL_law_L_silent : GoodIn wsL_law wsL_silent := goodIn_ca (goodIn_ca (goodIn_ca ((goodIn_cc (goodIn_r _ [578] (by decide +kernel) (by decide +kernel)) (goodIn_app (goodIn_app (goodIn_app (goodIn_app (goodIn_app (goodIn_app (goodIn_app (goodIn_app (goodIn_app gkL_law_L_silent_r1 (goodIn_app gkL_law_L_silent_r2 (goodIn_app gkL_law_L_silent_r3 (goodIn_app gkL_law_L_silent_r4 (goodIn_app gkL_law_L_silent_r5 (goodIn_app gkL_law_L_silent_r6 (goodIn_app gkL_law_L_silent_r7 (goodIn_app gkL_law_L_silent_r8 (goodIn_app gkL_law_L_silent_r9 (goodIn_app gkL_law_L_silent_r10 (goodIn_app gkL_law_L_silent_r11 (goodIn_app gkL_law_L_silent_r12 (goodIn_app gkL_law_L_silent_r13 gkL_law_L_silent_r14))))))))))))) (goodIn_r _ [624, 625, 626, 627, 628, 629, 630, 631] (by decide +kernel) (by decide +kernel))) (goodIn_r _ [661, 662, 663, 664] (by decide +kernel) (by decide +kernel))) (goodIn_r _ [648, 649, 650, 651, 652, 653, 654, 655, 656, 657, 658, 659, 660] (by decide +kernel) (by decide +kernel))) (goodIn_r _ [632, 633, 634] (by decide +kernel) (by decide +kernel))) (goodIn_r _ [670, 671, 672] (by decide +kernel) (by decide +kernel))) (goodIn_r _ [635, 636, 637, 638, 639, 640, 641, 642, 643, 644, 645, 646, 647] (by decide +kernel) (by decide +kernel))) (goodIn_r _ [665, 666, 667] (by decide +kernel) (by decide +kernel))) (goodIn_r _ [668, 669] (by decide +kernel) (by decide +kernel))))) (goodIn_sub (fun _ h => List.mem_append_left _ (List.mem_append_right _ h)) (by decide +kernel))) (goodIn_sub (fun _ h => List.mem_append_left _ (List.mem_append_left _ (List.mem_append_right _ h))) (by decide +kernel))) (goodIn_sub (fun _ h => List.mem_append_right _ h) (by decide +kernel))
set_option maxRecDepth 20000 in
theorem gL_law_L_silent : GoodIn wsL_law (va_wsS RL 113 yL_silent wsL_silent) := goodIn_app (goodIn_of _ (by decide +kernel)) ggL_law_L_silent
