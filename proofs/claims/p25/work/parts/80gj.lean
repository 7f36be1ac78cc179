/-! the law: its callees' words among its own, part j. Packed by wip/gen25/p25names.py -/
set_option maxRecDepth 100000 in
theorem gkL_law_L_all_r1 : GoodIn wsL_law wsL_all_r1 := goodIn_r _ [136, 137, 138, 139, 140, 141, 2, 142, 19, 143, 144, 145, 18, 146, 147, 65, 64, 148, 149, 150, 151, 152, 60, 153] (by decide +kernel) (by decide +kernel) -- ggL
set_option maxRecDepth 100000 in
theorem gkL_law_L_all_r2 : GoodIn wsL_law wsL_all_r2 := goodIn_r _ [154, 155, 156, 157, 158, 159, 160, 57, 161, 162, 163, 164, 165, 166, 167, 62, 168, 75, 73, 169, 170, 171, 172, 173] (by decide +kernel) (by decide +kernel) -- ggL
set_option maxRecDepth 100000 in
theorem gkL_law_L_all_r3 : GoodIn wsL_law wsL_all_r3 := goodIn_r _ [174, 175, 176, 74, 177, 178, 179, 180, 181, 182, 183, 184, 52, 185, 186, 187, 188, 14, 189, 86, 190, 191, 192, 193] (by decide +kernel) (by decide +kernel) -- ggL
set_option maxRecDepth 100000 in
theorem gkL_law_L_all_r4 : GoodIn wsL_law wsL_all_r4 := goodIn_r _ [194, 195, 196, 197, 198, 199, 200, 201, 202, 203, 204, 205, 36, 206, 207, 208, 209, 210, 211, 212, 213, 23, 214, 100] (by decide +kernel) (by decide +kernel) -- ggL
set_option maxRecDepth 100000 in
theorem gkL_law_L_all_r5 : GoodIn wsL_law wsL_all_r5 := goodIn_r _ [102, 103, 215, 216, 217, 218, 219, 220, 221, 222, 54, 223, 224, 225, 226, 53, 227, 228, 229, 230, 231, 232, 233, 234] (by decide +kernel) (by decide +kernel) -- ggL
set_option maxRecDepth 100000 in
theorem gkL_law_L_all_r6 : GoodIn wsL_law wsL_all_r6 := goodIn_r _ [235, 236, 15, 237, 238, 239, 240, 241, 242, 243, 244, 245, 246, 247, 248, 249, 250, 251, 252, 253, 31, 254, 255, 256] (by decide +kernel) (by decide +kernel) -- ggL
set_option maxRecDepth 100000 in
theorem gkL_law_L_all_r7 : GoodIn wsL_law wsL_all_r7 := goodIn_r _ [257, 258, 259, 260, 261, 262, 263, 58, 264, 265, 266, 267, 268] (by decide +kernel) (by decide +kernel) -- ggL
set_option maxRecDepth 20000 in
theorem ggL_law_L_all : GoodIn wsL_law wsL_all := goodIn_ca ((goodIn_cc (goodIn_r _ [135] (by decide +kernel) (by decide +kernel)) (goodIn_app (goodIn_app (goodIn_app (goodIn_app (goodIn_app (goodIn_app gkL_law_L_all_r1 (goodIn_app gkL_law_L_all_r2 (goodIn_app gkL_law_L_all_r3 (goodIn_app gkL_law_L_all_r4 (goodIn_app gkL_law_L_all_r5 (goodIn_app gkL_law_L_all_r6 gkL_law_L_all_r7)))))) (goodIn_r _ [624, 625, 626, 627, 628, 629, 630, 631] (by decide +kernel) (by decide +kernel))) (goodIn_r _ [635, 636, 637, 638, 639, 640, 641, 642, 643, 644, 645, 646, 647] (by decide +kernel) (by decide +kernel))) (goodIn_r _ [665, 666, 667] (by decide +kernel) (by decide +kernel))) (goodIn_r _ [632, 633, 634] (by decide +kernel) (by decide +kernel))) (goodIn_r _ [648, 649, 650, 651, 652, 653, 654, 655, 656, 657, 658, 659, 660] (by decide +kernel) (by decide +kernel))))) (goodIn_sub (fun _ h => List.mem_append_left _ (List.mem_append_left _ (List.mem_append_right _ h))) (by decide +kernel))
set_option maxRecDepth 20000 in
theorem gL_law_L_all : GoodIn wsL_law (va_wsS RL 105 yL_all wsL_all) := goodIn_app (goodIn_of _ (by decide +kernel)) ggL_law_L_all
