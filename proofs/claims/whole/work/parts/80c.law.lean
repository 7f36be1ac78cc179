/-! names of the law, part c. Packed by wip/gen/lawparts.py -/
set_option maxRecDepth 20000 in
theorem ggL_look_X6_look : GoodIn wsL_look wsX6_look := goodIn_ca (goodIn_r _ [6, 7, 8, 9, 10, 11, 12, 13, 5, 14, 15, 16, 17, 18, 19, 20, 21, 22, 23, 24, 25, 26, 27, 28, 29, 30, 31, 32, 33, 34, 35, 36, 37, 38, 39, 40, 41, 42, 43, 44, 45, 46, 47, 48, 49, 50, 51, 52, 53, 54, 55, 56, 57, 58, 59, 60, 61, 62, 63, 64, 65, 66, 67, 68, 69, 70, 71, 72, 73, 74, 75, 76, 77, 78, 79, 80, 81, 82, 83, 84, 85, 86, 87, 88, 89, 90, 91, 92, 93, 94, 95, 96, 97, 98, 99, 100, 101, 102, 103, 104, 105, 106, 107, 108, 109, 110, 111, 112, 113, 114, 115, 116, 117, 118, 119, 120, 121, 122, 123, 124, 125, 126, 127, 128, 129, 130, 131, 132, 133, 134, 135, 136, 137, 138, 139, 140, 141, 142, 143, 144, 145, 146, 147, 148, 149, 150, 151, 152, 153, 154, 155, 156, 157, 158, 159, 160, 161, 162, 163, 164, 165, 166, 167, 168, 169, 170, 171, 172, 173, 174, 175, 176, 177, 178, 179, 180, 181, 182, 183, 184, 185, 186, 187, 188, 189, 190, 191, 192, 193, 194, 195, 196, 197, 198, 199, 200, 201, 202, 203, 204, 205, 206, 207, 208, 209, 210, 211, 212, 213, 214, 215, 216, 217, 218, 219, 220, 221, 222, 223, 224, 225, 226, 227, 228, 229, 230, 231, 232, 233, 234, 235, 236, 237, 238, 239, 240, 241, 242, 243, 244, 245, 246, 247, 248, 249, 250, 251, 252, 253, 254, 255, 256, 257, 258, 259, 260, 261, 262, 263, 264, 265, 266, 267, 268, 269, 270, 271, 272, 273, 274, 275, 276, 277, 278, 279, 280, 281, 282, 283, 284, 285, 286, 287, 288, 289, 290, 291, 292, 293, 294, 295, 296, 297, 298, 299, 300, 301, 302, 303, 304, 305, 306, 307, 308, 309, 310, 311, 312, 313, 314, 315, 316, 317, 318, 319, 320, 321, 322, 323, 324, 325, 326, 327] (by decide +kernel) (by decide +kernel)) (goodIn_sub (fun _ h => List.mem_cons_of_mem _ (List.mem_append_right _ h)) (by decide +kernel))
set_option maxRecDepth 20000 in
theorem gL_look_X6_look : GoodIn wsL_look (wsV RL 50 RX6 yX6_look wsX6_look) := goodIn_app (goodIn_of _ (by decide +kernel)) ggL_look_X6_look
theorem dL_look_0 : decode cL_look 0 = .ok (.aload 4, 2) := by decide +kernel
theorem dL_look_2 : decode cL_look 2 = .ok (.iconst 0, 1) := by decide +kernel
theorem dL_look_3 : decode cL_look 3 = .ok (.aload_n 0, 1) := by decide +kernel
theorem dL_look_4 : decode cL_look 4 = .ok (.iload_n 1, 1) := by decide +kernel
theorem dL_look_5 : decode cL_look 5 = .ok (.iload_n 2, 1) := by decide +kernel
theorem dL_look_6 : decode cL_look 6 = .ok (.iload_n 3, 1) := by decide +kernel
theorem dL_look_7 : decode cL_look 7 = .ok (.invokevirtual 50, 3) := by decide +kernel
theorem dL_look_10 : decode cL_look 10 = .ok (.i2l, 1) := by decide +kernel
theorem dL_look_11 : decode cL_look 11 = .ok (.lastore, 1) := by decide +kernel
theorem dL_look_12 : decode cL_look 12 = .ok (.goto 7, 3) := by decide +kernel
theorem dL_look_15 : decode cL_look 15 = .ok (.astore 5, 2) := by decide +kernel
theorem dL_look_17 : decode cL_look 17 = .ok (.iconst 1, 1) := by decide +kernel
theorem dL_look_18 : decode cL_look 18 = .ok (.ireturn, 1) := by decide +kernel
theorem dL_look_19 : decode cL_look 19 = .ok (.iconst 0, 1) := by decide +kernel
theorem dL_look_20 : decode cL_look 20 = .ok (.ireturn, 1) := by decide +kernel
set_option maxRecDepth 20000 in
theorem ggL_provisionAt_X6_provisionAt : GoodIn wsL_provisionAt wsX6_provisionAt := goodIn_ca (goodIn_r _ [6, 7, 8, 9, 10, 11, 12, 13, 14, 15, 16, 17, 18, 19, 20, 21, 22, 23, 24, 25, 26, 27, 28, 29, 30, 31, 32, 33, 34, 35, 36, 37] (by decide +kernel) (by decide +kernel)) (goodIn_sub (fun _ h => List.mem_cons_of_mem _ (List.mem_append_right _ h)) (by decide +kernel))
set_option maxRecDepth 20000 in
theorem gL_provisionAt_X6_provisionAt : GoodIn wsL_provisionAt (wsV RL 53 RX6 yX6_provisionAt wsX6_provisionAt) := goodIn_app (goodIn_of _ (by decide +kernel)) ggL_provisionAt_X6_provisionAt
theorem dL_provisionAt_0 : decode cL_provisionAt 0 = .ok (.aload_n 2, 1) := by decide +kernel
theorem dL_provisionAt_1 : decode cL_provisionAt 1 = .ok (.iconst 0, 1) := by decide +kernel
theorem dL_provisionAt_2 : decode cL_provisionAt 2 = .ok (.aload_n 0, 1) := by decide +kernel
theorem dL_provisionAt_3 : decode cL_provisionAt 3 = .ok (.iload_n 1, 1) := by decide +kernel
theorem dL_provisionAt_4 : decode cL_provisionAt 4 = .ok (.invokevirtual 53, 3) := by decide +kernel
theorem dL_provisionAt_7 : decode cL_provisionAt 7 = .ok (.i2l, 1) := by decide +kernel
theorem dL_provisionAt_8 : decode cL_provisionAt 8 = .ok (.lastore, 1) := by decide +kernel
theorem dL_provisionAt_9 : decode cL_provisionAt 9 = .ok (.goto 6, 3) := by decide +kernel
theorem dL_provisionAt_12 : decode cL_provisionAt 12 = .ok (.astore_n 3, 1) := by decide +kernel
theorem dL_provisionAt_13 : decode cL_provisionAt 13 = .ok (.iconst 1, 1) := by decide +kernel
theorem dL_provisionAt_14 : decode cL_provisionAt 14 = .ok (.ireturn, 1) := by decide +kernel
theorem dL_provisionAt_15 : decode cL_provisionAt 15 = .ok (.iconst 0, 1) := by decide +kernel
theorem dL_provisionAt_16 : decode cL_provisionAt 16 = .ok (.ireturn, 1) := by decide +kernel
set_option maxRecDepth 20000 in
theorem ggL_label_X6_label : GoodIn wsL_label wsX6_label := goodIn_ca (goodIn_r _ [6, 7, 8, 9, 10, 5, 11, 12, 13, 14, 15, 16, 17, 18, 19, 20, 21, 22, 23, 24, 25, 26, 27, 28, 29, 30, 31, 32, 33, 34, 35, 36, 37, 38, 39, 40, 41] (by decide +kernel) (by decide +kernel)) (goodIn_sub (fun _ h => List.mem_cons_of_mem _ (List.mem_append_right _ h)) (by decide +kernel))
set_option maxRecDepth 20000 in
theorem gL_label_X6_label : GoodIn wsL_label (wsV RL 56 RX6 yX6_label wsX6_label) := goodIn_app (goodIn_of _ (by decide +kernel)) ggL_label_X6_label
theorem dL_label_0 : decode cL_label 0 = .ok (.aload_n 2, 1) := by decide +kernel
theorem dL_label_1 : decode cL_label 1 = .ok (.iconst 0, 1) := by decide +kernel
theorem dL_label_2 : decode cL_label 2 = .ok (.aload_n 0, 1) := by decide +kernel
theorem dL_label_3 : decode cL_label 3 = .ok (.iload_n 1, 1) := by decide +kernel
theorem dL_label_4 : decode cL_label 4 = .ok (.invokevirtual 56, 3) := by decide +kernel
theorem dL_label_7 : decode cL_label 7 = .ok (.i2l, 1) := by decide +kernel
theorem dL_label_8 : decode cL_label 8 = .ok (.lastore, 1) := by decide +kernel
theorem dL_label_9 : decode cL_label 9 = .ok (.goto 6, 3) := by decide +kernel
theorem dL_label_12 : decode cL_label 12 = .ok (.astore_n 3, 1) := by decide +kernel
theorem dL_label_13 : decode cL_label 13 = .ok (.iconst 1, 1) := by decide +kernel
theorem dL_label_14 : decode cL_label 14 = .ok (.ireturn, 1) := by decide +kernel
theorem dL_label_15 : decode cL_label 15 = .ok (.iconst 0, 1) := by decide +kernel
theorem dL_label_16 : decode cL_label 16 = .ok (.ireturn, 1) := by decide +kernel
set_option maxRecDepth 20000 in
theorem ggL_parent_X6_parent : GoodIn wsL_parent wsX6_parent := goodIn_ca (goodIn_r _ [6, 7, 8, 9, 10, 5, 11, 12, 13, 14, 15, 16, 17, 18, 19, 20, 21, 22, 23, 24, 25, 26, 27, 28, 29, 30, 31, 32, 33, 34, 35, 36, 37, 38, 39, 40, 41, 42, 43, 44, 45, 46, 47, 48, 49, 50] (by decide +kernel) (by decide +kernel)) (goodIn_sub (fun _ h => List.mem_cons_of_mem _ (List.mem_append_right _ h)) (by decide +kernel))
set_option maxRecDepth 20000 in
theorem gL_parent_X6_parent : GoodIn wsL_parent (wsV RL 59 RX6 yX6_parent wsX6_parent) := goodIn_app (goodIn_of _ (by decide +kernel)) ggL_parent_X6_parent
theorem dL_parent_0 : decode cL_parent 0 = .ok (.aload_n 2, 1) := by decide +kernel
theorem dL_parent_1 : decode cL_parent 1 = .ok (.iconst 0, 1) := by decide +kernel
theorem dL_parent_2 : decode cL_parent 2 = .ok (.aload_n 0, 1) := by decide +kernel
theorem dL_parent_3 : decode cL_parent 3 = .ok (.iload_n 1, 1) := by decide +kernel
theorem dL_parent_4 : decode cL_parent 4 = .ok (.invokevirtual 59, 3) := by decide +kernel
theorem dL_parent_7 : decode cL_parent 7 = .ok (.i2l, 1) := by decide +kernel
theorem dL_parent_8 : decode cL_parent 8 = .ok (.lastore, 1) := by decide +kernel
theorem dL_parent_9 : decode cL_parent 9 = .ok (.goto 6, 3) := by decide +kernel
theorem dL_parent_12 : decode cL_parent 12 = .ok (.astore_n 3, 1) := by decide +kernel
theorem dL_parent_13 : decode cL_parent 13 = .ok (.iconst 1, 1) := by decide +kernel
theorem dL_parent_14 : decode cL_parent 14 = .ok (.ireturn, 1) := by decide +kernel
theorem dL_parent_15 : decode cL_parent 15 = .ok (.iconst 0, 1) := by decide +kernel
theorem dL_parent_16 : decode cL_parent 16 = .ok (.ireturn, 1) := by decide +kernel
set_option maxRecDepth 20000 in
theorem ggL_words_X6_words : GoodIn wsL_words wsX6_words := goodIn_ca (goodIn_r _ [6, 7, 8, 9, 10, 5, 11, 12, 13, 14, 15, 16, 17, 18, 19, 20, 21, 22, 23, 24, 25, 26, 27, 28, 29, 30, 31, 32, 33, 34, 35, 36, 37, 38, 39, 40, 41, 42, 43, 44, 45, 46, 47, 48, 49, 50, 51, 52, 53] (by decide +kernel) (by decide +kernel)) (goodIn_sub (fun _ h => List.mem_cons_of_mem _ (List.mem_append_right _ h)) (by decide +kernel))
set_option maxRecDepth 20000 in
theorem gL_words_X6_words : GoodIn wsL_words (wsV RL 62 RX6 yX6_words wsX6_words) := goodIn_app (goodIn_of _ (by decide +kernel)) ggL_words_X6_words
theorem dL_words_0 : decode cL_words 0 = .ok (.aload_n 2, 1) := by decide +kernel
theorem dL_words_1 : decode cL_words 1 = .ok (.iconst 0, 1) := by decide +kernel
theorem dL_words_2 : decode cL_words 2 = .ok (.aload_n 0, 1) := by decide +kernel
theorem dL_words_3 : decode cL_words 3 = .ok (.iload_n 1, 1) := by decide +kernel
theorem dL_words_4 : decode cL_words 4 = .ok (.invokevirtual 62, 3) := by decide +kernel
theorem dL_words_7 : decode cL_words 7 = .ok (.i2l, 1) := by decide +kernel
theorem dL_words_8 : decode cL_words 8 = .ok (.lastore, 1) := by decide +kernel
theorem dL_words_9 : decode cL_words 9 = .ok (.goto 6, 3) := by decide +kernel
theorem dL_words_12 : decode cL_words 12 = .ok (.astore_n 3, 1) := by decide +kernel
theorem dL_words_13 : decode cL_words 13 = .ok (.iconst 1, 1) := by decide +kernel
theorem dL_words_14 : decode cL_words 14 = .ok (.ireturn, 1) := by decide +kernel
theorem dL_words_15 : decode cL_words 15 = .ok (.iconst 0, 1) := by decide +kernel
theorem dL_words_16 : decode cL_words 16 = .ok (.ireturn, 1) := by decide +kernel
set_option maxRecDepth 20000 in
theorem ggL_wordAt_X6_wordAt : GoodIn wsL_wordAt wsX6_wordAt := goodIn_ca (goodIn_r _ [6, 7, 8, 9, 10, 5, 11, 12, 13, 14, 15, 16, 17, 18, 19, 20, 21, 22, 23, 24, 25, 26, 27, 28, 29, 30, 31, 32, 33, 34, 35, 36, 37, 38, 39, 40, 41, 42, 43, 44, 45, 46, 47, 48, 49, 50, 51, 52, 53, 54, 55, 56, 57, 58, 59, 60, 61, 62, 63, 64, 65, 66, 67, 68] (by decide +kernel) (by decide +kernel)) (goodIn_sub (fun _ h => List.mem_cons_of_mem _ (List.mem_append_right _ h)) (by decide +kernel))
set_option maxRecDepth 20000 in
theorem gL_wordAt_X6_wordAt : GoodIn wsL_wordAt (wsV RL 65 RX6 yX6_wordAt wsX6_wordAt) := goodIn_app (goodIn_of _ (by decide +kernel)) ggL_wordAt_X6_wordAt
theorem dL_wordAt_0 : decode cL_wordAt 0 = .ok (.aload_n 3, 1) := by decide +kernel
theorem dL_wordAt_1 : decode cL_wordAt 1 = .ok (.iconst 0, 1) := by decide +kernel
theorem dL_wordAt_2 : decode cL_wordAt 2 = .ok (.aload_n 0, 1) := by decide +kernel
theorem dL_wordAt_3 : decode cL_wordAt 3 = .ok (.iload_n 1, 1) := by decide +kernel
theorem dL_wordAt_4 : decode cL_wordAt 4 = .ok (.iload_n 2, 1) := by decide +kernel
theorem dL_wordAt_5 : decode cL_wordAt 5 = .ok (.invokevirtual 65, 3) := by decide +kernel
theorem dL_wordAt_8 : decode cL_wordAt 8 = .ok (.i2l, 1) := by decide +kernel
theorem dL_wordAt_9 : decode cL_wordAt 9 = .ok (.lastore, 1) := by decide +kernel
theorem dL_wordAt_10 : decode cL_wordAt 10 = .ok (.goto 7, 3) := by decide +kernel
theorem dL_wordAt_13 : decode cL_wordAt 13 = .ok (.astore 4, 2) := by decide +kernel
theorem dL_wordAt_15 : decode cL_wordAt 15 = .ok (.iconst 1, 1) := by decide +kernel
theorem dL_wordAt_16 : decode cL_wordAt 16 = .ok (.ireturn, 1) := by decide +kernel
theorem dL_wordAt_17 : decode cL_wordAt 17 = .ok (.iconst 0, 1) := by decide +kernel
theorem dL_wordAt_18 : decode cL_wordAt 18 = .ok (.ireturn, 1) := by decide +kernel
set_option maxRecDepth 20000 in
theorem ggL_wordAnew_X6_wordAnew : GoodIn wsL_wordAnew wsX6_wordAnew := goodIn_ca (goodIn_r _ [6, 7, 8, 9, 10, 11, 12, 5, 13, 14, 15, 16, 17, 18, 19, 20, 21, 22, 23, 24, 25, 26, 27, 28, 29, 30, 31, 32, 33, 34, 35, 36, 37, 38, 39, 40, 41, 42, 43, 44, 45, 46, 47, 48, 49, 50, 51, 52, 53, 54, 55, 56, 57, 58, 59, 60, 61, 62, 63, 64, 65, 66, 67, 68, 69, 70, 71, 72, 73, 74, 75, 76, 77, 78, 79, 80, 81, 82, 83, 84, 85, 86, 87, 88, 89, 90, 91, 92, 93, 94, 95, 96, 97, 98, 99, 100, 101, 102, 103, 104, 105, 106, 107, 108, 109, 110, 111, 112, 113, 114, 115, 116, 117, 118, 119, 120, 121, 122, 123, 124, 125, 126, 127, 128, 129, 130, 131, 132, 133, 134, 135, 136, 137, 138, 139, 140, 141, 142, 143, 144, 145, 146, 147, 148, 149, 150, 151, 152, 153, 154, 155, 156, 157, 158, 159, 160, 161, 162, 163] (by decide +kernel) (by decide +kernel)) (goodIn_sub (fun _ h => List.mem_cons_of_mem _ (List.mem_append_right _ h)) (by decide +kernel))
set_option maxRecDepth 20000 in
theorem gL_wordAnew_X6_wordAnew : GoodIn wsL_wordAnew (wsV RL 69 RX6 yX6_wordAnew wsX6_wordAnew) := goodIn_app (goodIn_of _ (by decide +kernel)) ggL_wordAnew_X6_wordAnew
theorem dL_wordAnew_0 : decode cL_wordAnew 0 = .ok (.aload_n 3, 1) := by decide +kernel

theorem dL_wordAnew_1 : decode cL_wordAnew 1 = .ok (.iconst 0, 1) := by decide +kernel
theorem dL_wordAnew_2 : decode cL_wordAnew 2 = .ok (.aload_n 0, 1) := by decide +kernel
theorem dL_wordAnew_3 : decode cL_wordAnew 3 = .ok (.iload_n 1, 1) := by decide +kernel
theorem dL_wordAnew_4 : decode cL_wordAnew 4 = .ok (.iload_n 2, 1) := by decide +kernel
theorem dL_wordAnew_5 : decode cL_wordAnew 5 = .ok (.invokevirtual 69, 3) := by decide +kernel
theorem dL_wordAnew_8 : decode cL_wordAnew 8 = .ok (.i2l, 1) := by decide +kernel
theorem dL_wordAnew_9 : decode cL_wordAnew 9 = .ok (.lastore, 1) := by decide +kernel
theorem dL_wordAnew_10 : decode cL_wordAnew 10 = .ok (.goto 7, 3) := by decide +kernel
theorem dL_wordAnew_13 : decode cL_wordAnew 13 = .ok (.astore 4, 2) := by decide +kernel
theorem dL_wordAnew_15 : decode cL_wordAnew 15 = .ok (.iconst 1, 1) := by decide +kernel
theorem dL_wordAnew_16 : decode cL_wordAnew 16 = .ok (.ireturn, 1) := by decide +kernel
theorem dL_wordAnew_17 : decode cL_wordAnew 17 = .ok (.iconst 0, 1) := by decide +kernel
theorem dL_wordAnew_18 : decode cL_wordAnew 18 = .ok (.ireturn, 1) := by decide +kernel
set_option maxRecDepth 20000 in
theorem ggL_origin_X6_origin : GoodIn wsL_origin wsX6_origin := goodIn_ca (goodIn_r _ [6, 7, 8, 9, 10, 5, 11, 12, 13, 14, 15, 16, 17, 18, 19, 20, 21, 22, 23, 24, 25, 26, 27, 28, 29, 30, 31, 32, 33, 34, 35, 36, 37, 38, 39, 40, 41, 42, 43, 44, 45, 46, 47, 48, 49, 50, 51, 52, 53, 54, 55, 56, 57, 58, 59, 60, 61, 62, 63, 64, 65, 66, 67, 68] (by decide +kernel) (by decide +kernel)) (goodIn_sub (fun _ h => List.mem_cons_of_mem _ (List.mem_append_right _ h)) (by decide +kernel))
set_option maxRecDepth 20000 in
theorem gL_origin_X6_origin : GoodIn wsL_origin (wsV RL 72 RX6 yX6_origin wsX6_origin) := goodIn_app (goodIn_of _ (by decide +kernel)) ggL_origin_X6_origin
theorem dL_origin_0 : decode cL_origin 0 = .ok (.aload_n 3, 1) := by decide +kernel
theorem dL_origin_1 : decode cL_origin 1 = .ok (.iconst 0, 1) := by decide +kernel
theorem dL_origin_2 : decode cL_origin 2 = .ok (.aload_n 0, 1) := by decide +kernel
theorem dL_origin_3 : decode cL_origin 3 = .ok (.iload_n 1, 1) := by decide +kernel
theorem dL_origin_4 : decode cL_origin 4 = .ok (.iload_n 2, 1) := by decide +kernel
theorem dL_origin_5 : decode cL_origin 5 = .ok (.invokevirtual 72, 3) := by decide +kernel
theorem dL_origin_8 : decode cL_origin 8 = .ok (.i2l, 1) := by decide +kernel
theorem dL_origin_9 : decode cL_origin 9 = .ok (.lastore, 1) := by decide +kernel
theorem dL_origin_10 : decode cL_origin 10 = .ok (.goto 7, 3) := by decide +kernel
theorem dL_origin_13 : decode cL_origin 13 = .ok (.astore 4, 2) := by decide +kernel
theorem dL_origin_15 : decode cL_origin 15 = .ok (.iconst 1, 1) := by decide +kernel
theorem dL_origin_16 : decode cL_origin 16 = .ok (.ireturn, 1) := by decide +kernel
theorem dL_origin_17 : decode cL_origin 17 = .ok (.iconst 0, 1) := by decide +kernel
theorem dL_origin_18 : decode cL_origin 18 = .ok (.ireturn, 1) := by decide +kernel
