theorem dX7_hasPlace_1 : decode cX7_hasPlace 1 = .ok (.getfield 89, 3) := by decide +kernel
theorem dX7_hasPlace_4 : decode cX7_hasPlace 4 = .ok (.iload_n 1, 1) := by decide +kernel
theorem dX7_hasPlace_5 : decode cX7_hasPlace 5 = .ok (.baload, 1) := by decide +kernel
theorem dX7_hasPlace_6 : decode cX7_hasPlace 6 = .ok (.ifCond .eq 23, 3) := by decide +kernel
theorem dX7_hasPlace_9 : decode cX7_hasPlace 9 = .ok (.iload_n 2, 1) := by decide +kernel
theorem dX7_hasPlace_10 : decode cX7_hasPlace 10 = .ok (.iconst 0, 1) := by decide +kernel
theorem dX7_hasPlace_11 : decode cX7_hasPlace 11 = .ok (.aload_n 0, 1) := by decide +kernel
theorem dX7_hasPlace_12 : decode cX7_hasPlace 12 = .ok (.getfield 99, 3) := by decide +kernel
theorem dX7_hasPlace_15 : decode cX7_hasPlace 15 = .ok (.iload_n 1, 1) := by decide +kernel
theorem dX7_hasPlace_16 : decode cX7_hasPlace 16 = .ok (.iaload, 1) := by decide +kernel
theorem dX7_hasPlace_17 : decode cX7_hasPlace 17 = .ok (.iconst 1, 1) := by decide +kernel
theorem dX7_hasPlace_18 : decode cX7_hasPlace 18 = .ok (.isub, 1) := by decide +kernel
theorem dX7_hasPlace_19 : decode cX7_hasPlace 19 = .ok (.invokestatic 126, 3) := by decide +kernel
theorem dX7_hasPlace_22 : decode cX7_hasPlace 22 = .ok (.ifCond .eq 7, 3) := by decide +kernel
theorem dX7_hasPlace_25 : decode cX7_hasPlace 25 = .ok (.iconst 1, 1) := by decide +kernel
theorem dX7_hasPlace_26 : decode cX7_hasPlace 26 = .ok (.goto 4, 3) := by decide +kernel
theorem dX7_hasPlace_29 : decode cX7_hasPlace 29 = .ok (.iconst 0, 1) := by decide +kernel
theorem dX7_hasPlace_30 : decode cX7_hasPlace 30 = .ok (.ireturn, 1) := by decide +kernel
set_option maxRecDepth 20000 in
theorem ggX7_asksPlace_X7_laysView : GoodIn wsX7_asksPlace wsX7_laysView := goodIn_r _ [5, 6, 7, 8, 9, 10, 11, 4, 12, 13, 14, 15, 16, 17, 18, 19, 20, 21, 22, 23, 24, 25, 26, 27, 28, 29, 30, 31, 32, 33, 34, 35, 36, 37, 38, 39, 40, 41, 42, 43, 44, 45, 46, 47, 48, 49, 50, 51, 52, 53, 54, 55, 56, 57, 58, 59, 60, 61, 62, 63, 64, 65, 66, 67, 68, 69, 70, 71, 72, 73, 74, 75, 76, 77, 78, 79, 80, 81, 82, 83, 84, 85, 86, 87, 88, 89, 90, 91, 92, 93, 94, 95, 96, 97, 98, 99, 100, 101, 102, 103, 104, 105, 106, 107, 108, 109, 110, 111, 112, 113, 114, 115, 116, 117, 118, 119, 120, 121, 122, 123, 124, 125, 126, 127, 128, 129, 130, 131, 132, 133, 134, 148, 149, 150, 151, 152, 153, 154, 155, 156, 157, 158, 159, 160, 161, 162, 163, 164, 165, 166, 167, 168, 169, 170, 171, 172, 173, 174, 175, 176, 177, 178, 179, 180, 181, 182, 183, 184, 185, 186, 187, 188, 189, 190, 191, 192, 193, 194, 195, 196] (by decide +kernel) (by decide +kernel)
set_option maxRecDepth 20000 in
theorem gX7_asksPlace_X7_laysView : GoodIn wsX7_asksPlace (wsV RX7 264 RX7 yX7_laysView wsX7_laysView) := goodIn_app (goodIn_of _ (by decide +kernel)) ggX7_asksPlace_X7_laysView
set_option maxRecDepth 20000 in
theorem ggX7_asksPlace_X7_isProvision : GoodIn wsX7_asksPlace wsX7_isProvision := goodIn_r _ [138, 72, 46, 47, 4, 48, 148, 149, 150, 151, 152, 153, 154, 155, 156, 157, 158, 159, 160, 161, 162, 163, 164, 165, 166, 167, 168, 169, 170, 171, 172, 173, 174, 175, 176, 177, 178, 179, 180, 181, 182, 183, 184, 185, 186, 187, 188, 189, 190, 191, 192, 193, 194, 195, 196] (by decide +kernel) (by decide +kernel)
set_option maxRecDepth 20000 in
theorem gX7_asksPlace_X7_isProvision : GoodIn wsX7_asksPlace (wsV RX7 161 RX7 yX7_isProvision wsX7_isProvision) := goodIn_app (goodIn_of _ (by decide +kernel)) ggX7_asksPlace_X7_isProvision
set_option maxRecDepth 20000 in
theorem ggX7_asksPlace_X7_hasPlace : GoodIn wsX7_asksPlace wsX7_hasPlace := goodIn_r _ [142, 13, 14, 46, 47, 4, 48, 148, 149, 150, 151, 152, 153, 154, 155, 156, 157, 158, 159, 160, 161, 162, 163, 164, 165, 166, 167, 168, 169, 170, 171, 172, 173, 174, 175, 176, 177, 178, 179, 180, 181, 182, 183, 184, 185, 186, 187, 188, 189, 190, 191, 192, 193, 194, 195, 196] (by decide +kernel) (by decide +kernel)
set_option maxRecDepth 20000 in
theorem gX7_asksPlace_X7_hasPlace : GoodIn wsX7_asksPlace (wsV RX7 284 RX7 yX7_hasPlace wsX7_hasPlace) := goodIn_app (goodIn_of _ (by decide +kernel)) ggX7_asksPlace_X7_hasPlace
set_option maxRecDepth 20000 in
theorem ggX7_asksPlace_X7_goes : GoodIn wsX7_asksPlace wsX7_goes := goodIn_r _ [146, 147, 148, 149, 150, 151, 152, 153, 154, 155, 156, 157, 158, 159, 160, 161, 162, 163, 164, 165, 166, 167, 168, 169, 170, 171, 172, 173, 174, 175, 176, 177, 178, 179, 180, 181, 182, 183, 184, 185, 186, 187, 188, 189, 190, 191, 192, 193, 194, 195, 196] (by decide +kernel) (by decide +kernel)
set_option maxRecDepth 20000 in
theorem gX7_asksPlace_X7_goes : GoodIn wsX7_asksPlace (wsV RX7 136 RX7 yX7_goes wsX7_goes) := goodIn_app (goodIn_of _ (by decide +kernel)) ggX7_asksPlace_X7_goes
theorem dX7_asksPlace_0 : decode cX7_asksPlace 0 = .ok (.aload_n 0, 1) := by decide +kernel
theorem dX7_asksPlace_1 : decode cX7_asksPlace 1 = .ok (.invokevirtual 264, 3) := by decide +kernel
theorem dX7_asksPlace_4 : decode cX7_asksPlace 4 = .ok (.aload_n 0, 1) := by decide +kernel
theorem dX7_asksPlace_5 : decode cX7_asksPlace 5 = .ok (.aload_n 0, 1) := by decide +kernel
theorem dX7_asksPlace_6 : decode cX7_asksPlace 6 = .ok (.iload_n 1, 1) := by decide +kernel
theorem dX7_asksPlace_7 : decode cX7_asksPlace 7 = .ok (.invokevirtual 161, 3) := by decide +kernel
theorem dX7_asksPlace_10 : decode cX7_asksPlace 10 = .ok (.ifCond .ne 7, 3) := by decide +kernel
theorem dX7_asksPlace_13 : decode cX7_asksPlace 13 = .ok (.iconst 1, 1) := by decide +kernel
theorem dX7_asksPlace_14 : decode cX7_asksPlace 14 = .ok (.goto 17, 3) := by decide +kernel
theorem dX7_asksPlace_17 : decode cX7_asksPlace 17 = .ok (.aload_n 0, 1) := by decide +kernel
theorem dX7_asksPlace_18 : decode cX7_asksPlace 18 = .ok (.iload_n 1, 1) := by decide +kernel
theorem dX7_asksPlace_19 : decode cX7_asksPlace 19 = .ok (.iload_n 2, 1) := by decide +kernel
theorem dX7_asksPlace_20 : decode cX7_asksPlace 20 = .ok (.invokevirtual 284, 3) := by decide +kernel
theorem dX7_asksPlace_23 : decode cX7_asksPlace 23 = .ok (.ifCond .eq 7, 3) := by decide +kernel
theorem dX7_asksPlace_26 : decode cX7_asksPlace 26 = .ok (.iconst 0, 1) := by decide +kernel
theorem dX7_asksPlace_27 : decode cX7_asksPlace 27 = .ok (.goto 4, 3) := by decide +kernel
theorem dX7_asksPlace_30 : decode cX7_asksPlace 30 = .ok (.iconst 1, 1) := by decide +kernel
theorem dX7_asksPlace_31 : decode cX7_asksPlace 31 = .ok (.invokevirtual 136, 3) := by decide +kernel
theorem dX7_asksPlace_34 : decode cX7_asksPlace 34 = .ok (.ireturn, 1) := by decide +kernel
set_option maxRecDepth 20000 in
theorem ggX7_wordAt_X7_asksPlace : GoodIn wsX7_wordAt wsX7_asksPlace := goodIn_r _ [6, 7, 8, 9, 5, 10, 11, 12, 13, 14, 15, 16, 17, 18, 19, 20, 21, 22, 23, 24, 25, 26, 27, 28, 29, 30, 31, 32, 33, 34, 35, 36, 37, 38, 39, 40, 41, 42, 43, 44, 45, 46, 47, 48, 49, 50, 51, 52, 53, 54, 55, 56, 57, 58, 59, 60, 61, 62, 63, 64, 65, 66, 67, 68, 69, 70, 71, 72, 73, 74, 75, 76, 77, 78, 79, 80, 81, 82, 83, 84, 85, 86, 87, 88, 89, 90, 91, 1, 92, 93, 94, 95, 96, 97, 98, 99, 100, 101, 102, 103, 104, 105, 106, 107, 108, 109, 110, 111, 112, 113, 114, 115, 116, 117, 118, 119, 120, 121, 122, 123, 124, 125, 126, 127, 128, 129, 130, 131, 132, 133, 134, 135, 136, 137, 138, 139, 140, 141, 142, 143, 144, 145, 146, 147, 148, 149, 150, 151, 152, 153, 154, 155, 156, 157, 158, 159, 160, 161, 162, 163, 164, 165, 166, 167, 168, 169, 170, 171, 172, 173, 174, 175, 176, 177, 178, 179, 180, 181, 182, 183, 184, 185, 186, 187, 188, 189, 190, 191, 192, 193, 194, 195, 196, 197, 198, 199, 200] (by decide +kernel) (by decide +kernel)
set_option maxRecDepth 20000 in
theorem gX7_wordAt_X7_asksPlace : GoodIn wsX7_wordAt (wsV RX7 287 RX7 yX7_asksPlace wsX7_asksPlace) := goodIn_app (goodIn_of _ (by decide +kernel)) ggX7_wordAt_X7_asksPlace
theorem dX7_wordAt_0 : decode cX7_wordAt 0 = .ok (.aload_n 0, 1) := by decide +kernel
theorem dX7_wordAt_1 : decode cX7_wordAt 1 = .ok (.iload_n 1, 1) := by decide +kernel
theorem dX7_wordAt_2 : decode cX7_wordAt 2 = .ok (.iload_n 2, 1) := by decide +kernel
theorem dX7_wordAt_3 : decode cX7_wordAt 3 = .ok (.invokevirtual 287, 3) := by decide +kernel
theorem dX7_wordAt_6 : decode cX7_wordAt 6 = .ok (.ifCond .eq 17, 3) := by decide +kernel
theorem dX7_wordAt_9 : decode cX7_wordAt 9 = .ok (.aload_n 0, 1) := by decide +kernel
theorem dX7_wordAt_10 : decode cX7_wordAt 10 = .ok (.getfield 102, 3) := by decide +kernel
theorem dX7_wordAt_13 : decode cX7_wordAt 13 = .ok (.bipush 12, 2) := by decide +kernel
theorem dX7_wordAt_15 : decode cX7_wordAt 15 = .ok (.iload_n 1, 1) := by decide +kernel
theorem dX7_wordAt_16 : decode cX7_wordAt 16 = .ok (.imul, 1) := by decide +kernel
theorem dX7_wordAt_17 : decode cX7_wordAt 17 = .ok (.iload_n 2, 1) := by decide +kernel
theorem dX7_wordAt_18 : decode cX7_wordAt 18 = .ok (.iadd, 1) := by decide +kernel
theorem dX7_wordAt_19 : decode cX7_wordAt 19 = .ok (.iaload, 1) := by decide +kernel
theorem dX7_wordAt_20 : decode cX7_wordAt 20 = .ok (.goto 4, 3) := by decide +kernel
theorem dX7_wordAt_23 : decode cX7_wordAt 23 = .ok (.iconst 0, 1) := by decide +kernel
theorem dX7_wordAt_24 : decode cX7_wordAt 24 = .ok (.ireturn, 1) := by decide +kernel
set_option maxRecDepth 20000 in
theorem ggX7_wordAnew_X7_laysView : GoodIn wsX7_wordAnew wsX7_laysView := goodIn_r _ [6, 7, 8, 9, 10, 11, 12, 5, 13, 14, 15, 16, 17, 18, 19, 20, 21, 22, 23, 24, 25, 26, 27, 28, 29, 30, 31, 32, 33, 34, 35, 36, 37, 38, 39, 40, 41, 42, 43, 44, 45, 46, 47, 48, 49, 50, 51, 52, 53, 54, 55, 56, 57, 58, 59, 60, 61, 62, 63, 64, 65, 66, 67, 68, 69, 70, 71, 72, 73, 74, 75, 76, 77, 78, 79, 80, 81, 82, 83, 84, 85, 86, 87, 1, 88, 89, 90, 91, 92, 93, 94, 95, 96, 97, 98, 99, 100, 101, 102, 103, 104, 105, 106, 107, 108, 109, 110, 111, 112, 113, 114, 115, 116, 117, 118, 119, 120, 121, 122, 123, 124, 125, 126, 127, 128, 129, 130, 131, 132, 133, 134, 148, 149, 150, 151, 152, 153, 154, 155, 156, 157, 158, 159, 160, 161, 162, 163, 164, 165, 166, 167, 168, 169, 170, 171, 172, 173, 174, 175, 176, 177, 178, 179, 180, 181, 182, 183, 184, 185, 186, 187, 188, 189, 190, 191, 192, 193, 194, 195, 196] (by decide +kernel) (by decide +kernel)
set_option maxRecDepth 20000 in
theorem gX7_wordAnew_X7_laysView : GoodIn wsX7_wordAnew (wsV RX7 264 RX7 yX7_laysView wsX7_laysView) := goodIn_app (goodIn_of _ (by decide +kernel)) ggX7_wordAnew_X7_laysView
set_option maxRecDepth 20000 in
theorem ggX7_wordAnew_X7_isProvision : GoodIn wsX7_wordAnew wsX7_isProvision := goodIn_r _ [138, 73, 47, 48, 5, 49, 148, 149, 150, 151, 152, 153, 154, 155, 156, 157, 158, 159, 160, 161, 162, 163, 164, 165, 166, 167, 168, 169, 170, 171, 172, 173, 174, 175, 176, 177, 178, 179, 180, 181, 182, 183, 184, 185, 186, 187, 188, 189, 190, 191, 192, 193, 194, 195, 196] (by decide +kernel) (by decide +kernel)
set_option maxRecDepth 20000 in
theorem gX7_wordAnew_X7_isProvision : GoodIn wsX7_wordAnew (wsV RX7 161 RX7 yX7_isProvision wsX7_isProvision) := goodIn_app (goodIn_of _ (by decide +kernel)) ggX7_wordAnew_X7_isProvision
set_option maxRecDepth 20000 in
theorem ggX7_wordAnew_X7_goes : GoodIn wsX7_wordAnew wsX7_goes := goodIn_r _ [142, 143, 148, 149, 150, 151, 152, 153, 154, 155, 156, 157, 158, 159, 160, 161, 162, 163, 164, 165, 166, 167, 168, 169, 170, 171, 172, 173, 174, 175, 176, 177, 178, 179, 180, 181, 182, 183, 184, 185, 186, 187, 188, 189, 190, 191, 192, 193, 194, 195, 196] (by decide +kernel) (by decide +kernel)
set_option maxRecDepth 20000 in
theorem gX7_wordAnew_X7_goes : GoodIn wsX7_wordAnew (wsV RX7 136 RX7 yX7_goes wsX7_goes) := goodIn_app (goodIn_of _ (by decide +kernel)) ggX7_wordAnew_X7_goes
set_option maxRecDepth 20000 in
theorem ggX7_wordAnew_X7_hasPlace : GoodIn wsX7_wordAnew wsX7_hasPlace := goodIn_r _ [147, 14, 15, 47, 48, 5, 49, 148, 149, 150, 151, 152, 153, 154, 155, 156, 157, 158, 159, 160, 161, 162, 163, 164, 165, 166, 167, 168, 169, 170, 171, 172, 173, 174, 175, 176, 177, 178, 179, 180, 181, 182, 183, 184, 185, 186, 187, 188, 189, 190, 191, 192, 193, 194, 195, 196] (by decide +kernel) (by decide +kernel)
set_option maxRecDepth 20000 in
theorem gX7_wordAnew_X7_hasPlace : GoodIn wsX7_wordAnew (wsV RX7 284 RX7 yX7_hasPlace wsX7_hasPlace) := goodIn_app (goodIn_of _ (by decide +kernel)) ggX7_wordAnew_X7_hasPlace
theorem dX7_wordAnew_0 : decode cX7_wordAnew 0 = .ok (.aload_n 0, 1) := by decide +kernel
theorem dX7_wordAnew_1 : decode cX7_wordAnew 1 = .ok (.invokevirtual 264, 3) := by decide +kernel
theorem dX7_wordAnew_4 : decode cX7_wordAnew 4 = .ok (.aload_n 0, 1) := by decide +kernel
theorem dX7_wordAnew_5 : decode cX7_wordAnew 5 = .ok (.aload_n 0, 1) := by decide +kernel
theorem dX7_wordAnew_6 : decode cX7_wordAnew 6 = .ok (.iload_n 1, 1) := by decide +kernel
theorem dX7_wordAnew_7 : decode cX7_wordAnew 7 = .ok (.invokevirtual 161, 3) := by decide +kernel
theorem dX7_wordAnew_10 : decode cX7_wordAnew 10 = .ok (.ifCond .eq 11, 3) := by decide +kernel
theorem dX7_wordAnew_13 : decode cX7_wordAnew 13 = .ok (.iload_n 2, 1) := by decide +kernel
theorem dX7_wordAnew_14 : decode cX7_wordAnew 14 = .ok (.ifCond .lt 7, 3) := by decide +kernel
theorem dX7_wordAnew_17 : decode cX7_wordAnew 17 = .ok (.iconst 0, 1) := by decide +kernel
theorem dX7_wordAnew_18 : decode cX7_wordAnew 18 = .ok (.goto 4, 3) := by decide +kernel
theorem dX7_wordAnew_21 : decode cX7_wordAnew 21 = .ok (.iconst 1, 1) := by decide +kernel
theorem dX7_wordAnew_22 : decode cX7_wordAnew 22 = .ok (.invokevirtual 136, 3) := by decide +kernel
theorem dX7_wordAnew_25 : decode cX7_wordAnew 25 = .ok (.ifCond .ne 5, 3) := by decide +kernel
theorem dX7_wordAnew_28 : decode cX7_wordAnew 28 = .ok (.iconst 0, 1) := by decide +kernel
theorem dX7_wordAnew_29 : decode cX7_wordAnew 29 = .ok (.ireturn, 1) := by decide +kernel
theorem dX7_wordAnew_30 : decode cX7_wordAnew 30 = .ok (.aload_n 0, 1) := by decide +kernel
theorem dX7_wordAnew_31 : decode cX7_wordAnew 31 = .ok (.iload_n 1, 1) := by decide +kernel
theorem dX7_wordAnew_32 : decode cX7_wordAnew 32 = .ok (.iload_n 2, 1) := by decide +kernel
theorem dX7_wordAnew_33 : decode cX7_wordAnew 33 = .ok (.invokevirtual 284, 3) := by decide +kernel
theorem dX7_wordAnew_36 : decode cX7_wordAnew 36 = .ok (.ifCond .eq 17, 3) := by decide +kernel
theorem dX7_wordAnew_39 : decode cX7_wordAnew 39 = .ok (.aload_n 0, 1) := by decide +kernel
theorem dX7_wordAnew_40 : decode cX7_wordAnew 40 = .ok (.getfield 102, 3) := by decide +kernel
theorem dX7_wordAnew_43 : decode cX7_wordAnew 43 = .ok (.bipush 12, 2) := by decide +kernel
theorem dX7_wordAnew_45 : decode cX7_wordAnew 45 = .ok (.iload_n 1, 1) := by decide +kernel
theorem dX7_wordAnew_46 : decode cX7_wordAnew 46 = .ok (.imul, 1) := by decide +kernel
theorem dX7_wordAnew_47 : decode cX7_wordAnew 47 = .ok (.iload_n 2, 1) := by decide +kernel
theorem dX7_wordAnew_48 : decode cX7_wordAnew 48 = .ok (.iadd, 1) := by decide +kernel
theorem dX7_wordAnew_49 : decode cX7_wordAnew 49 = .ok (.iaload, 1) := by decide +kernel
theorem dX7_wordAnew_50 : decode cX7_wordAnew 50 = .ok (.goto 4, 3) := by decide +kernel
theorem dX7_wordAnew_53 : decode cX7_wordAnew 53 = .ok (.iconst (-1), 1) := by decide +kernel
theorem dX7_wordAnew_54 : decode cX7_wordAnew 54 = .ok (.ireturn, 1) := by decide +kernel
set_option maxRecDepth 20000 in
theorem ggX7_origin_X7_asksPlace : GoodIn wsX7_origin wsX7_asksPlace := goodIn_r _ [6, 7, 8, 9, 5, 10, 11, 12, 13, 14, 15, 16, 17, 18, 19, 20, 21, 22, 23, 24, 25, 26, 27, 28, 29, 30, 31, 32, 33, 34, 35, 36, 37, 38, 39, 40, 41, 42, 43, 44, 45, 46, 47, 48, 49, 50, 51, 52, 53, 54, 55, 56, 57, 58, 59, 60, 61, 62, 63, 64, 65, 66, 67, 68, 69, 70, 71, 72, 73, 74, 75, 76, 77, 78, 79, 80, 81, 82, 83, 84, 85, 86, 87, 88, 89, 90, 91, 92, 1, 93, 94, 95, 96, 97, 98, 99, 100, 101, 102, 103, 104, 105, 106, 107, 108, 109, 110, 111, 112, 113, 114, 115, 116, 117, 118, 119, 120, 121, 122, 123, 124, 125, 126, 127, 128, 129, 130, 131, 132, 133, 134, 135, 136, 137, 138, 139, 140, 141, 142, 143, 144, 145, 146, 147, 148, 149, 150, 151, 152, 153, 154, 155, 156, 157, 158, 159, 160, 161, 162, 163, 164, 165, 166, 167, 168, 169, 170, 171, 172, 173, 174, 175, 176, 177, 178, 179, 180, 181, 182, 183, 184, 185, 186, 187, 188, 189, 190, 191, 192, 193, 194, 195, 196, 197, 198, 199, 200] (by decide +kernel) (by decide +kernel)
set_option maxRecDepth 20000 in
theorem gX7_origin_X7_asksPlace : GoodIn wsX7_origin (wsV RX7 287 RX7 yX7_asksPlace wsX7_asksPlace) := goodIn_app (goodIn_of _ (by decide +kernel)) ggX7_origin_X7_asksPlace
theorem dX7_origin_0 : decode cX7_origin 0 = .ok (.aload_n 0, 1) := by decide +kernel
theorem dX7_origin_1 : decode cX7_origin 1 = .ok (.iload_n 1, 1) := by decide +kernel
theorem dX7_origin_2 : decode cX7_origin 2 = .ok (.iload_n 2, 1) := by decide +kernel
theorem dX7_origin_3 : decode cX7_origin 3 = .ok (.invokevirtual 287, 3) := by decide +kernel
theorem dX7_origin_6 : decode cX7_origin 6 = .ok (.ifCond .eq 17, 3) := by decide +kernel
theorem dX7_origin_9 : decode cX7_origin 9 = .ok (.aload_n 0, 1) := by decide +kernel
theorem dX7_origin_10 : decode cX7_origin 10 = .ok (.getfield 105, 3) := by decide +kernel
theorem dX7_origin_13 : decode cX7_origin 13 = .ok (.bipush 12, 2) := by decide +kernel
theorem dX7_origin_15 : decode cX7_origin 15 = .ok (.iload_n 1, 1) := by decide +kernel
theorem dX7_origin_16 : decode cX7_origin 16 = .ok (.imul, 1) := by decide +kernel
theorem dX7_origin_17 : decode cX7_origin 17 = .ok (.iload_n 2, 1) := by decide +kernel
theorem dX7_origin_18 : decode cX7_origin 18 = .ok (.iadd, 1) := by decide +kernel
theorem dX7_origin_19 : decode cX7_origin 19 = .ok (.iaload, 1) := by decide +kernel
theorem dX7_origin_20 : decode cX7_origin 20 = .ok (.goto 4, 3) := by decide +kernel
theorem dX7_origin_23 : decode cX7_origin 23 = .ok (.iconst 0, 1) := by decide +kernel
theorem dX7_origin_24 : decode cX7_origin 24 = .ok (.ireturn, 1) := by decide +kernel
set_option maxRecDepth 20000 in
theorem ggX7_refers_X7_asksPlace : GoodIn wsX7_refers wsX7_asksPlace := goodIn_r _ [12, 13, 14, 15, 11, 16, 17, 3, 4, 18, 19, 20, 21, 6, 22, 23, 24, 25, 26, 27, 28, 29, 30, 31, 32, 33, 34, 35, 36, 37, 38, 39, 40, 41, 42, 43, 44, 45, 46, 47, 48, 49, 50, 51, 52, 53, 54, 55, 56, 57, 58, 59, 60, 61, 62, 63, 64, 65, 66, 67, 68, 69, 70, 7, 71, 72, 73, 74, 75, 76, 77, 78, 5, 79, 80, 81, 82, 83, 84, 85, 86, 87, 88, 89, 90, 91, 92, 1, 2, 93, 94, 95, 96, 97, 98, 99, 100, 101, 102, 103, 104, 105, 106, 107, 108, 109, 110, 111, 112, 113, 114, 115, 116, 117, 118, 119, 120, 121, 122, 123, 124, 125, 126, 127, 128, 129, 130, 131, 132, 133, 134, 135, 136, 137, 138, 139, 140, 141, 142, 143, 144, 145, 146, 147, 148, 149, 150, 151, 152, 153, 154, 155, 156, 157, 158, 159, 160, 161, 162, 163, 164, 165, 166, 167, 168, 169, 170, 171, 172, 173, 174, 175, 176, 177, 178, 179, 180, 181, 182, 183, 184, 185, 186, 187, 188, 189, 190, 191, 192, 193, 194, 195, 196, 197, 198, 199, 200] (by decide +kernel) (by decide +kernel)
set_option maxRecDepth 20000 in
theorem gX7_refers_X7_asksPlace : GoodIn wsX7_refers (wsV RX7 287 RX7 yX7_asksPlace wsX7_asksPlace) := goodIn_app (goodIn_of _ (by decide +kernel)) ggX7_refers_X7_asksPlace
set_option maxRecDepth 20000 in
theorem ggX7_refers_X7_commencesBy : GoodIn wsX7_refers wsX7_commencesBy := goodIn_r _ [32, 33, 34, 35, 36, 37, 38, 39, 40, 41, 11, 42, 152, 153, 154, 155, 156, 157, 158, 159, 160, 161, 162, 163, 164, 165, 166, 167, 168, 169, 170, 171, 172, 173, 174, 175, 176, 177, 178, 179, 180, 181, 182, 183, 184, 185, 186, 187, 188, 189, 190, 191, 192, 193, 194, 195, 196, 197, 198, 199, 200] (by decide +kernel) (by decide +kernel)
set_option maxRecDepth 20000 in
theorem gX7_refers_X7_commencesBy : GoodIn wsX7_refers (wsV RX7 183 RX7 yX7_commencesBy wsX7_commencesBy) := goodIn_app (goodIn_of _ (by decide +kernel)) ggX7_refers_X7_commencesBy
set_option maxRecDepth 20000 in
theorem ggX7_refers_X7_views : GoodIn wsX7_refers wsX7_views := goodIn_r _ [21, 6, 22, 23, 24, 25, 26, 27, 28, 29, 30, 31, 11, 32, 33, 34, 35, 36, 37, 38, 39, 40, 41, 42, 43, 44, 45, 46, 47, 48, 49, 50, 51, 52, 53, 54, 55, 56, 57, 58, 59, 60, 61, 62, 63, 64, 65, 66, 67, 68, 69, 70, 7, 71, 72, 73, 74, 75, 76, 77, 78, 5, 79, 80, 81, 82, 83, 84, 85, 86, 87, 88, 89, 90, 91, 92, 1, 2, 93, 94, 95, 96, 97, 98, 99, 100, 101, 102, 103, 104, 105, 106, 107, 108, 109, 110, 111, 112, 113, 114, 115, 116, 117, 118, 119, 120, 121, 122, 123, 124, 125, 126, 127, 128, 129, 130, 131, 132, 133, 134, 135, 136, 137, 138, 152, 153, 154, 155, 156, 157, 158, 159, 160, 161, 162, 163, 164, 165, 166, 167, 168, 169, 170, 171, 172, 173, 174, 175, 176, 177, 178, 179, 180, 181, 182, 183, 184, 185, 186, 187, 188, 189, 190, 191, 192, 193, 194, 195, 196, 197, 198, 199, 200] (by decide +kernel) (by decide +kernel)
set_option maxRecDepth 20000 in
theorem gX7_refers_X7_views : GoodIn wsX7_refers (wsV RX7 261 RX7 yX7_views wsX7_views) := goodIn_app (goodIn_of _ (by decide +kernel)) ggX7_refers_X7_views
theorem dX7_refers_0 : decode cX7_refers 0 = .ok (.aload_n 0, 1) := by decide +kernel
theorem dX7_refers_1 : decode cX7_refers 1 = .ok (.iload_n 1, 1) := by decide +kernel
theorem dX7_refers_2 : decode cX7_refers 2 = .ok (.iload_n 2, 1) := by decide +kernel
theorem dX7_refers_3 : decode cX7_refers 3 = .ok (.invokevirtual 287, 3) := by decide +kernel
theorem dX7_refers_6 : decode cX7_refers 6 = .ok (.ifCond .ne 5, 3) := by decide +kernel
theorem dX7_refers_9 : decode cX7_refers 9 = .ok (.iconst 0, 1) := by decide +kernel
theorem dX7_refers_10 : decode cX7_refers 10 = .ok (.ireturn, 1) := by decide +kernel
theorem dX7_refers_11 : decode cX7_refers 11 = .ok (.aload_n 0, 1) := by decide +kernel
theorem dX7_refers_12 : decode cX7_refers 12 = .ok (.getfield 102, 3) := by decide +kernel
theorem dX7_refers_15 : decode cX7_refers 15 = .ok (.bipush 12, 2) := by decide +kernel
theorem dX7_refers_17 : decode cX7_refers 17 = .ok (.iload_n 1, 1) := by decide +kernel
theorem dX7_refers_18 : decode cX7_refers 18 = .ok (.imul, 1) := by decide +kernel
theorem dX7_refers_19 : decode cX7_refers 19 = .ok (.iload_n 2, 1) := by decide +kernel
theorem dX7_refers_20 : decode cX7_refers 20 = .ok (.iadd, 1) := by decide +kernel
theorem dX7_refers_21 : decode cX7_refers 21 = .ok (.iaload, 1) := by decide +kernel
theorem dX7_refers_22 : decode cX7_refers 22 = .ok (.istore_n 3, 1) := by decide +kernel
theorem dX7_refers_23 : decode cX7_refers 23 = .ok (.iload_n 3, 1) := by decide +kernel
theorem dX7_refers_24 : decode cX7_refers 24 = .ok (.bipush 100, 2) := by decide +kernel
theorem dX7_refers_26 : decode cX7_refers 26 = .ok (.if_icmp .ge 5, 3) := by decide +kernel
theorem dX7_refers_29 : decode cX7_refers 29 = .ok (.iconst (-1), 1) := by decide +kernel
theorem dX7_refers_30 : decode cX7_refers 30 = .ok (.ireturn, 1) := by decide +kernel
theorem dX7_refers_31 : decode cX7_refers 31 = .ok (.iload_n 3, 1) := by decide +kernel
theorem dX7_refers_32 : decode cX7_refers 32 = .ok (.bipush 120, 2) := by decide +kernel
theorem dX7_refers_34 : decode cX7_refers 34 = .ok (.if_icmp .ge 10, 3) := by decide +kernel
theorem dX7_refers_37 : decode cX7_refers 37 = .ok (.iload_n 3, 1) := by decide +kernel
theorem dX7_refers_38 : decode cX7_refers 38 = .ok (.bipush 100, 2) := by decide +kernel
theorem dX7_refers_40 : decode cX7_refers 40 = .ok (.isub, 1) := by decide +kernel
theorem dX7_refers_41 : decode cX7_refers 41 = .ok (.goto 7, 3) := by decide +kernel
theorem dX7_refers_44 : decode cX7_refers 44 = .ok (.iload_n 3, 1) := by decide +kernel
theorem dX7_refers_45 : decode cX7_refers 45 = .ok (.bipush 120, 2) := by decide +kernel
theorem dX7_refers_47 : decode cX7_refers 47 = .ok (.isub, 1) := by decide +kernel
theorem dX7_refers_48 : decode cX7_refers 48 = .ok (.istore 4, 2) := by decide +kernel
theorem dX7_refers_50 : decode cX7_refers 50 = .ok (.iload_n 3, 1) := by decide +kernel
theorem dX7_refers_51 : decode cX7_refers 51 = .ok (.bipush 119, 2) := by decide +kernel
theorem dX7_refers_53 : decode cX7_refers 53 = .ok (.if_icmp .le 34, 3) := by decide +kernel
theorem dX7_refers_56 : decode cX7_refers 56 = .ok (.aload_n 0, 1) := by decide +kernel
theorem dX7_refers_57 : decode cX7_refers 57 = .ok (.aload_n 0, 1) := by decide +kernel
theorem dX7_refers_58 : decode cX7_refers 58 = .ok (.aload_n 0, 1) := by decide +kernel
theorem dX7_refers_59 : decode cX7_refers 59 = .ok (.getfield 105, 3) := by decide +kernel
theorem dX7_refers_62 : decode cX7_refers 62 = .ok (.bipush 12, 2) := by decide +kernel
theorem dX7_refers_64 : decode cX7_refers 64 = .ok (.iload_n 1, 1) := by decide +kernel
theorem dX7_refers_65 : decode cX7_refers 65 = .ok (.imul, 1) := by decide +kernel
theorem dX7_refers_66 : decode cX7_refers 66 = .ok (.iload_n 2, 1) := by decide +kernel
theorem dX7_refers_67 : decode cX7_refers 67 = .ok (.iadd, 1) := by decide +kernel
theorem dX7_refers_68 : decode cX7_refers 68 = .ok (.iaload, 1) := by decide +kernel
theorem dX7_refers_69 : decode cX7_refers 69 = .ok (.aload_n 0, 1) := by decide +kernel
theorem dX7_refers_70 : decode cX7_refers 70 = .ok (.getfield 255, 3) := by decide +kernel
theorem dX7_refers_73 : decode cX7_refers 73 = .ok (.invokevirtual 183, 3) := by decide +kernel
theorem dX7_refers_76 : decode cX7_refers 76 = .ok (.aload_n 0, 1) := by decide +kernel
theorem dX7_refers_77 : decode cX7_refers 77 = .ok (.getfield 255, 3) := by decide +kernel
theorem dX7_refers_80 : decode cX7_refers 80 = .ok (.aload_n 0, 1) := by decide +kernel
theorem dX7_refers_81 : decode cX7_refers 81 = .ok (.getfield 258, 3) := by decide +kernel
theorem dX7_refers_84 : decode cX7_refers 84 = .ok (.invokevirtual 261, 3) := by decide +kernel
theorem dX7_refers_87 : decode cX7_refers 87 = .ok (.iload 4, 2) := by decide +kernel
theorem dX7_refers_89 : decode cX7_refers 89 = .ok (.aload_n 0, 1) := by decide +kernel
theorem dX7_refers_90 : decode cX7_refers 90 = .ok (.getfield 130, 3) := by decide +kernel
theorem dX7_refers_93 : decode cX7_refers 93 = .ok (.if_icmp .ge 23, 3) := by decide +kernel
theorem dX7_refers_96 : decode cX7_refers 96 = .ok (.aload_n 0, 1) := by decide +kernel
theorem dX7_refers_97 : decode cX7_refers 97 = .ok (.getfield 89, 3) := by decide +kernel
theorem dX7_refers_100 : decode cX7_refers 100 = .ok (.iload 4, 2) := by decide +kernel
theorem dX7_refers_102 : decode cX7_refers 102 = .ok (.baload, 1) := by decide +kernel
theorem dX7_refers_103 : decode cX7_refers 103 = .ok (.ifCond .eq 13, 3) := by decide +kernel
theorem dX7_refers_106 : decode cX7_refers 106 = .ok (.aload_n 0, 1) := by decide +kernel
theorem dX7_refers_107 : decode cX7_refers 107 = .ok (.getfield 93, 3) := by decide +kernel
theorem dX7_refers_110 : decode cX7_refers 110 = .ok (.iload 4, 2) := by decide +kernel
theorem dX7_refers_112 : decode cX7_refers 112 = .ok (.iaload, 1) := by decide +kernel
theorem dX7_refers_113 : decode cX7_refers 113 = .ok (.goto 4, 3) := by decide +kernel
theorem dX7_refers_116 : decode cX7_refers 116 = .ok (.iconst (-1), 1) := by decide +kernel
theorem dX7_refers_117 : decode cX7_refers 117 = .ok (.ireturn, 1) := by decide +kernel
set_option maxRecDepth 20000 in
theorem ggX7_state_X7_laysView : GoodIn wsX7_state wsX7_laysView := goodIn_r _ [6, 7, 8, 9, 10, 11, 12, 5, 13, 14, 15, 16, 1, 17, 18, 19, 20, 21, 22, 23, 24, 25, 26, 27, 28, 29, 30, 31, 32, 33, 34, 35, 36, 37, 38, 39, 40, 41, 42, 43, 44, 45, 46, 47, 48, 49, 50, 51, 52, 53, 54, 55, 56, 57, 58, 59, 60, 61, 62, 63, 64, 65, 66, 67, 68, 69, 70, 71, 72, 73, 74, 75, 76, 77, 78, 79, 80, 81, 82, 83, 84, 85, 86, 87, 88, 89, 90, 91, 92, 93, 94, 95, 96, 97, 98, 99, 100, 101, 102, 103, 104, 105, 106, 107, 108, 109, 110, 111, 112, 113, 114, 115, 116, 117, 118, 119, 120, 121, 122, 123, 124, 125, 126, 127, 128, 129, 130, 131, 132, 133, 134, 144, 145, 146, 147, 148, 149, 150, 151, 152, 153, 154, 155, 156, 157, 158, 159, 160, 161, 162, 163, 164, 165, 166, 167, 168, 169, 170, 171, 172, 173, 174, 175, 176, 177, 178, 179, 180, 181, 182, 183, 184, 185, 186, 187, 188, 189, 190, 191, 192] (by decide +kernel) (by decide +kernel)
set_option maxRecDepth 20000 in
theorem gX7_state_X7_laysView : GoodIn wsX7_state (wsV RX7 264 RX7 yX7_laysView wsX7_laysView) := goodIn_app (goodIn_of _ (by decide +kernel)) ggX7_state_X7_laysView
set_option maxRecDepth 20000 in
theorem ggX7_state_X7_isInstruction : GoodIn wsX7_state wsX7_isInstruction := goodIn_r _ [138, 16, 46, 47, 5, 48, 144, 145, 146, 147, 148, 149, 150, 151, 152, 153, 154, 155, 156, 157, 158, 159, 160, 161, 162, 163, 164, 165, 166, 167, 168, 169, 170, 171, 172, 173, 174, 175, 176, 177, 178, 179, 180, 181, 182, 183, 184, 185, 186, 187, 188, 189, 190, 191, 192] (by decide +kernel) (by decide +kernel)
set_option maxRecDepth 20000 in
theorem gX7_state_X7_isInstruction : GoodIn wsX7_state (wsV RX7 146 RX7 yX7_isInstruction wsX7_isInstruction) := goodIn_app (goodIn_of _ (by decide +kernel)) ggX7_state_X7_isInstruction
set_option maxRecDepth 20000 in
theorem ggX7_state_X7_goes : GoodIn wsX7_state wsX7_goes := goodIn_r _ [142, 143, 144, 145, 146, 147, 148, 149, 150, 151, 152, 153, 154, 155, 156, 157, 158, 159, 160, 161, 162, 163, 164, 165, 166, 167, 168, 169, 170, 171, 172, 173, 174, 175, 176, 177, 178, 179, 180, 181, 182, 183, 184, 185, 186, 187, 188, 189, 190, 191, 192] (by decide +kernel) (by decide +kernel)
set_option maxRecDepth 20000 in
theorem gX7_state_X7_goes : GoodIn wsX7_state (wsV RX7 136 RX7 yX7_goes wsX7_goes) := goodIn_app (goodIn_of _ (by decide +kernel)) ggX7_state_X7_goes
theorem dX7_state_0 : decode cX7_state 0 = .ok (.aload_n 0, 1) := by decide +kernel
theorem dX7_state_1 : decode cX7_state 1 = .ok (.invokevirtual 264, 3) := by decide +kernel
theorem dX7_state_4 : decode cX7_state 4 = .ok (.aload_n 0, 1) := by decide +kernel
theorem dX7_state_5 : decode cX7_state 5 = .ok (.aload_n 0, 1) := by decide +kernel
theorem dX7_state_6 : decode cX7_state 6 = .ok (.iload_n 1, 1) := by decide +kernel
theorem dX7_state_7 : decode cX7_state 7 = .ok (.invokevirtual 146, 3) := by decide +kernel
theorem dX7_state_10 : decode cX7_state 10 = .ok (.ifCond .eq 7, 3) := by decide +kernel
theorem dX7_state_13 : decode cX7_state 13 = .ok (.iconst 0, 1) := by decide +kernel
theorem dX7_state_14 : decode cX7_state 14 = .ok (.goto 4, 3) := by decide +kernel
theorem dX7_state_17 : decode cX7_state 17 = .ok (.iconst 1, 1) := by decide +kernel
theorem dX7_state_18 : decode cX7_state 18 = .ok (.invokevirtual 136, 3) := by decide +kernel
theorem dX7_state_21 : decode cX7_state 21 = .ok (.ifCond .eq 12, 3) := by decide +kernel
theorem dX7_state_24 : decode cX7_state 24 = .ok (.aload_n 0, 1) := by decide +kernel
theorem dX7_state_25 : decode cX7_state 25 = .ok (.getfield 86, 3) := by decide +kernel
theorem dX7_state_28 : decode cX7_state 28 = .ok (.iload_n 1, 1) := by decide +kernel
theorem dX7_state_29 : decode cX7_state 29 = .ok (.iaload, 1) := by decide +kernel
theorem dX7_state_30 : decode cX7_state 30 = .ok (.goto 4, 3) := by decide +kernel
theorem dX7_state_33 : decode cX7_state 33 = .ok (.iconst 0, 1) := by decide +kernel
theorem dX7_state_34 : decode cX7_state 34 = .ok (.ireturn, 1) := by decide +kernel
set_option maxRecDepth 20000 in
theorem ggX7_commences_X7_isInstruction : GoodIn wsX7_commences wsX7_isInstruction := goodIn_r _ [6, 7, 8, 9, 5, 10, 30, 31, 32, 33, 34, 35, 36, 37, 38, 39, 40, 41, 42, 43, 44, 45, 46, 47, 48, 49, 50, 51, 52, 53, 54, 55, 56, 57, 58, 59, 60, 61, 62, 63, 64, 65, 66, 67, 68, 69, 70, 71, 72, 73, 74, 75, 76, 77, 78] (by decide +kernel) (by decide +kernel)
set_option maxRecDepth 20000 in
theorem gX7_commences_X7_isInstruction : GoodIn wsX7_commences (wsV RX7 146 RX7 yX7_isInstruction wsX7_isInstruction) := goodIn_app (goodIn_of _ (by decide +kernel)) ggX7_commences_X7_isInstruction
set_option maxRecDepth 20000 in
theorem ggX7_commences_X7_goes : GoodIn wsX7_commences wsX7_goes := goodIn_r _ [14, 15, 30, 31, 32, 33, 34, 35, 36, 37, 38, 39, 40, 41, 42, 43, 44, 45, 46, 47, 48, 49, 50, 51, 52, 53, 54, 55, 56, 57, 58, 59, 60, 61, 62, 63, 64, 65, 66, 67, 68, 69, 70, 71, 72, 73, 74, 75, 76, 77, 78] (by decide +kernel) (by decide +kernel)
set_option maxRecDepth 20000 in
theorem gX7_commences_X7_goes : GoodIn wsX7_commences (wsV RX7 136 RX7 yX7_goes wsX7_goes) := goodIn_app (goodIn_of _ (by decide +kernel)) ggX7_commences_X7_goes
set_option maxRecDepth 20000 in
theorem ggX7_commences_X7_commencesBy : GoodIn wsX7_commences wsX7_commencesBy := goodIn_r _ [19, 20, 21, 22, 23, 24, 25, 26, 27, 28, 5, 29, 30, 31, 32, 33, 34, 35, 36, 37, 38, 39, 40, 41, 42, 43, 44, 45, 46, 47, 48, 49, 50, 51, 52, 53, 54, 55, 56, 57, 58, 59, 60, 61, 62, 63, 64, 65, 66, 67, 68, 69, 70, 71, 72, 73, 74, 75, 76, 77, 78] (by decide +kernel) (by decide +kernel)
set_option maxRecDepth 20000 in
theorem gX7_commences_X7_commencesBy : GoodIn wsX7_commences (wsV RX7 183 RX7 yX7_commencesBy wsX7_commencesBy) := goodIn_app (goodIn_of _ (by decide +kernel)) ggX7_commences_X7_commencesBy
theorem dX7_commences_0 : decode cX7_commences 0 = .ok (.aload_n 0, 1) := by decide +kernel
theorem dX7_commences_1 : decode cX7_commences 1 = .ok (.aload_n 0, 1) := by decide +kernel
theorem dX7_commences_2 : decode cX7_commences 2 = .ok (.iload_n 1, 1) := by decide +kernel
theorem dX7_commences_3 : decode cX7_commences 3 = .ok (.invokevirtual 146, 3) := by decide +kernel
theorem dX7_commences_6 : decode cX7_commences 6 = .ok (.ifCond .eq 7, 3) := by decide +kernel
theorem dX7_commences_9 : decode cX7_commences 9 = .ok (.iconst 0, 1) := by decide +kernel
theorem dX7_commences_10 : decode cX7_commences 10 = .ok (.goto 4, 3) := by decide +kernel
theorem dX7_commences_13 : decode cX7_commences 13 = .ok (.iconst 1, 1) := by decide +kernel
theorem dX7_commences_14 : decode cX7_commences 14 = .ok (.invokevirtual 136, 3) := by decide +kernel
theorem dX7_commences_17 : decode cX7_commences 17 = .ok (.ifCond .eq 15, 3) := by decide +kernel
theorem dX7_commences_20 : decode cX7_commences 20 = .ok (.aload_n 0, 1) := by decide +kernel
theorem dX7_commences_21 : decode cX7_commences 21 = .ok (.iload_n 1, 1) := by decide +kernel
theorem dX7_commences_22 : decode cX7_commences 22 = .ok (.aload_n 0, 1) := by decide +kernel
theorem dX7_commences_23 : decode cX7_commences 23 = .ok (.getfield 255, 3) := by decide +kernel
theorem dX7_commences_26 : decode cX7_commences 26 = .ok (.invokevirtual 183, 3) := by decide +kernel
theorem dX7_commences_29 : decode cX7_commences 29 = .ok (.goto 4, 3) := by decide +kernel
theorem dX7_commences_32 : decode cX7_commences 32 = .ok (.iconst 0, 1) := by decide +kernel
theorem dX7_commences_33 : decode cX7_commences 33 = .ok (.ireturn, 1) := by decide +kernel
set_option maxRecDepth 20000 in
theorem ggX7_conflicts_X7_laysView : GoodIn wsX7_conflicts wsX7_laysView := goodIn_r _ [12, 13, 7, 14, 15, 16, 17, 11, 18, 19, 20, 2, 3, 21, 22, 23, 24, 25, 26, 27, 28, 29, 4, 30, 31, 32, 33, 34, 35, 36, 37, 38, 39, 40, 41, 42, 43, 44, 45, 46, 47, 48, 49, 50, 51, 52, 53, 54, 55, 6, 5, 56, 57, 58, 59, 60, 61, 62, 63, 64, 65, 66, 67, 68, 69, 70, 71, 72, 73, 74, 75, 76, 77, 78, 79, 80, 81, 82, 83, 84, 85, 86, 87, 88, 89, 90, 91, 92, 93, 94, 95, 96, 97, 98, 99, 100, 101, 102, 103, 104, 105, 106, 107, 108, 109, 110, 111, 112, 113, 114, 115, 116, 117, 118, 119, 120, 121, 122, 123, 124, 125, 126, 127, 128, 129, 130, 131, 132, 133, 134, 135, 136, 137, 138, 139, 140, 141, 142, 143, 144, 145, 146, 147, 148, 149, 150, 151, 152, 153, 154, 155, 156, 157, 158, 159, 160, 161, 162, 163, 164, 165, 166, 167, 168, 169, 170, 171, 172, 173, 174, 175, 176, 177, 178, 179, 180, 181, 182, 183, 184] (by decide +kernel) (by decide +kernel)
set_option maxRecDepth 20000 in
theorem gX7_conflicts_X7_laysView : GoodIn wsX7_conflicts (wsV RX7 264 RX7 yX7_laysView wsX7_laysView) := goodIn_app (goodIn_of _ (by decide +kernel)) ggX7_conflicts_X7_laysView
set_option maxRecDepth 20000 in
theorem ggX7_conflicts_X7_isIn : GoodIn wsX7_conflicts wsX7_isIn := goodIn_r _ [51] (by decide +kernel) (by decide +kernel)
set_option maxRecDepth 20000 in
theorem gX7_conflicts_X7_isIn : GoodIn wsX7_conflicts (va_wsS RX7 126 yX7_isIn wsX7_isIn) := goodIn_app (goodIn_of _ (by decide +kernel)) ggX7_conflicts_X7_isIn
set_option maxRecDepth 20000 in
theorem ggX7_conflicts_X7_commencesBy : GoodIn wsX7_conflicts wsX7_commencesBy := goodIn_r _ [28, 29, 4, 30, 31, 32, 33, 34, 35, 36, 11, 37, 136, 137, 138, 139, 140, 141, 142, 143, 144, 145, 146, 147, 148, 149, 150, 151, 152, 153, 154, 155, 156, 157, 158, 159, 160, 161, 162, 163, 164, 165, 166, 167, 168, 169, 170, 171, 172, 173, 174, 175, 176, 177, 178, 179, 180, 181, 182, 183, 184] (by decide +kernel) (by decide +kernel)
set_option maxRecDepth 20000 in
theorem gX7_conflicts_X7_commencesBy : GoodIn wsX7_conflicts (wsV RX7 183 RX7 yX7_commencesBy wsX7_commencesBy) := goodIn_app (goodIn_of _ (by decide +kernel)) ggX7_conflicts_X7_commencesBy
theorem dX7_conflicts_0 : decode cX7_conflicts 0 = .ok (.aload_n 0, 1) := by decide +kernel
theorem dX7_conflicts_1 : decode cX7_conflicts 1 = .ok (.iconst 0, 1) := by decide +kernel
theorem dX7_conflicts_2 : decode cX7_conflicts 2 = .ok (.putfield 120, 3) := by decide +kernel
theorem dX7_conflicts_5 : decode cX7_conflicts 5 = .ok (.aload_n 0, 1) := by decide +kernel
theorem dX7_conflicts_6 : decode cX7_conflicts 6 = .ok (.invokevirtual 264, 3) := by decide +kernel
theorem dX7_conflicts_9 : decode cX7_conflicts 9 = .ok (.iconst 0, 1) := by decide +kernel
theorem dX7_conflicts_10 : decode cX7_conflicts 10 = .ok (.istore_n 1, 1) := by decide +kernel
theorem dX7_conflicts_11 : decode cX7_conflicts 11 = .ok (.iconst 0, 1) := by decide +kernel
theorem dX7_conflicts_12 : decode cX7_conflicts 12 = .ok (.istore_n 2, 1) := by decide +kernel
theorem dX7_conflicts_13 : decode cX7_conflicts 13 = .ok (.iload_n 2, 1) := by decide +kernel
theorem dX7_conflicts_14 : decode cX7_conflicts 14 = .ok (.aload_n 0, 1) := by decide +kernel
theorem dX7_conflicts_15 : decode cX7_conflicts 15 = .ok (.getfield 123, 3) := by decide +kernel
theorem dX7_conflicts_18 : decode cX7_conflicts 18 = .ok (.if_icmp .ge 155, 3) := by decide +kernel
theorem dX7_conflicts_21 : decode cX7_conflicts 21 = .ok (.iconst 0, 1) := by decide +kernel
theorem dX7_conflicts_22 : decode cX7_conflicts 22 = .ok (.istore_n 3, 1) := by decide +kernel
theorem dX7_conflicts_23 : decode cX7_conflicts 23 = .ok (.iload_n 3, 1) := by decide +kernel
theorem dX7_conflicts_24 : decode cX7_conflicts 24 = .ok (.iload_n 2, 1) := by decide +kernel
theorem dX7_conflicts_25 : decode cX7_conflicts 25 = .ok (.if_icmp .ge 142, 3) := by decide +kernel
theorem dX7_conflicts_28 : decode cX7_conflicts 28 = .ok (.aload_n 0, 1) := by decide +kernel
theorem dX7_conflicts_29 : decode cX7_conflicts 29 = .ok (.getfield 86, 3) := by decide +kernel
theorem dX7_conflicts_32 : decode cX7_conflicts 32 = .ok (.iload_n 2, 1) := by decide +kernel
theorem dX7_conflicts_33 : decode cX7_conflicts 33 = .ok (.iaload, 1) := by decide +kernel
theorem dX7_conflicts_34 : decode cX7_conflicts 34 = .ok (.iconst 1, 1) := by decide +kernel
theorem dX7_conflicts_35 : decode cX7_conflicts 35 = .ok (.if_icmp .ne 47, 3) := by decide +kernel
theorem dX7_conflicts_38 : decode cX7_conflicts 38 = .ok (.aload_n 0, 1) := by decide +kernel
theorem dX7_conflicts_39 : decode cX7_conflicts 39 = .ok (.getfield 86, 3) := by decide +kernel
theorem dX7_conflicts_42 : decode cX7_conflicts 42 = .ok (.iload_n 3, 1) := by decide +kernel
theorem dX7_conflicts_43 : decode cX7_conflicts 43 = .ok (.iaload, 1) := by decide +kernel
theorem dX7_conflicts_44 : decode cX7_conflicts 44 = .ok (.iconst 1, 1) := by decide +kernel
theorem dX7_conflicts_45 : decode cX7_conflicts 45 = .ok (.if_icmp .ne 37, 3) := by decide +kernel
theorem dX7_conflicts_48 : decode cX7_conflicts 48 = .ok (.aload_n 0, 1) := by decide +kernel
theorem dX7_conflicts_49 : decode cX7_conflicts 49 = .ok (.getfield 29, 3) := by decide +kernel
theorem dX7_conflicts_52 : decode cX7_conflicts 52 = .ok (.iload_n 2, 1) := by decide +kernel
theorem dX7_conflicts_53 : decode cX7_conflicts 53 = .ok (.iaload, 1) := by decide +kernel
theorem dX7_conflicts_54 : decode cX7_conflicts 54 = .ok (.aload_n 0, 1) := by decide +kernel
theorem dX7_conflicts_55 : decode cX7_conflicts 55 = .ok (.getfield 29, 3) := by decide +kernel
theorem dX7_conflicts_58 : decode cX7_conflicts 58 = .ok (.iload_n 3, 1) := by decide +kernel
theorem dX7_conflicts_59 : decode cX7_conflicts 59 = .ok (.iaload, 1) := by decide +kernel
theorem dX7_conflicts_60 : decode cX7_conflicts 60 = .ok (.if_icmp .eq 22, 3) := by decide +kernel
theorem dX7_conflicts_63 : decode cX7_conflicts 63 = .ok (.aload_n 0, 1) := by decide +kernel
theorem dX7_conflicts_64 : decode cX7_conflicts 64 = .ok (.getfield 32, 3) := by decide +kernel
theorem dX7_conflicts_67 : decode cX7_conflicts 67 = .ok (.iload_n 2, 1) := by decide +kernel
theorem dX7_conflicts_68 : decode cX7_conflicts 68 = .ok (.iaload, 1) := by decide +kernel
theorem dX7_conflicts_69 : decode cX7_conflicts 69 = .ok (.aload_n 0, 1) := by decide +kernel
theorem dX7_conflicts_70 : decode cX7_conflicts 70 = .ok (.getfield 32, 3) := by decide +kernel
theorem dX7_conflicts_73 : decode cX7_conflicts 73 = .ok (.iload_n 3, 1) := by decide +kernel
theorem dX7_conflicts_74 : decode cX7_conflicts 74 = .ok (.iaload, 1) := by decide +kernel
theorem dX7_conflicts_75 : decode cX7_conflicts 75 = .ok (.if_icmp .ne 7, 3) := by decide +kernel
theorem dX7_conflicts_78 : decode cX7_conflicts 78 = .ok (.iconst 1, 1) := by decide +kernel
theorem dX7_conflicts_79 : decode cX7_conflicts 79 = .ok (.goto 4, 3) := by decide +kernel
theorem dX7_conflicts_82 : decode cX7_conflicts 82 = .ok (.iconst 0, 1) := by decide +kernel
theorem dX7_conflicts_83 : decode cX7_conflicts 83 = .ok (.istore 4, 2) := by decide +kernel
theorem dX7_conflicts_85 : decode cX7_conflicts 85 = .ok (.aload_n 0, 1) := by decide +kernel
theorem dX7_conflicts_86 : decode cX7_conflicts 86 = .ok (.getfield 26, 3) := by decide +kernel
theorem dX7_conflicts_89 : decode cX7_conflicts 89 = .ok (.iload_n 2, 1) := by decide +kernel
theorem dX7_conflicts_90 : decode cX7_conflicts 90 = .ok (.iaload, 1) := by decide +kernel
theorem dX7_conflicts_91 : decode cX7_conflicts 91 = .ok (.iconst 1, 1) := by decide +kernel
theorem dX7_conflicts_92 : decode cX7_conflicts 92 = .ok (.bipush 6, 2) := by decide +kernel
theorem dX7_conflicts_94 : decode cX7_conflicts 94 = .ok (.invokestatic 126, 3) := by decide +kernel
theorem dX7_conflicts_97 : decode cX7_conflicts 97 = .ok (.ifCond .eq 22, 3) := by decide +kernel
theorem dX7_conflicts_100 : decode cX7_conflicts 100 = .ok (.aload_n 0, 1) := by decide +kernel
theorem dX7_conflicts_101 : decode cX7_conflicts 101 = .ok (.getfield 26, 3) := by decide +kernel
theorem dX7_conflicts_104 : decode cX7_conflicts 104 = .ok (.iload_n 3, 1) := by decide +kernel
theorem dX7_conflicts_105 : decode cX7_conflicts 105 = .ok (.iaload, 1) := by decide +kernel
theorem dX7_conflicts_106 : decode cX7_conflicts 106 = .ok (.iconst 1, 1) := by decide +kernel
theorem dX7_conflicts_107 : decode cX7_conflicts 107 = .ok (.bipush 6, 2) := by decide +kernel
theorem dX7_conflicts_109 : decode cX7_conflicts 109 = .ok (.invokestatic 126, 3) := by decide +kernel
theorem dX7_conflicts_112 : decode cX7_conflicts 112 = .ok (.ifCond .eq 7, 3) := by decide +kernel
theorem dX7_conflicts_115 : decode cX7_conflicts 115 = .ok (.iconst 1, 1) := by decide +kernel
theorem dX7_conflicts_116 : decode cX7_conflicts 116 = .ok (.goto 4, 3) := by decide +kernel
theorem dX7_conflicts_119 : decode cX7_conflicts 119 = .ok (.iconst 0, 1) := by decide +kernel
theorem dX7_conflicts_120 : decode cX7_conflicts 120 = .ok (.istore 5, 2) := by decide +kernel
theorem dX7_conflicts_122 : decode cX7_conflicts 122 = .ok (.iload_n 1, 1) := by decide +kernel
theorem dX7_conflicts_123 : decode cX7_conflicts 123 = .ok (.iload 4, 2) := by decide +kernel
theorem dX7_conflicts_125 : decode cX7_conflicts 125 = .ok (.ifCond .eq 33, 3) := by decide +kernel
theorem dX7_conflicts_128 : decode cX7_conflicts 128 = .ok (.iload 5, 2) := by decide +kernel
theorem dX7_conflicts_130 : decode cX7_conflicts 130 = .ok (.ifCond .eq 28, 3) := by decide +kernel
theorem dX7_conflicts_133 : decode cX7_conflicts 133 = .ok (.aload_n 0, 1) := by decide +kernel
theorem dX7_conflicts_134 : decode cX7_conflicts 134 = .ok (.iload_n 2, 1) := by decide +kernel
theorem dX7_conflicts_135 : decode cX7_conflicts 135 = .ok (.aload_n 0, 1) := by decide +kernel
theorem dX7_conflicts_136 : decode cX7_conflicts 136 = .ok (.getfield 255, 3) := by decide +kernel
theorem dX7_conflicts_139 : decode cX7_conflicts 139 = .ok (.invokevirtual 183, 3) := by decide +kernel
theorem dX7_conflicts_142 : decode cX7_conflicts 142 = .ok (.aload_n 0, 1) := by decide +kernel
theorem dX7_conflicts_143 : decode cX7_conflicts 143 = .ok (.iload_n 3, 1) := by decide +kernel
theorem dX7_conflicts_144 : decode cX7_conflicts 144 = .ok (.aload_n 0, 1) := by decide +kernel
theorem dX7_conflicts_145 : decode cX7_conflicts 145 = .ok (.getfield 255, 3) := by decide +kernel
theorem dX7_conflicts_148 : decode cX7_conflicts 148 = .ok (.invokevirtual 183, 3) := by decide +kernel
theorem dX7_conflicts_151 : decode cX7_conflicts 151 = .ok (.if_icmp .ne 7, 3) := by decide +kernel
theorem dX7_conflicts_154 : decode cX7_conflicts 154 = .ok (.iconst 1, 1) := by decide +kernel
theorem dX7_conflicts_155 : decode cX7_conflicts 155 = .ok (.goto 4, 3) := by decide +kernel
theorem dX7_conflicts_158 : decode cX7_conflicts 158 = .ok (.iconst 0, 1) := by decide +kernel
theorem dX7_conflicts_159 : decode cX7_conflicts 159 = .ok (.iadd, 1) := by decide +kernel
theorem dX7_conflicts_160 : decode cX7_conflicts 160 = .ok (.istore_n 1, 1) := by decide +kernel
theorem dX7_conflicts_161 : decode cX7_conflicts 161 = .ok (.iinc 3 1, 3) := by decide +kernel
theorem dX7_conflicts_164 : decode cX7_conflicts 164 = .ok (.goto (-141), 3) := by decide +kernel
theorem dX7_conflicts_167 : decode cX7_conflicts 167 = .ok (.iinc 2 1, 3) := by decide +kernel
theorem dX7_conflicts_170 : decode cX7_conflicts 170 = .ok (.goto (-157), 3) := by decide +kernel
theorem dX7_conflicts_173 : decode cX7_conflicts 173 = .ok (.iload_n 1, 1) := by decide +kernel
theorem dX7_conflicts_174 : decode cX7_conflicts 174 = .ok (.ireturn, 1) := by decide +kernel
set_option maxRecDepth 20000 in
theorem ggX7_print_X7_laysView : GoodIn wsX7_print wsX7_laysView := goodIn_r _ [12, 13, 14, 15, 16, 17, 18, 11, 19, 20, 5, 21, 22, 23, 24, 25, 26, 27, 28, 29, 30, 31, 32, 33, 34, 35, 36, 37, 38, 39, 40, 41, 42, 43, 44, 45, 46, 47, 48, 49, 50, 51, 52, 53, 54, 55, 56, 57, 58, 59, 60, 61, 62, 63, 64, 65, 66, 67, 68, 4, 69, 70, 71, 72, 73, 74, 75, 76, 77, 78, 79, 80, 81, 82, 83, 84, 85, 86, 87, 88, 89, 90, 91, 6, 7, 92, 93, 94, 95, 96, 97, 98, 99, 100, 101, 102, 103, 104, 105, 106, 107, 108, 109, 110, 111, 112, 113, 114, 115, 116, 117, 118, 119, 120, 121, 122, 123, 124, 125, 126, 127, 128, 129, 130, 131, 132, 133, 134, 135, 136, 137, 149, 150, 151, 152, 153, 154, 155, 156, 157, 158, 159, 160, 161, 162, 163, 164, 165, 166, 167, 168, 169, 170, 171, 172, 173, 174, 175, 176, 177, 178, 179, 180, 181, 182, 183, 184, 185, 186, 187, 188, 189, 190, 191, 192, 193, 194, 195, 196, 197] (by decide +kernel) (by decide +kernel)
set_option maxRecDepth 20000 in
theorem gX7_print_X7_laysView : GoodIn wsX7_print (wsV RX7 264 RX7 yX7_laysView wsX7_laysView) := goodIn_app (goodIn_of _ (by decide +kernel)) ggX7_print_X7_laysView
set_option maxRecDepth 20000 in
theorem ggX7_print_X7_behind : GoodIn wsX7_print wsX7_behind := goodIn_r _ [141, 68, 4, 142, 143, 144, 11, 145, 77, 20, 146, 147, 148, 149, 150, 151, 152, 153, 154, 155, 156, 157, 158, 159, 160, 161, 162, 163, 164, 165, 166, 167, 168, 169, 170, 171, 172, 173, 174, 175, 176, 177, 178, 179, 180, 181, 182, 183, 184, 185, 186, 187, 188, 189, 190, 191, 192, 193, 194, 195, 196, 197] (by decide +kernel) (by decide +kernel)
set_option maxRecDepth 20000 in
theorem gX7_print_X7_behind : GoodIn wsX7_print (wsV RX7 278 RX7 yX7_behind wsX7_behind) := goodIn_app (goodIn_of _ (by decide +kernel)) ggX7_print_X7_behind
theorem dX7_print_0 : decode cX7_print 0 = .ok (.aload_n 0, 1) := by decide +kernel
theorem dX7_print_1 : decode cX7_print 1 = .ok (.iconst 0, 1) := by decide +kernel
theorem dX7_print_2 : decode cX7_print 2 = .ok (.putfield 120, 3) := by decide +kernel
theorem dX7_print_5 : decode cX7_print 5 = .ok (.aload_n 0, 1) := by decide +kernel
theorem dX7_print_6 : decode cX7_print 6 = .ok (.invokevirtual 264, 3) := by decide +kernel
theorem dX7_print_9 : decode cX7_print 9 = .ok (.ldc2_w 290, 3) := by decide +kernel
theorem dX7_print_12 : decode cX7_print 12 = .ok (.lstore_n 1, 1) := by decide +kernel
theorem dX7_print_13 : decode cX7_print 13 = .ok (.aload_n 0, 1) := by decide +kernel
theorem dX7_print_14 : decode cX7_print 14 = .ok (.iconst (-1), 1) := by decide +kernel
theorem dX7_print_15 : decode cX7_print 15 = .ok (.invokevirtual 278, 3) := by decide +kernel
theorem dX7_print_18 : decode cX7_print 18 = .ok (.istore_n 3, 1) := by decide +kernel
theorem dX7_print_19 : decode cX7_print 19 = .ok (.iload_n 3, 1) := by decide +kernel
theorem dX7_print_20 : decode cX7_print 20 = .ok (.iconst (-1), 1) := by decide +kernel
theorem dX7_print_21 : decode cX7_print 21 = .ok (.if_icmp .eq 103, 3) := by decide +kernel
theorem dX7_print_24 : decode cX7_print 24 = .ok (.ldc2_w 292, 3) := by decide +kernel
theorem dX7_print_27 : decode cX7_print 27 = .ok (.ldc2_w 292, 3) := by decide +kernel
theorem dX7_print_30 : decode cX7_print 30 = .ok (.ldc2_w 292, 3) := by decide +kernel
theorem dX7_print_33 : decode cX7_print 33 = .ok (.lload_n 1, 1) := by decide +kernel
theorem dX7_print_34 : decode cX7_print 34 = .ok (.lmul, 1) := by decide +kernel
theorem dX7_print_35 : decode cX7_print 35 = .ok (.iload_n 3, 1) := by decide +kernel
theorem dX7_print_36 : decode cX7_print 36 = .ok (.i2l, 1) := by decide +kernel
theorem dX7_print_37 : decode cX7_print 37 = .ok (.ladd, 1) := by decide +kernel
theorem dX7_print_38 : decode cX7_print 38 = .ok (.lmul, 1) := by decide +kernel
theorem dX7_print_39 : decode cX7_print 39 = .ok (.aload_n 0, 1) := by decide +kernel
theorem dX7_print_40 : decode cX7_print 40 = .ok (.getfield 93, 3) := by decide +kernel
theorem dX7_print_43 : decode cX7_print 43 = .ok (.iload_n 3, 1) := by decide +kernel
theorem dX7_print_44 : decode cX7_print 44 = .ok (.iaload, 1) := by decide +kernel
theorem dX7_print_45 : decode cX7_print 45 = .ok (.i2l, 1) := by decide +kernel
theorem dX7_print_46 : decode cX7_print 46 = .ok (.ladd, 1) := by decide +kernel
theorem dX7_print_47 : decode cX7_print 47 = .ok (.lmul, 1) := by decide +kernel
theorem dX7_print_48 : decode cX7_print 48 = .ok (.aload_n 0, 1) := by decide +kernel
theorem dX7_print_49 : decode cX7_print 49 = .ok (.getfield 99, 3) := by decide +kernel
theorem dX7_print_52 : decode cX7_print 52 = .ok (.iload_n 3, 1) := by decide +kernel
theorem dX7_print_53 : decode cX7_print 53 = .ok (.iaload, 1) := by decide +kernel
theorem dX7_print_54 : decode cX7_print 54 = .ok (.i2l, 1) := by decide +kernel
theorem dX7_print_55 : decode cX7_print 55 = .ok (.ladd, 1) := by decide +kernel
theorem dX7_print_56 : decode cX7_print 56 = .ok (.lstore_n 1, 1) := by decide +kernel
theorem dX7_print_57 : decode cX7_print 57 = .ok (.iconst 0, 1) := by decide +kernel
theorem dX7_print_58 : decode cX7_print 58 = .ok (.istore 4, 2) := by decide +kernel
theorem dX7_print_60 : decode cX7_print 60 = .ok (.iload 4, 2) := by decide +kernel
theorem dX7_print_62 : decode cX7_print 62 = .ok (.aload_n 0, 1) := by decide +kernel
theorem dX7_print_63 : decode cX7_print 63 = .ok (.getfield 99, 3) := by decide +kernel
theorem dX7_print_66 : decode cX7_print 66 = .ok (.iload_n 3, 1) := by decide +kernel
theorem dX7_print_67 : decode cX7_print 67 = .ok (.iaload, 1) := by decide +kernel
theorem dX7_print_68 : decode cX7_print 68 = .ok (.if_icmp .ge 47, 3) := by decide +kernel
theorem dX7_print_71 : decode cX7_print 71 = .ok (.ldc2_w 292, 3) := by decide +kernel
theorem dX7_print_74 : decode cX7_print 74 = .ok (.ldc2_w 292, 3) := by decide +kernel
theorem dX7_print_77 : decode cX7_print 77 = .ok (.lload_n 1, 1) := by decide +kernel
theorem dX7_print_78 : decode cX7_print 78 = .ok (.lmul, 1) := by decide +kernel
theorem dX7_print_79 : decode cX7_print 79 = .ok (.aload_n 0, 1) := by decide +kernel
theorem dX7_print_80 : decode cX7_print 80 = .ok (.getfield 102, 3) := by decide +kernel
theorem dX7_print_83 : decode cX7_print 83 = .ok (.bipush 12, 2) := by decide +kernel
theorem dX7_print_85 : decode cX7_print 85 = .ok (.iload_n 3, 1) := by decide +kernel
theorem dX7_print_86 : decode cX7_print 86 = .ok (.imul, 1) := by decide +kernel
theorem dX7_print_87 : decode cX7_print 87 = .ok (.iload 4, 2) := by decide +kernel
theorem dX7_print_89 : decode cX7_print 89 = .ok (.iadd, 1) := by decide +kernel
theorem dX7_print_90 : decode cX7_print 90 = .ok (.iaload, 1) := by decide +kernel
theorem dX7_print_91 : decode cX7_print 91 = .ok (.i2l, 1) := by decide +kernel
theorem dX7_print_92 : decode cX7_print 92 = .ok (.ladd, 1) := by decide +kernel
theorem dX7_print_93 : decode cX7_print 93 = .ok (.lmul, 1) := by decide +kernel
theorem dX7_print_94 : decode cX7_print 94 = .ok (.aload_n 0, 1) := by decide +kernel
theorem dX7_print_95 : decode cX7_print 95 = .ok (.getfield 105, 3) := by decide +kernel
theorem dX7_print_98 : decode cX7_print 98 = .ok (.bipush 12, 2) := by decide +kernel
theorem dX7_print_100 : decode cX7_print 100 = .ok (.iload_n 3, 1) := by decide +kernel
theorem dX7_print_101 : decode cX7_print 101 = .ok (.imul, 1) := by decide +kernel
theorem dX7_print_102 : decode cX7_print 102 = .ok (.iload 4, 2) := by decide +kernel
theorem dX7_print_104 : decode cX7_print 104 = .ok (.iadd, 1) := by decide +kernel
theorem dX7_print_105 : decode cX7_print 105 = .ok (.iaload, 1) := by decide +kernel
theorem dX7_print_106 : decode cX7_print 106 = .ok (.i2l, 1) := by decide +kernel
theorem dX7_print_107 : decode cX7_print 107 = .ok (.ladd, 1) := by decide +kernel
theorem dX7_print_108 : decode cX7_print 108 = .ok (.lstore_n 1, 1) := by decide +kernel
theorem dX7_print_109 : decode cX7_print 109 = .ok (.iinc 4 1, 3) := by decide +kernel
theorem dX7_print_112 : decode cX7_print 112 = .ok (.goto (-52), 3) := by decide +kernel
theorem dX7_print_115 : decode cX7_print 115 = .ok (.aload_n 0, 1) := by decide +kernel
theorem dX7_print_116 : decode cX7_print 116 = .ok (.iload_n 3, 1) := by decide +kernel
theorem dX7_print_117 : decode cX7_print 117 = .ok (.invokevirtual 278, 3) := by decide +kernel
theorem dX7_print_120 : decode cX7_print 120 = .ok (.istore_n 3, 1) := by decide +kernel
theorem dX7_print_121 : decode cX7_print 121 = .ok (.goto (-102), 3) := by decide +kernel
theorem dX7_print_124 : decode cX7_print 124 = .ok (.lload_n 1, 1) := by decide +kernel
theorem dX7_print_125 : decode cX7_print 125 = .ok (.lreturn, 1) := by decide +kernel
theorem dJ9_max_7cf53_0 : decode cJ9_max_7cf53 0 = .ok (.iload_n 0, 1) := by decide +kernel
theorem dJ9_max_7cf53_1 : decode cJ9_max_7cf53 1 = .ok (.iload_n 1, 1) := by decide +kernel
theorem dJ9_max_7cf53_2 : decode cJ9_max_7cf53 2 = .ok (.if_icmp .lt 7, 3) := by decide +kernel
theorem dJ9_max_7cf53_5 : decode cJ9_max_7cf53 5 = .ok (.iload_n 0, 1) := by decide +kernel
theorem dJ9_max_7cf53_6 : decode cJ9_max_7cf53 6 = .ok (.goto 4, 3) := by decide +kernel
theorem dJ9_max_7cf53_9 : decode cJ9_max_7cf53 9 = .ok (.iload_n 1, 1) := by decide +kernel
theorem dJ9_max_7cf53_10 : decode cJ9_max_7cf53 10 = .ok (.ireturn, 1) := by decide +kernel
theorem dJ9_min_7cf53_0 : decode cJ9_min_7cf53 0 = .ok (.iload_n 0, 1) := by decide +kernel
theorem dJ9_min_7cf53_1 : decode cJ9_min_7cf53 1 = .ok (.iload_n 1, 1) := by decide +kernel
theorem dJ9_min_7cf53_2 : decode cJ9_min_7cf53 2 = .ok (.if_icmp .gt 7, 3) := by decide +kernel
theorem dJ9_min_7cf53_5 : decode cJ9_min_7cf53 5 = .ok (.iload_n 0, 1) := by decide +kernel
theorem dJ9_min_7cf53_6 : decode cJ9_min_7cf53 6 = .ok (.goto 4, 3) := by decide +kernel
theorem dJ9_min_7cf53_9 : decode cJ9_min_7cf53 9 = .ok (.iload_n 1, 1) := by decide +kernel
theorem dJ9_min_7cf53_10 : decode cJ9_min_7cf53 10 = .ok (.ireturn, 1) := by decide +kernel
theorem dJxa1e45_init_da8c8_0 : decode cJxa1e45_init_da8c8 0 = .ok (.aload_n 0, 1) := by decide +kernel
theorem dJxa1e45_init_da8c8_1 : decode cJxa1e45_init_da8c8 1 = .ok (.invokespecial 1, 3) := by decide +kernel
theorem dJxa1e45_init_da8c8_4 : decode cJxa1e45_init_da8c8 4 = .ok (.return_, 1) := by decide +kernel
set_option maxRecDepth 20000 in
theorem ggJxc12de_init_da8c8_Jxa1e45_init_da8c8 : GoodIn wsJxc12de_init_da8c8 wsJxa1e45_init_da8c8 := goodIn_r _ [5, 6, 7, 8] (by decide +kernel) (by decide +kernel)
set_option maxRecDepth 20000 in
theorem gJxc12de_init_da8c8_Jxa1e45_init_da8c8 : GoodIn wsJxc12de_init_da8c8 (wsJxa1e45_init_da8c8) := ggJxc12de_init_da8c8_Jxa1e45_init_da8c8
theorem dJxc12de_init_da8c8_0 : decode cJxc12de_init_da8c8 0 = .ok (.aload_n 0, 1) := by decide +kernel
theorem dJxc12de_init_da8c8_1 : decode cJxc12de_init_da8c8 1 = .ok (.invokespecial 1, 3) := by decide +kernel
theorem dJxc12de_init_da8c8_4 : decode cJxc12de_init_da8c8 4 = .ok (.aload_n 0, 1) := by decide +kernel
theorem dJxc12de_init_da8c8_5 : decode cJxc12de_init_da8c8 5 = .ok (.iconst 0, 1) := by decide +kernel
theorem dJxc12de_init_da8c8_6 : decode cJxc12de_init_da8c8 6 = .ok (.putfield 7, 3) := by decide +kernel
theorem dJxc12de_init_da8c8_9 : decode cJxc12de_init_da8c8 9 = .ok (.return_, 1) := by decide +kernel
set_option maxRecDepth 20000 in
theorem ggJx4a65c_init_da8c8_Jxc12de_init_da8c8 : GoodIn wsJx4a65c_init_da8c8 wsJxc12de_init_da8c8 := goodIn_r _ [6, 7, 8, 9, 10, 11, 12, 13, 14, 15, 16, 17] (by decide +kernel) (by decide +kernel)
set_option maxRecDepth 20000 in
theorem gJx4a65c_init_da8c8_Jxc12de_init_da8c8 : GoodIn wsJx4a65c_init_da8c8 (wsJxc12de_init_da8c8) := ggJx4a65c_init_da8c8_Jxc12de_init_da8c8
theorem dJx4a65c_init_da8c8_0 : decode cJx4a65c_init_da8c8 0 = .ok (.aload_n 0, 1) := by decide +kernel
theorem dJx4a65c_init_da8c8_1 : decode cJx4a65c_init_da8c8 1 = .ok (.invokespecial 1, 3) := by decide +kernel
theorem dJx4a65c_init_da8c8_4 : decode cJx4a65c_init_da8c8 4 = .ok (.aload_n 0, 1) := by decide +kernel
theorem dJx4a65c_init_da8c8_5 : decode cJx4a65c_init_da8c8 5 = .ok (.getstatic 39, 3) := by decide +kernel
theorem dJx4a65c_init_da8c8_8 : decode cJx4a65c_init_da8c8 8 = .ok (.putfield 9, 3) := by decide +kernel
theorem dJx4a65c_init_da8c8_11 : decode cJx4a65c_init_da8c8 11 = .ok (.return_, 1) := by decide +kernel
set_option maxRecDepth 20000 in
theorem ggJx4a65c_grow_92f84_J8_newLength_cabcc : GoodIn wsJx4a65c_grow_92f84 wsJ8_newLength_cabcc := goodIn_r _ [11, 12, 4, 5, 6, 13, 14, 15, 10, 16] (by decide +kernel) (by decide +kernel)
set_option maxRecDepth 20000 in
theorem gJx4a65c_grow_92f84_J8_newLength_cabcc : GoodIn wsJx4a65c_grow_92f84 (va_wsS RJx4a65c 73 yJ8_newLength_cabcc wsJ8_newLength_cabcc) := goodIn_app (goodIn_of _ (by decide +kernel)) ggJx4a65c_grow_92f84_J8_newLength_cabcc
set_option maxRecDepth 20000 in
theorem ggJx4a65c_grow_92f84_J7_copyOf_1904c : GoodIn wsJx4a65c_grow_92f84 wsJ7_copyOf_1904c := goodIn_r _ [20, 21, 22, 23, 24, 25, 26, 19, 27, 28, 29, 30, 31, 5, 32, 33, 34, 35, 36] (by decide +kernel) (by decide +kernel)
set_option maxRecDepth 20000 in
theorem gJx4a65c_grow_92f84_J7_copyOf_1904c : GoodIn wsJx4a65c_grow_92f84 (va_wsS RJx4a65c 66 yJ7_copyOf_1904c wsJ7_copyOf_1904c) := goodIn_app (goodIn_of _ (by decide +kernel)) ggJx4a65c_grow_92f84_J7_copyOf_1904c
theorem dJx4a65c_grow_92f84_0 : decode cJx4a65c_grow_92f84 0 = .ok (.aload_n 0, 1) := by decide +kernel
theorem dJx4a65c_grow_92f84_1 : decode cJx4a65c_grow_92f84 1 = .ok (.getfield 9, 3) := by decide +kernel
theorem dJx4a65c_grow_92f84_4 : decode cJx4a65c_grow_92f84 4 = .ok (.arraylength, 1) := by decide +kernel
theorem dJx4a65c_grow_92f84_5 : decode cJx4a65c_grow_92f84 5 = .ok (.istore_n 2, 1) := by decide +kernel
theorem dJx4a65c_grow_92f84_6 : decode cJx4a65c_grow_92f84 6 = .ok (.iload_n 2, 1) := by decide +kernel
theorem dJx4a65c_grow_92f84_7 : decode cJx4a65c_grow_92f84 7 = .ok (.ifCond .gt 13, 3) := by decide +kernel
theorem dJx4a65c_grow_92f84_10 : decode cJx4a65c_grow_92f84 10 = .ok (.aload_n 0, 1) := by decide +kernel
theorem dJx4a65c_grow_92f84_11 : decode cJx4a65c_grow_92f84 11 = .ok (.getfield 9, 3) := by decide +kernel
theorem dJx4a65c_grow_92f84_14 : decode cJx4a65c_grow_92f84 14 = .ok (.getstatic 39, 3) := by decide +kernel
theorem dJx4a65c_grow_92f84_17 : decode cJx4a65c_grow_92f84 17 = .ok (.if_acmp .eq 28, 3) := by decide +kernel
theorem dJx4a65c_grow_92f84_20 : decode cJx4a65c_grow_92f84 20 = .ok (.iload_n 2, 1) := by decide +kernel
theorem dJx4a65c_grow_92f84_21 : decode cJx4a65c_grow_92f84 21 = .ok (.iload_n 1, 1) := by decide +kernel
theorem dJx4a65c_grow_92f84_22 : decode cJx4a65c_grow_92f84 22 = .ok (.iload_n 2, 1) := by decide +kernel
theorem dJx4a65c_grow_92f84_23 : decode cJx4a65c_grow_92f84 23 = .ok (.isub, 1) := by decide +kernel
theorem dJx4a65c_grow_92f84_24 : decode cJx4a65c_grow_92f84 24 = .ok (.iload_n 2, 1) := by decide +kernel
theorem dJx4a65c_grow_92f84_25 : decode cJx4a65c_grow_92f84 25 = .ok (.iconst 1, 1) := by decide +kernel
theorem dJx4a65c_grow_92f84_26 : decode cJx4a65c_grow_92f84 26 = .ok (.ishr, 1) := by decide +kernel
theorem dJx4a65c_grow_92f84_27 : decode cJx4a65c_grow_92f84 27 = .ok (.invokestatic 73, 3) := by decide +kernel
theorem dJx4a65c_grow_92f84_30 : decode cJx4a65c_grow_92f84 30 = .ok (.istore_n 3, 1) := by decide +kernel
theorem dJx4a65c_grow_92f84_31 : decode cJx4a65c_grow_92f84 31 = .ok (.aload_n 0, 1) := by decide +kernel
theorem dJx4a65c_grow_92f84_32 : decode cJx4a65c_grow_92f84 32 = .ok (.aload_n 0, 1) := by decide +kernel
theorem dJx4a65c_grow_92f84_33 : decode cJx4a65c_grow_92f84 33 = .ok (.getfield 9, 3) := by decide +kernel
theorem dJx4a65c_grow_92f84_36 : decode cJx4a65c_grow_92f84 36 = .ok (.iload_n 3, 1) := by decide +kernel
theorem dJx4a65c_grow_92f84_37 : decode cJx4a65c_grow_92f84 37 = .ok (.invokestatic 66, 3) := by decide +kernel
theorem dJx4a65c_grow_92f84_40 : decode cJx4a65c_grow_92f84 40 = .ok (.dup_x1, 1) := by decide +kernel
theorem dJx4a65c_grow_92f84_41 : decode cJx4a65c_grow_92f84 41 = .ok (.putfield 9, 3) := by decide +kernel
theorem dJx4a65c_grow_92f84_44 : decode cJx4a65c_grow_92f84 44 = .ok (.areturn, 1) := by decide +kernel
theorem dJx4a65c_grow_92f84_45 : decode cJx4a65c_grow_92f84 45 = .ok (.aload_n 0, 1) := by decide +kernel
theorem dJx4a65c_grow_92f84_46 : decode cJx4a65c_grow_92f84 46 = .ok (.bipush 10, 2) := by decide +kernel
theorem dJx4a65c_grow_92f84_48 : decode cJx4a65c_grow_92f84 48 = .ok (.iload_n 1, 1) := by decide +kernel
theorem dJx4a65c_grow_92f84_49 : decode cJx4a65c_grow_92f84 49 = .ok (.invokestatic 79, 3) := by decide +kernel
theorem dJx4a65c_grow_92f84_52 : decode cJx4a65c_grow_92f84 52 = .ok (.anewarray 7, 3) := by decide +kernel
theorem dJx4a65c_grow_92f84_55 : decode cJx4a65c_grow_92f84 55 = .ok (.dup_x1, 1) := by decide +kernel
theorem dJx4a65c_grow_92f84_56 : decode cJx4a65c_grow_92f84 56 = .ok (.putfield 9, 3) := by decide +kernel
theorem dJx4a65c_grow_92f84_59 : decode cJx4a65c_grow_92f84 59 = .ok (.areturn, 1) := by decide +kernel
set_option maxRecDepth 20000 in
theorem ggJx4a65c_grow_d5877_Jx4a65c_grow_92f84 : GoodIn wsJx4a65c_grow_d5877 wsJx4a65c_grow_92f84 := goodIn_r _ [6, 7, 8, 9, 10, 11, 12, 13, 14, 15, 16, 17, 18, 19, 20, 21, 22, 23, 24, 25, 26, 27, 28, 29, 30, 31, 32, 33, 34, 35, 36, 37, 38, 39, 40, 41, 42, 43, 44, 45] (by decide +kernel) (by decide +kernel)
set_option maxRecDepth 20000 in
theorem gJx4a65c_grow_d5877_Jx4a65c_grow_92f84 : GoodIn wsJx4a65c_grow_d5877 (wsV RJx4a65c 69 RJx4a65c yJx4a65c_grow_92f84 wsJx4a65c_grow_92f84) := goodIn_app (goodIn_of _ (by decide +kernel)) ggJx4a65c_grow_d5877_Jx4a65c_grow_92f84
theorem dJx4a65c_grow_d5877_0 : decode cJx4a65c_grow_d5877 0 = .ok (.aload_n 0, 1) := by decide +kernel
theorem dJx4a65c_grow_d5877_1 : decode cJx4a65c_grow_d5877 1 = .ok (.aload_n 0, 1) := by decide +kernel
theorem dJx4a65c_grow_d5877_2 : decode cJx4a65c_grow_d5877 2 = .ok (.getfield 48, 3) := by decide +kernel
theorem dJx4a65c_grow_d5877_5 : decode cJx4a65c_grow_d5877 5 = .ok (.iconst 1, 1) := by decide +kernel
theorem dJx4a65c_grow_d5877_6 : decode cJx4a65c_grow_d5877 6 = .ok (.iadd, 1) := by decide +kernel
theorem dJx4a65c_grow_d5877_7 : decode cJx4a65c_grow_d5877 7 = .ok (.invokevirtual 69, 3) := by decide +kernel
theorem dJx4a65c_grow_d5877_10 : decode cJx4a65c_grow_d5877 10 = .ok (.areturn, 1) := by decide +kernel
theorem dJx4a65c_size_8abf5_0 : decode cJx4a65c_size_8abf5 0 = .ok (.aload_n 0, 1) := by decide +kernel
theorem dJx4a65c_size_8abf5_1 : decode cJx4a65c_size_8abf5 1 = .ok (.getfield 48, 3) := by decide +kernel
theorem dJx4a65c_size_8abf5_4 : decode cJx4a65c_size_8abf5 4 = .ok (.ireturn, 1) := by decide +kernel
theorem dJx4a65c_elementData_915e3_0 : decode cJx4a65c_elementData_915e3 0 = .ok (.aload_n 0, 1) := by decide +kernel
theorem dJx4a65c_elementData_915e3_1 : decode cJx4a65c_elementData_915e3 1 = .ok (.getfield 9, 3) := by decide +kernel
theorem dJx4a65c_elementData_915e3_4 : decode cJx4a65c_elementData_915e3 4 = .ok (.iload_n 1, 1) := by decide +kernel
theorem dJx4a65c_elementData_915e3_5 : decode cJx4a65c_elementData_915e3 5 = .ok (.aaload, 1) := by decide +kernel
theorem dJx4a65c_elementData_915e3_6 : decode cJx4a65c_elementData_915e3 6 = .ok (.areturn, 1) := by decide +kernel
set_option maxRecDepth 20000 in
theorem ggJx4a65c_get_915e3_J15_checkIndex_7cf53 : GoodIn wsJx4a65c_get_915e3 wsJ15_checkIndex_7cf53 := goodIn_r _ [5, 6, 7, 8, 9] (by decide +kernel) (by decide +kernel)
set_option maxRecDepth 20000 in
theorem gJx4a65c_get_915e3_J15_checkIndex_7cf53 : GoodIn wsJx4a65c_get_915e3 (va_wsS RJx4a65c 118 yJ15_checkIndex_7cf53 wsJ15_checkIndex_7cf53) := goodIn_app (goodIn_of _ (by decide +kernel)) ggJx4a65c_get_915e3_J15_checkIndex_7cf53
set_option maxRecDepth 20000 in
theorem ggJx4a65c_get_915e3_Jx4a65c_elementData_915e3 : GoodIn wsJx4a65c_get_915e3 wsJx4a65c_elementData_915e3 := goodIn_r _ [14, 15, 16, 17, 18] (by decide +kernel) (by decide +kernel)
set_option maxRecDepth 20000 in
theorem gJx4a65c_get_915e3_Jx4a65c_elementData_915e3 : GoodIn wsJx4a65c_get_915e3 (wsV RJx4a65c 123 RJx4a65c yJx4a65c_elementData_915e3 wsJx4a65c_elementData_915e3) := goodIn_app (goodIn_of _ (by decide +kernel)) ggJx4a65c_get_915e3_Jx4a65c_elementData_915e3
theorem dJx4a65c_get_915e3_0 : decode cJx4a65c_get_915e3 0 = .ok (.iload_n 1, 1) := by decide +kernel
theorem dJx4a65c_get_915e3_1 : decode cJx4a65c_get_915e3 1 = .ok (.aload_n 0, 1) := by decide +kernel
theorem dJx4a65c_get_915e3_2 : decode cJx4a65c_get_915e3 2 = .ok (.getfield 48, 3) := by decide +kernel
theorem dJx4a65c_get_915e3_5 : decode cJx4a65c_get_915e3 5 = .ok (.invokestatic 118, 3) := by decide +kernel
theorem dJx4a65c_get_915e3_8 : decode cJx4a65c_get_915e3 8 = .ok (.pop, 1) := by decide +kernel
theorem dJx4a65c_get_915e3_9 : decode cJx4a65c_get_915e3 9 = .ok (.aload_n 0, 1) := by decide +kernel
theorem dJx4a65c_get_915e3_10 : decode cJx4a65c_get_915e3 10 = .ok (.iload_n 1, 1) := by decide +kernel
theorem dJx4a65c_get_915e3_11 : decode cJx4a65c_get_915e3 11 = .ok (.invokevirtual 123, 3) := by decide +kernel
theorem dJx4a65c_get_915e3_14 : decode cJx4a65c_get_915e3 14 = .ok (.areturn, 1) := by decide +kernel
set_option maxRecDepth 20000 in
theorem ggJx4a65c_add_72be8_Jx4a65c_grow_d5877 : GoodIn wsJx4a65c_add_72be8 wsJx4a65c_grow_d5877 := goodIn_r _ [6, 1, 7, 8, 9, 5, 10, 11, 12, 13, 14, 15, 16, 17, 18, 19, 20, 21, 22, 23, 24, 25, 26, 27, 28, 29, 30, 31, 32, 33, 34, 35, 36, 37, 38, 39, 40, 41, 42, 43, 44, 45, 46, 47, 48, 49] (by decide +kernel) (by decide +kernel)
set_option maxRecDepth 20000 in
theorem gJx4a65c_add_72be8_Jx4a65c_grow_d5877 : GoodIn wsJx4a65c_add_72be8 (wsV RJx4a65c 129 RJx4a65c yJx4a65c_grow_d5877 wsJx4a65c_grow_d5877) := goodIn_app (goodIn_of _ (by decide +kernel)) ggJx4a65c_add_72be8_Jx4a65c_grow_d5877
theorem dJx4a65c_add_72be8_0 : decode cJx4a65c_add_72be8 0 = .ok (.iload_n 3, 1) := by decide +kernel
theorem dJx4a65c_add_72be8_1 : decode cJx4a65c_add_72be8 1 = .ok (.aload_n 2, 1) := by decide +kernel
theorem dJx4a65c_add_72be8_2 : decode cJx4a65c_add_72be8 2 = .ok (.arraylength, 1) := by decide +kernel
theorem dJx4a65c_add_72be8_3 : decode cJx4a65c_add_72be8 3 = .ok (.if_icmp .ne 8, 3) := by decide +kernel
theorem dJx4a65c_add_72be8_6 : decode cJx4a65c_add_72be8 6 = .ok (.aload_n 0, 1) := by decide +kernel
theorem dJx4a65c_add_72be8_7 : decode cJx4a65c_add_72be8 7 = .ok (.invokevirtual 129, 3) := by decide +kernel
theorem dJx4a65c_add_72be8_10 : decode cJx4a65c_add_72be8 10 = .ok (.astore_n 2, 1) := by decide +kernel
theorem dJx4a65c_add_72be8_11 : decode cJx4a65c_add_72be8 11 = .ok (.aload_n 2, 1) := by decide +kernel
theorem dJx4a65c_add_72be8_12 : decode cJx4a65c_add_72be8 12 = .ok (.iload_n 3, 1) := by decide +kernel
theorem dJx4a65c_add_72be8_13 : decode cJx4a65c_add_72be8 13 = .ok (.aload_n 1, 1) := by decide +kernel
theorem dJx4a65c_add_72be8_14 : decode cJx4a65c_add_72be8 14 = .ok (.aastore, 1) := by decide +kernel
theorem dJx4a65c_add_72be8_15 : decode cJx4a65c_add_72be8 15 = .ok (.aload_n 0, 1) := by decide +kernel
theorem dJx4a65c_add_72be8_16 : decode cJx4a65c_add_72be8 16 = .ok (.iload_n 3, 1) := by decide +kernel
theorem dJx4a65c_add_72be8_17 : decode cJx4a65c_add_72be8 17 = .ok (.iconst 1, 1) := by decide +kernel
theorem dJx4a65c_add_72be8_18 : decode cJx4a65c_add_72be8 18 = .ok (.iadd, 1) := by decide +kernel
theorem dJx4a65c_add_72be8_19 : decode cJx4a65c_add_72be8 19 = .ok (.putfield 48, 3) := by decide +kernel
theorem dJx4a65c_add_72be8_22 : decode cJx4a65c_add_72be8 22 = .ok (.return_, 1) := by decide +kernel
set_option maxRecDepth 20000 in
theorem ggJx4a65c_add_9ea2d_Jx4a65c_add_72be8 : GoodIn wsJx4a65c_add_9ea2d wsJx4a65c_add_72be8 := goodIn_r _ [9, 4, 10, 11, 12, 8, 13, 14, 15, 16, 17, 3, 18, 19, 20, 21, 22, 23, 24, 25, 26, 27, 28, 29, 30, 31, 32, 33, 34, 35, 36, 37, 38, 39, 40, 41, 42, 43, 44, 45, 46, 47, 48, 49, 50, 51, 52, 53, 54, 55] (by decide +kernel) (by decide +kernel)
set_option maxRecDepth 20000 in
theorem gJx4a65c_add_9ea2d_Jx4a65c_add_72be8 : GoodIn wsJx4a65c_add_9ea2d (wsV RJx4a65c 131 RJx4a65c yJx4a65c_add_72be8 wsJx4a65c_add_72be8) := goodIn_app (goodIn_of _ (by decide +kernel)) ggJx4a65c_add_9ea2d_Jx4a65c_add_72be8
theorem dJx4a65c_add_9ea2d_0 : decode cJx4a65c_add_9ea2d 0 = .ok (.aload_n 0, 1) := by decide +kernel
theorem dJx4a65c_add_9ea2d_1 : decode cJx4a65c_add_9ea2d 1 = .ok (.dup, 1) := by decide +kernel
theorem dJx4a65c_add_9ea2d_2 : decode cJx4a65c_add_9ea2d 2 = .ok (.getfield 63, 3) := by decide +kernel
theorem dJx4a65c_add_9ea2d_5 : decode cJx4a65c_add_9ea2d 5 = .ok (.iconst 1, 1) := by decide +kernel
theorem dJx4a65c_add_9ea2d_6 : decode cJx4a65c_add_9ea2d 6 = .ok (.iadd, 1) := by decide +kernel
theorem dJx4a65c_add_9ea2d_7 : decode cJx4a65c_add_9ea2d 7 = .ok (.putfield 63, 3) := by decide +kernel
theorem dJx4a65c_add_9ea2d_10 : decode cJx4a65c_add_9ea2d 10 = .ok (.aload_n 0, 1) := by decide +kernel
theorem dJx4a65c_add_9ea2d_11 : decode cJx4a65c_add_9ea2d 11 = .ok (.aload_n 1, 1) := by decide +kernel
theorem dJx4a65c_add_9ea2d_12 : decode cJx4a65c_add_9ea2d 12 = .ok (.aload_n 0, 1) := by decide +kernel
theorem dJx4a65c_add_9ea2d_13 : decode cJx4a65c_add_9ea2d 13 = .ok (.getfield 9, 3) := by decide +kernel
theorem dJx4a65c_add_9ea2d_16 : decode cJx4a65c_add_9ea2d 16 = .ok (.aload_n 0, 1) := by decide +kernel
theorem dJx4a65c_add_9ea2d_17 : decode cJx4a65c_add_9ea2d 17 = .ok (.getfield 48, 3) := by decide +kernel
theorem dJx4a65c_add_9ea2d_20 : decode cJx4a65c_add_9ea2d 20 = .ok (.invokevirtual 131, 3) := by decide +kernel
theorem dJx4a65c_add_9ea2d_23 : decode cJx4a65c_add_9ea2d 23 = .ok (.iconst 1, 1) := by decide +kernel
theorem dJx4a65c_add_9ea2d_24 : decode cJx4a65c_add_9ea2d 24 = .ok (.ireturn, 1) := by decide +kernel
set_option maxRecDepth 20000 in
theorem ggJx4a65c_add_7a177_Jx4a65c_rangeCheckForAdd_d00df : GoodIn wsJx4a65c_add_7a177 wsJx4a65c_rangeCheckForAdd_d00df := goodIn_r _ [13, 3, 54, 55, 56] (by decide +kernel) (by decide +kernel)
set_option maxRecDepth 20000 in
theorem gJx4a65c_add_7a177_Jx4a65c_rangeCheckForAdd_d00df : GoodIn wsJx4a65c_add_7a177 (wsV RJx4a65c 135 RJx4a65c yJx4a65c_rangeCheckForAdd_d00df wsJx4a65c_rangeCheckForAdd_d00df) := goodIn_app (goodIn_of _ (by decide +kernel)) ggJx4a65c_add_7a177_Jx4a65c_rangeCheckForAdd_d00df
set_option maxRecDepth 20000 in
theorem ggJx4a65c_add_7a177_Jx4a65c_grow_d5877 : GoodIn wsJx4a65c_add_7a177 wsJx4a65c_grow_d5877 := goodIn_r _ [17, 3, 18, 19, 20, 12, 21, 4, 22, 23, 24, 25, 26, 27, 28, 29, 30, 31, 32, 33, 34, 35, 36, 37, 38, 39, 40, 41, 42, 43, 44, 45, 46, 47, 48, 49, 50, 51, 52, 53, 6, 7, 8, 54, 55, 56] (by decide +kernel) (by decide +kernel)
set_option maxRecDepth 20000 in
theorem gJx4a65c_add_7a177_Jx4a65c_grow_d5877 : GoodIn wsJx4a65c_add_7a177 (wsV RJx4a65c 129 RJx4a65c yJx4a65c_grow_d5877 wsJx4a65c_grow_d5877) := goodIn_app (goodIn_of _ (by decide +kernel)) ggJx4a65c_add_7a177_Jx4a65c_grow_d5877
theorem dJx4a65c_add_7a177_0 : decode cJx4a65c_add_7a177 0 = .ok (.aload_n 0, 1) := by decide +kernel
theorem dJx4a65c_add_7a177_1 : decode cJx4a65c_add_7a177 1 = .ok (.iload_n 1, 1) := by decide +kernel
theorem dJx4a65c_add_7a177_2 : decode cJx4a65c_add_7a177 2 = .ok (.invokevirtual 135, 3) := by decide +kernel
theorem dJx4a65c_add_7a177_5 : decode cJx4a65c_add_7a177 5 = .ok (.aload_n 0, 1) := by decide +kernel
theorem dJx4a65c_add_7a177_6 : decode cJx4a65c_add_7a177 6 = .ok (.dup, 1) := by decide +kernel
theorem dJx4a65c_add_7a177_7 : decode cJx4a65c_add_7a177 7 = .ok (.getfield 63, 3) := by decide +kernel
theorem dJx4a65c_add_7a177_10 : decode cJx4a65c_add_7a177 10 = .ok (.iconst 1, 1) := by decide +kernel
theorem dJx4a65c_add_7a177_11 : decode cJx4a65c_add_7a177 11 = .ok (.iadd, 1) := by decide +kernel
theorem dJx4a65c_add_7a177_12 : decode cJx4a65c_add_7a177 12 = .ok (.putfield 63, 3) := by decide +kernel
theorem dJx4a65c_add_7a177_15 : decode cJx4a65c_add_7a177 15 = .ok (.aload_n 0, 1) := by decide +kernel
theorem dJx4a65c_add_7a177_16 : decode cJx4a65c_add_7a177 16 = .ok (.getfield 48, 3) := by decide +kernel
theorem dJx4a65c_add_7a177_19 : decode cJx4a65c_add_7a177 19 = .ok (.dup, 1) := by decide +kernel
theorem dJx4a65c_add_7a177_20 : decode cJx4a65c_add_7a177 20 = .ok (.istore_n 3, 1) := by decide +kernel
theorem dJx4a65c_add_7a177_21 : decode cJx4a65c_add_7a177 21 = .ok (.aload_n 0, 1) := by decide +kernel
theorem dJx4a65c_add_7a177_22 : decode cJx4a65c_add_7a177 22 = .ok (.getfield 9, 3) := by decide +kernel
theorem dJx4a65c_add_7a177_25 : decode cJx4a65c_add_7a177 25 = .ok (.dup, 1) := by decide +kernel
theorem dJx4a65c_add_7a177_26 : decode cJx4a65c_add_7a177 26 = .ok (.astore 4, 2) := by decide +kernel
theorem dJx4a65c_add_7a177_28 : decode cJx4a65c_add_7a177 28 = .ok (.arraylength, 1) := by decide +kernel
theorem dJx4a65c_add_7a177_29 : decode cJx4a65c_add_7a177 29 = .ok (.if_icmp .ne 9, 3) := by decide +kernel
theorem dJx4a65c_add_7a177_32 : decode cJx4a65c_add_7a177 32 = .ok (.aload_n 0, 1) := by decide +kernel
theorem dJx4a65c_add_7a177_33 : decode cJx4a65c_add_7a177 33 = .ok (.invokevirtual 129, 3) := by decide +kernel
theorem dJx4a65c_add_7a177_36 : decode cJx4a65c_add_7a177 36 = .ok (.astore 4, 2) := by decide +kernel
theorem dJx4a65c_add_7a177_38 : decode cJx4a65c_add_7a177 38 = .ok (.aload 4, 2) := by decide +kernel
theorem dJx4a65c_add_7a177_40 : decode cJx4a65c_add_7a177 40 = .ok (.iload_n 1, 1) := by decide +kernel
theorem dJx4a65c_add_7a177_41 : decode cJx4a65c_add_7a177 41 = .ok (.aload 4, 2) := by decide +kernel
theorem dJx4a65c_add_7a177_43 : decode cJx4a65c_add_7a177 43 = .ok (.iload_n 1, 1) := by decide +kernel
theorem dJx4a65c_add_7a177_44 : decode cJx4a65c_add_7a177 44 = .ok (.iconst 1, 1) := by decide +kernel
theorem dJx4a65c_add_7a177_45 : decode cJx4a65c_add_7a177 45 = .ok (.iadd, 1) := by decide +kernel
theorem dJx4a65c_add_7a177_46 : decode cJx4a65c_add_7a177 46 = .ok (.iload_n 3, 1) := by decide +kernel
theorem dJx4a65c_add_7a177_47 : decode cJx4a65c_add_7a177 47 = .ok (.iload_n 1, 1) := by decide +kernel
theorem dJx4a65c_add_7a177_48 : decode cJx4a65c_add_7a177 48 = .ok (.isub, 1) := by decide +kernel
theorem dJx4a65c_add_7a177_49 : decode cJx4a65c_add_7a177 49 = .ok (.invokestatic 112, 3) := by decide +kernel
theorem dJx4a65c_add_7a177_52 : decode cJx4a65c_add_7a177 52 = .ok (.aload 4, 2) := by decide +kernel
theorem dJx4a65c_add_7a177_54 : decode cJx4a65c_add_7a177 54 = .ok (.iload_n 1, 1) := by decide +kernel
theorem dJx4a65c_add_7a177_55 : decode cJx4a65c_add_7a177 55 = .ok (.aload_n 2, 1) := by decide +kernel
theorem dJx4a65c_add_7a177_56 : decode cJx4a65c_add_7a177 56 = .ok (.aastore, 1) := by decide +kernel
theorem dJx4a65c_add_7a177_57 : decode cJx4a65c_add_7a177 57 = .ok (.aload_n 0, 1) := by decide +kernel
theorem dJx4a65c_add_7a177_58 : decode cJx4a65c_add_7a177 58 = .ok (.iload_n 3, 1) := by decide +kernel
theorem dJx4a65c_add_7a177_59 : decode cJx4a65c_add_7a177 59 = .ok (.iconst 1, 1) := by decide +kernel
theorem dJx4a65c_add_7a177_60 : decode cJx4a65c_add_7a177 60 = .ok (.iadd, 1) := by decide +kernel
theorem dJx4a65c_add_7a177_61 : decode cJx4a65c_add_7a177 61 = .ok (.putfield 48, 3) := by decide +kernel
theorem dJx4a65c_add_7a177_64 : decode cJx4a65c_add_7a177 64 = .ok (.return_, 1) := by decide +kernel
theorem dJx4a65c_clear_da8c8_0 : decode cJx4a65c_clear_da8c8 0 = .ok (.aload_n 0, 1) := by decide +kernel
theorem dJx4a65c_clear_da8c8_1 : decode cJx4a65c_clear_da8c8 1 = .ok (.dup, 1) := by decide +kernel
theorem dJx4a65c_clear_da8c8_2 : decode cJx4a65c_clear_da8c8 2 = .ok (.getfield 63, 3) := by decide +kernel
theorem dJx4a65c_clear_da8c8_5 : decode cJx4a65c_clear_da8c8 5 = .ok (.iconst 1, 1) := by decide +kernel
theorem dJx4a65c_clear_da8c8_6 : decode cJx4a65c_clear_da8c8 6 = .ok (.iadd, 1) := by decide +kernel
theorem dJx4a65c_clear_da8c8_7 : decode cJx4a65c_clear_da8c8 7 = .ok (.putfield 63, 3) := by decide +kernel
theorem dJx4a65c_clear_da8c8_10 : decode cJx4a65c_clear_da8c8 10 = .ok (.aload_n 0, 1) := by decide +kernel
theorem dJx4a65c_clear_da8c8_11 : decode cJx4a65c_clear_da8c8 11 = .ok (.getfield 9, 3) := by decide +kernel
theorem dJx4a65c_clear_da8c8_14 : decode cJx4a65c_clear_da8c8 14 = .ok (.astore_n 1, 1) := by decide +kernel
theorem dJx4a65c_clear_da8c8_15 : decode cJx4a65c_clear_da8c8 15 = .ok (.aload_n 0, 1) := by decide +kernel
theorem dJx4a65c_clear_da8c8_16 : decode cJx4a65c_clear_da8c8 16 = .ok (.getfield 48, 3) := by decide +kernel
theorem dJx4a65c_clear_da8c8_19 : decode cJx4a65c_clear_da8c8 19 = .ok (.istore_n 2, 1) := by decide +kernel
theorem dJx4a65c_clear_da8c8_20 : decode cJx4a65c_clear_da8c8 20 = .ok (.aload_n 0, 1) := by decide +kernel
theorem dJx4a65c_clear_da8c8_21 : decode cJx4a65c_clear_da8c8 21 = .ok (.iconst 0, 1) := by decide +kernel
theorem dJx4a65c_clear_da8c8_22 : decode cJx4a65c_clear_da8c8 22 = .ok (.dup_x1, 1) := by decide +kernel
theorem dJx4a65c_clear_da8c8_23 : decode cJx4a65c_clear_da8c8 23 = .ok (.putfield 48, 3) := by decide +kernel
theorem dJx4a65c_clear_da8c8_26 : decode cJx4a65c_clear_da8c8 26 = .ok (.istore_n 3, 1) := by decide +kernel
theorem dJx4a65c_clear_da8c8_27 : decode cJx4a65c_clear_da8c8 27 = .ok (.iload_n 3, 1) := by decide +kernel
theorem dJx4a65c_clear_da8c8_28 : decode cJx4a65c_clear_da8c8 28 = .ok (.iload_n 2, 1) := by decide +kernel
theorem dJx4a65c_clear_da8c8_29 : decode cJx4a65c_clear_da8c8 29 = .ok (.if_icmp .ge 13, 3) := by decide +kernel
theorem dJx4a65c_clear_da8c8_32 : decode cJx4a65c_clear_da8c8 32 = .ok (.aload_n 1, 1) := by decide +kernel
theorem dJx4a65c_clear_da8c8_33 : decode cJx4a65c_clear_da8c8 33 = .ok (.iload_n 3, 1) := by decide +kernel
theorem dJx4a65c_clear_da8c8_34 : decode cJx4a65c_clear_da8c8 34 = .ok (.aconst_null, 1) := by decide +kernel
theorem dJx4a65c_clear_da8c8_35 : decode cJx4a65c_clear_da8c8 35 = .ok (.aastore, 1) := by decide +kernel
theorem dJx4a65c_clear_da8c8_36 : decode cJx4a65c_clear_da8c8 36 = .ok (.iinc 3 1, 3) := by decide +kernel
theorem dJx4a65c_clear_da8c8_39 : decode cJx4a65c_clear_da8c8 39 = .ok (.goto (-12), 3) := by decide +kernel
theorem dJx4a65c_clear_da8c8_42 : decode cJx4a65c_clear_da8c8 42 = .ok (.return_, 1) := by decide +kernel
theorem dJx4a65c_rangeCheckForAdd_d00df_0 : decode cJx4a65c_rangeCheckForAdd_d00df 0 = .ok (.iload_n 1, 1) := by decide +kernel
theorem dJx4a65c_rangeCheckForAdd_d00df_1 : decode cJx4a65c_rangeCheckForAdd_d00df 1 = .ok (.aload_n 0, 1) := by decide +kernel
theorem dJx4a65c_rangeCheckForAdd_d00df_2 : decode cJx4a65c_rangeCheckForAdd_d00df 2 = .ok (.getfield 48, 3) := by decide +kernel
theorem dJx4a65c_rangeCheckForAdd_d00df_5 : decode cJx4a65c_rangeCheckForAdd_d00df 5 = .ok (.if_icmp .gt 7, 3) := by decide +kernel
theorem dJx4a65c_rangeCheckForAdd_d00df_8 : decode cJx4a65c_rangeCheckForAdd_d00df 8 = .ok (.iload_n 1, 1) := by decide +kernel
theorem dJx4a65c_rangeCheckForAdd_d00df_9 : decode cJx4a65c_rangeCheckForAdd_d00df 9 = .ok (.ifCond .ge 16, 3) := by decide +kernel
theorem dJx4a65c_rangeCheckForAdd_d00df_12 : decode cJx4a65c_rangeCheckForAdd_d00df 12 = .ok (.new 187, 3) := by decide +kernel
theorem dJx4a65c_rangeCheckForAdd_d00df_15 : decode cJx4a65c_rangeCheckForAdd_d00df 15 = .ok (.dup, 1) := by decide +kernel
theorem dJx4a65c_rangeCheckForAdd_d00df_16 : decode cJx4a65c_rangeCheckForAdd_d00df 16 = .ok (.aload_n 0, 1) := by decide +kernel
theorem dJx4a65c_rangeCheckForAdd_d00df_17 : decode cJx4a65c_rangeCheckForAdd_d00df 17 = .ok (.iload_n 1, 1) := by decide +kernel
theorem dJx4a65c_rangeCheckForAdd_d00df_18 : decode cJx4a65c_rangeCheckForAdd_d00df 18 = .ok (.invokevirtual 198, 3) := by decide +kernel
theorem dJx4a65c_rangeCheckForAdd_d00df_21 : decode cJx4a65c_rangeCheckForAdd_d00df 21 = .ok (.invokespecial 193, 3) := by decide +kernel
theorem dJx4a65c_rangeCheckForAdd_d00df_24 : decode cJx4a65c_rangeCheckForAdd_d00df 24 = .ok (.athrow, 1) := by decide +kernel
theorem dJx4a65c_rangeCheckForAdd_d00df_25 : decode cJx4a65c_rangeCheckForAdd_d00df 25 = .ok (.return_, 1) := by decide +kernel
set_option maxRecDepth 20000 in
theorem ggJ7_copyOf_1904c_J7_copyOf_6403c : GoodIn wsJ7_copyOf_1904c wsJ7_copyOf_6403c := goodIn_r _ [8, 9, 10, 11, 12, 13, 14, 15, 16, 17, 18] (by decide +kernel) (by decide +kernel)
set_option maxRecDepth 20000 in
theorem gJ7_copyOf_1904c_J7_copyOf_6403c : GoodIn wsJ7_copyOf_1904c (va_wsS RJ7 300 yJ7_copyOf_6403c wsJ7_copyOf_6403c) := goodIn_app (goodIn_of _ (by decide +kernel)) ggJ7_copyOf_1904c_J7_copyOf_6403c
theorem dJ7_copyOf_1904c_0 : decode cJ7_copyOf_1904c 0 = .ok (.aload_n 0, 1) := by decide +kernel
theorem dJ7_copyOf_1904c_1 : decode cJ7_copyOf_1904c 1 = .ok (.iload_n 1, 1) := by decide +kernel
theorem dJ7_copyOf_1904c_2 : decode cJ7_copyOf_1904c 2 = .ok (.aload_n 0, 1) := by decide +kernel
theorem dJ7_copyOf_1904c_3 : decode cJ7_copyOf_1904c 3 = .ok (.invokevirtual 86, 3) := by decide +kernel
theorem dJ7_copyOf_1904c_6 : decode cJ7_copyOf_1904c 6 = .ok (.invokestatic 300, 3) := by decide +kernel
theorem dJ7_copyOf_1904c_9 : decode cJ7_copyOf_1904c 9 = .ok (.areturn, 1) := by decide +kernel
theorem dJ7_copyOf_6403c_0 : decode cJ7_copyOf_6403c 0 = .ok (.aload_n 2, 1) := by decide +kernel
theorem dJ7_copyOf_6403c_1 : decode cJ7_copyOf_6403c 1 = .ok (.ldc 110, 2) := by decide +kernel
theorem dJ7_copyOf_6403c_3 : decode cJ7_copyOf_6403c 3 = .ok (.if_acmp .ne 10, 3) := by decide +kernel
theorem dJ7_copyOf_6403c_6 : decode cJ7_copyOf_6403c 6 = .ok (.iload_n 1, 1) := by decide +kernel
theorem dJ7_copyOf_6403c_7 : decode cJ7_copyOf_6403c 7 = .ok (.anewarray 2, 3) := by decide +kernel
theorem dJ7_copyOf_6403c_10 : decode cJ7_copyOf_6403c 10 = .ok (.goto 14, 3) := by decide +kernel
theorem dJ7_copyOf_6403c_13 : decode cJ7_copyOf_6403c 13 = .ok (.aload_n 2, 1) := by decide +kernel
theorem dJ7_copyOf_6403c_14 : decode cJ7_copyOf_6403c 14 = .ok (.invokevirtual 90, 3) := by decide +kernel
theorem dJ7_copyOf_6403c_17 : decode cJ7_copyOf_6403c 17 = .ok (.iload_n 1, 1) := by decide +kernel
theorem dJ7_copyOf_6403c_18 : decode cJ7_copyOf_6403c 18 = .ok (.invokestatic 95, 3) := by decide +kernel
theorem dJ7_copyOf_6403c_21 : decode cJ7_copyOf_6403c 21 = .ok (.checkcast 110, 3) := by decide +kernel
theorem dJ7_copyOf_6403c_24 : decode cJ7_copyOf_6403c 24 = .ok (.astore_n 3, 1) := by decide +kernel
theorem dJ7_copyOf_6403c_25 : decode cJ7_copyOf_6403c 25 = .ok (.aload_n 0, 1) := by decide +kernel
theorem dJ7_copyOf_6403c_26 : decode cJ7_copyOf_6403c 26 = .ok (.iconst 0, 1) := by decide +kernel
theorem dJ7_copyOf_6403c_27 : decode cJ7_copyOf_6403c 27 = .ok (.aload_n 3, 1) := by decide +kernel
theorem dJ7_copyOf_6403c_28 : decode cJ7_copyOf_6403c 28 = .ok (.iconst 0, 1) := by decide +kernel
theorem dJ7_copyOf_6403c_29 : decode cJ7_copyOf_6403c 29 = .ok (.aload_n 0, 1) := by decide +kernel
theorem dJ7_copyOf_6403c_30 : decode cJ7_copyOf_6403c 30 = .ok (.arraylength, 1) := by decide +kernel
theorem dJ7_copyOf_6403c_31 : decode cJ7_copyOf_6403c 31 = .ok (.iload_n 1, 1) := by decide +kernel
theorem dJ7_copyOf_6403c_32 : decode cJ7_copyOf_6403c 32 = .ok (.invokestatic 304, 3) := by decide +kernel
theorem dJ7_copyOf_6403c_35 : decode cJ7_copyOf_6403c 35 = .ok (.invokestatic 150, 3) := by decide +kernel
theorem dJ7_copyOf_6403c_38 : decode cJ7_copyOf_6403c 38 = .ok (.aload_n 3, 1) := by decide +kernel
theorem dJ7_copyOf_6403c_39 : decode cJ7_copyOf_6403c 39 = .ok (.areturn, 1) := by decide +kernel
set_option maxRecDepth 20000 in
theorem ggJ15_checkIndex_7cf53_J3_checkIndex_8e157 : GoodIn wsJ15_checkIndex_7cf53 wsJ3_checkIndex_8e157 := goodIn_r _ [4] (by decide +kernel) (by decide +kernel)
set_option maxRecDepth 20000 in
theorem gJ15_checkIndex_7cf53_J3_checkIndex_8e157 : GoodIn wsJ15_checkIndex_7cf53 (va_wsS RJ15 105 yJ3_checkIndex_8e157 wsJ3_checkIndex_8e157) := goodIn_app (goodIn_of _ (by decide +kernel)) ggJ15_checkIndex_7cf53_J3_checkIndex_8e157
theorem dJ15_checkIndex_7cf53_0 : decode cJ15_checkIndex_7cf53 0 = .ok (.iload_n 0, 1) := by decide +kernel
theorem dJ15_checkIndex_7cf53_1 : decode cJ15_checkIndex_7cf53 1 = .ok (.iload_n 1, 1) := by decide +kernel
theorem dJ15_checkIndex_7cf53_2 : decode cJ15_checkIndex_7cf53 2 = .ok (.aconst_null, 1) := by decide +kernel
theorem dJ15_checkIndex_7cf53_3 : decode cJ15_checkIndex_7cf53 3 = .ok (.invokestatic 105, 3) := by decide +kernel
theorem dJ15_checkIndex_7cf53_6 : decode cJ15_checkIndex_7cf53 6 = .ok (.ireturn, 1) := by decide +kernel
set_option maxRecDepth 20000 in
theorem ggJ8_newLength_cabcc_J8_hugeLength_7cf53 : GoodIn wsJ8_newLength_cabcc wsJ8_hugeLength_7cf53 := goodIn_r _ [9, 5] (by decide +kernel) (by decide +kernel)
set_option maxRecDepth 20000 in
theorem gJ8_newLength_cabcc_J8_hugeLength_7cf53 : GoodIn wsJ8_newLength_cabcc (va_wsS RJ8 201 yJ8_hugeLength_7cf53 wsJ8_hugeLength_7cf53) := goodIn_app (goodIn_of _ (by decide +kernel)) ggJ8_newLength_cabcc_J8_hugeLength_7cf53
theorem dJ8_newLength_cabcc_0 : decode cJ8_newLength_cabcc 0 = .ok (.iload_n 0, 1) := by decide +kernel
theorem dJ8_newLength_cabcc_1 : decode cJ8_newLength_cabcc 1 = .ok (.iload_n 1, 1) := by decide +kernel
theorem dJ8_newLength_cabcc_2 : decode cJ8_newLength_cabcc 2 = .ok (.iload_n 2, 1) := by decide +kernel
theorem dJ8_newLength_cabcc_3 : decode cJ8_newLength_cabcc 3 = .ok (.invokestatic 194, 3) := by decide +kernel
theorem dJ8_newLength_cabcc_6 : decode cJ8_newLength_cabcc 6 = .ok (.iadd, 1) := by decide +kernel
theorem dJ8_newLength_cabcc_7 : decode cJ8_newLength_cabcc 7 = .ok (.istore_n 3, 1) := by decide +kernel
theorem dJ8_newLength_cabcc_8 : decode cJ8_newLength_cabcc 8 = .ok (.iconst 0, 1) := by decide +kernel
theorem dJ8_newLength_cabcc_9 : decode cJ8_newLength_cabcc 9 = .ok (.iload_n 3, 1) := by decide +kernel
theorem dJ8_newLength_cabcc_10 : decode cJ8_newLength_cabcc 10 = .ok (.if_icmp .ge 11, 3) := by decide +kernel
theorem dJ8_newLength_cabcc_13 : decode cJ8_newLength_cabcc 13 = .ok (.iload_n 3, 1) := by decide +kernel
theorem dJ8_newLength_cabcc_14 : decode cJ8_newLength_cabcc 14 = .ok (.ldc 200, 2) := by decide +kernel
theorem dJ8_newLength_cabcc_16 : decode cJ8_newLength_cabcc 16 = .ok (.if_icmp .gt 5, 3) := by decide +kernel
theorem dJ8_newLength_cabcc_19 : decode cJ8_newLength_cabcc 19 = .ok (.iload_n 3, 1) := by decide +kernel
theorem dJ8_newLength_cabcc_20 : decode cJ8_newLength_cabcc 20 = .ok (.ireturn, 1) := by decide +kernel
theorem dJ8_newLength_cabcc_21 : decode cJ8_newLength_cabcc 21 = .ok (.iload_n 0, 1) := by decide +kernel
theorem dJ8_newLength_cabcc_22 : decode cJ8_newLength_cabcc 22 = .ok (.iload_n 1, 1) := by decide +kernel
theorem dJ8_newLength_cabcc_23 : decode cJ8_newLength_cabcc 23 = .ok (.invokestatic 201, 3) := by decide +kernel
theorem dJ8_newLength_cabcc_26 : decode cJ8_newLength_cabcc 26 = .ok (.ireturn, 1) := by decide +kernel
theorem dJ3_checkIndex_8e157_0 : decode cJ3_checkIndex_8e157 0 = .ok (.iload_n 0, 1) := by decide +kernel
theorem dJ3_checkIndex_8e157_1 : decode cJ3_checkIndex_8e157 1 = .ok (.ifCond .lt 8, 3) := by decide +kernel
theorem dJ3_checkIndex_8e157_4 : decode cJ3_checkIndex_8e157 4 = .ok (.iload_n 0, 1) := by decide +kernel
theorem dJ3_checkIndex_8e157_5 : decode cJ3_checkIndex_8e157 5 = .ok (.iload_n 1, 1) := by decide +kernel
theorem dJ3_checkIndex_8e157_6 : decode cJ3_checkIndex_8e157 6 = .ok (.if_icmp .lt 10, 3) := by decide +kernel
theorem dJ3_checkIndex_8e157_9 : decode cJ3_checkIndex_8e157 9 = .ok (.aload_n 2, 1) := by decide +kernel
theorem dJ3_checkIndex_8e157_10 : decode cJ3_checkIndex_8e157 10 = .ok (.iload_n 0, 1) := by decide +kernel
theorem dJ3_checkIndex_8e157_11 : decode cJ3_checkIndex_8e157 11 = .ok (.iload_n 1, 1) := by decide +kernel
theorem dJ3_checkIndex_8e157_12 : decode cJ3_checkIndex_8e157 12 = .ok (.invokestatic 95, 3) := by decide +kernel
theorem dJ3_checkIndex_8e157_15 : decode cJ3_checkIndex_8e157 15 = .ok (.athrow, 1) := by decide +kernel
theorem dJ3_checkIndex_8e157_16 : decode cJ3_checkIndex_8e157 16 = .ok (.iload_n 0, 1) := by decide +kernel
theorem dJ3_checkIndex_8e157_17 : decode cJ3_checkIndex_8e157 17 = .ok (.ireturn, 1) := by decide +kernel
set_option maxRecDepth 20000 in
theorem ggL_pass_X6_pass : GoodIn wsL_pass wsX6_pass := goodIn_ca (goodIn_ca (goodIn_r _ [7, 8, 9, 10, 11, 12, 13, 14, 15, 16, 17, 18, 19, 20] (by decide +kernel) (by decide +kernel)) (goodIn_sub (fun _ h => List.mem_cons_of_mem _ (List.mem_append_left _ (List.mem_append_right _ h))) (by decide +kernel))) (goodIn_sub (fun _ h => List.mem_cons_of_mem _ (List.mem_append_right _ h)) (by decide +kernel))
set_option maxRecDepth 20000 in
theorem gL_pass_X6_pass : GoodIn wsL_pass (wsV RL 7 RX6 yX6_pass wsX6_pass) := goodIn_app (goodIn_of _ (by decide +kernel)) ggL_pass_X6_pass
theorem dL_pass_0 : decode cL_pass 0 = .ok (.aload_n 2, 1) := by decide +kernel
theorem dL_pass_1 : decode cL_pass 1 = .ok (.iconst 0, 1) := by decide +kernel
theorem dL_pass_2 : decode cL_pass 2 = .ok (.aload_n 0, 1) := by decide +kernel
theorem dL_pass_3 : decode cL_pass 3 = .ok (.iload_n 1, 1) := by decide +kernel
theorem dL_pass_4 : decode cL_pass 4 = .ok (.invokevirtual 7, 3) := by decide +kernel
theorem dL_pass_7 : decode cL_pass 7 = .ok (.i2l, 1) := by decide +kernel
theorem dL_pass_8 : decode cL_pass 8 = .ok (.lastore, 1) := by decide +kernel
theorem dL_pass_9 : decode cL_pass 9 = .ok (.goto 9, 3) := by decide +kernel
theorem dL_pass_12 : decode cL_pass 12 = .ok (.astore_n 3, 1) := by decide +kernel
theorem dL_pass_13 : decode cL_pass 13 = .ok (.iconst 1, 1) := by decide +kernel
theorem dL_pass_14 : decode cL_pass 14 = .ok (.ireturn, 1) := by decide +kernel
theorem dL_pass_15 : decode cL_pass 15 = .ok (.astore_n 3, 1) := by decide +kernel
theorem dL_pass_16 : decode cL_pass 16 = .ok (.iconst 2, 1) := by decide +kernel
theorem dL_pass_17 : decode cL_pass 17 = .ok (.ireturn, 1) := by decide +kernel
theorem dL_pass_18 : decode cL_pass 18 = .ok (.iconst 0, 1) := by decide +kernel
theorem dL_pass_19 : decode cL_pass 19 = .ok (.ireturn, 1) := by decide +kernel
set_option maxRecDepth 20000 in
theorem ggL_act_X6_act : GoodIn wsL_act wsX6_act := goodIn_ca (goodIn_r _ [6, 7, 8, 9, 10, 11, 12, 13, 14, 15, 16, 17, 18, 19] (by decide +kernel) (by decide +kernel)) (goodIn_sub (fun _ h => List.mem_cons_of_mem _ (List.mem_append_right _ h)) (by decide +kernel))
set_option maxRecDepth 20000 in
theorem gL_act_X6_act : GoodIn wsL_act (wsV RL 17 RX6 yX6_act wsX6_act) := goodIn_app (goodIn_of _ (by decide +kernel)) ggL_act_X6_act
theorem dL_act_0 : decode cL_act 0 = .ok (.aload_n 1, 1) := by decide +kernel
theorem dL_act_1 : decode cL_act 1 = .ok (.iconst 0, 1) := by decide +kernel
theorem dL_act_2 : decode cL_act 2 = .ok (.aload_n 0, 1) := by decide +kernel
theorem dL_act_3 : decode cL_act 3 = .ok (.invokevirtual 17, 3) := by decide +kernel
theorem dL_act_6 : decode cL_act 6 = .ok (.i2l, 1) := by decide +kernel
theorem dL_act_7 : decode cL_act 7 = .ok (.lastore, 1) := by decide +kernel
theorem dL_act_8 : decode cL_act 8 = .ok (.goto 6, 3) := by decide +kernel
theorem dL_act_11 : decode cL_act 11 = .ok (.astore_n 2, 1) := by decide +kernel
theorem dL_act_12 : decode cL_act 12 = .ok (.iconst 1, 1) := by decide +kernel
theorem dL_act_13 : decode cL_act 13 = .ok (.ireturn, 1) := by decide +kernel
theorem dL_act_14 : decode cL_act 14 = .ok (.iconst 0, 1) := by decide +kernel
theorem dL_act_15 : decode cL_act 15 = .ok (.ireturn, 1) := by decide +kernel
set_option maxRecDepth 20000 in
theorem ggL_terms_X6_terms : GoodIn wsL_terms wsX6_terms := goodIn_ca (goodIn_ca (goodIn_r _ [7, 8, 9, 10, 11, 12, 13, 14, 15, 16, 17, 6, 18, 19, 20, 21, 22, 23, 24, 25, 26, 27, 28, 29, 30, 31, 32, 33, 34, 35, 36, 37, 38, 39, 40, 41, 42, 43, 44, 45, 46, 47, 48, 49, 50, 51, 52, 53, 54, 55, 56, 57, 58, 59, 60, 61, 62, 63, 64, 65, 66, 67, 68, 69, 70, 71, 72, 73, 74, 75, 76, 77, 78, 79, 80, 81, 82, 83, 84, 85, 86] (by decide +kernel) (by decide +kernel)) (goodIn_sub (fun _ h => List.mem_cons_of_mem _ (List.mem_append_left _ (List.mem_append_right _ h))) (by decide +kernel))) (goodIn_sub (fun _ h => List.mem_cons_of_mem _ (List.mem_append_right _ h)) (by decide +kernel))
set_option maxRecDepth 20000 in
theorem gL_terms_X6_terms : GoodIn wsL_terms (wsV RL 21 RX6 yX6_terms wsX6_terms) := goodIn_app (goodIn_of _ (by decide +kernel)) ggL_terms_X6_terms
theorem dL_terms_0 : decode cL_terms 0 = .ok (.aload_n 0, 1) := by decide +kernel
theorem dL_terms_1 : decode cL_terms 1 = .ok (.iload_n 1, 1) := by decide +kernel
theorem dL_terms_2 : decode cL_terms 2 = .ok (.iload_n 2, 1) := by decide +kernel
theorem dL_terms_3 : decode cL_terms 3 = .ok (.iload_n 3, 1) := by decide +kernel
theorem dL_terms_4 : decode cL_terms 4 = .ok (.iload 4, 2) := by decide +kernel
theorem dL_terms_6 : decode cL_terms 6 = .ok (.invokevirtual 21, 3) := by decide +kernel
theorem dL_terms_9 : decode cL_terms 9 = .ok (.goto 11, 3) := by decide +kernel
theorem dL_terms_12 : decode cL_terms 12 = .ok (.astore 5, 2) := by decide +kernel
theorem dL_terms_14 : decode cL_terms 14 = .ok (.iconst 1, 1) := by decide +kernel
theorem dL_terms_15 : decode cL_terms 15 = .ok (.ireturn, 1) := by decide +kernel
theorem dL_terms_16 : decode cL_terms 16 = .ok (.astore 5, 2) := by decide +kernel
theorem dL_terms_18 : decode cL_terms 18 = .ok (.iconst 2, 1) := by decide +kernel
theorem dL_terms_19 : decode cL_terms 19 = .ok (.ireturn, 1) := by decide +kernel
theorem dL_terms_20 : decode cL_terms 20 = .ok (.iconst 0, 1) := by decide +kernel
theorem dL_terms_21 : decode cL_terms 21 = .ok (.ireturn, 1) := by decide +kernel
set_option maxRecDepth 20000 in
theorem ggL_word_X6_word : GoodIn wsL_word wsX6_word := goodIn_ca (goodIn_ca (goodIn_r _ [7, 8, 9, 10, 11, 12, 13, 14, 15, 16, 17, 18, 19, 20, 21, 22, 23, 24, 25, 26, 27, 28, 29, 30, 31, 32, 33, 34, 35, 36, 37, 38, 39, 40, 41, 42, 43, 44, 45] (by decide +kernel) (by decide +kernel)) (goodIn_sub (fun _ h => List.mem_cons_of_mem _ (List.mem_append_left _ (List.mem_append_right _ h))) (by decide +kernel))) (goodIn_sub (fun _ h => List.mem_cons_of_mem _ (List.mem_append_right _ h)) (by decide +kernel))
set_option maxRecDepth 20000 in
theorem gL_word_X6_word : GoodIn wsL_word (wsV RL 27 RX6 yX6_word wsX6_word) := goodIn_app (goodIn_of _ (by decide +kernel)) ggL_word_X6_word
theorem dL_word_0 : decode cL_word 0 = .ok (.aload_n 3, 1) := by decide +kernel
theorem dL_word_1 : decode cL_word 1 = .ok (.iconst 0, 1) := by decide +kernel
theorem dL_word_2 : decode cL_word 2 = .ok (.aload_n 0, 1) := by decide +kernel
theorem dL_word_3 : decode cL_word 3 = .ok (.iload_n 1, 1) := by decide +kernel
theorem dL_word_4 : decode cL_word 4 = .ok (.iload_n 2, 1) := by decide +kernel
theorem dL_word_5 : decode cL_word 5 = .ok (.invokevirtual 27, 3) := by decide +kernel
theorem dL_word_8 : decode cL_word 8 = .ok (.i2l, 1) := by decide +kernel
theorem dL_word_9 : decode cL_word 9 = .ok (.lastore, 1) := by decide +kernel
theorem dL_word_10 : decode cL_word 10 = .ok (.goto 11, 3) := by decide +kernel
theorem dL_word_13 : decode cL_word 13 = .ok (.astore 4, 2) := by decide +kernel
theorem dL_word_15 : decode cL_word 15 = .ok (.iconst 1, 1) := by decide +kernel
theorem dL_word_16 : decode cL_word 16 = .ok (.ireturn, 1) := by decide +kernel
theorem dL_word_17 : decode cL_word 17 = .ok (.astore 4, 2) := by decide +kernel
theorem dL_word_19 : decode cL_word 19 = .ok (.iconst 2, 1) := by decide +kernel
theorem dL_word_20 : decode cL_word 20 = .ok (.ireturn, 1) := by decide +kernel
theorem dL_word_21 : decode cL_word 21 = .ok (.iconst 0, 1) := by decide +kernel
theorem dL_word_22 : decode cL_word 22 = .ok (.ireturn, 1) := by decide +kernel
set_option maxRecDepth 20000 in
theorem ggL_enact_X6_enact : GoodIn wsL_enact wsX6_enact := goodIn_ca (goodIn_ca (goodIn_ca (goodIn_r _ [8, 9, 10, 11, 12, 13, 14, 15, 16, 17, 18, 19, 20, 21, 7, 22, 23, 24, 25, 26, 27, 28, 29, 30, 31, 32, 33, 34, 35, 36, 37, 38, 39, 40, 41, 42, 43, 44, 45, 46, 47, 48, 49, 50, 51, 52, 53, 54, 55, 56, 57, 58, 59, 60, 61, 62, 63, 64, 65, 66, 67, 68, 69, 70, 71, 72, 73, 74, 75, 76, 77, 78, 79, 80, 81, 82, 83, 84, 85, 86, 87, 88, 89, 90, 91, 92, 93, 94, 95, 96, 97, 98, 99, 100, 101, 102, 103, 104, 105, 106, 107, 108, 109, 110, 111, 112, 113, 114, 115, 116, 117, 118, 119, 120, 121, 122, 123, 124, 125, 126, 127, 128, 129, 130, 131, 132, 133, 134, 135, 136, 137, 138, 139, 140, 141, 142, 143, 144, 145, 146, 147, 148, 149, 150, 151, 152, 153, 154, 155, 156, 157, 158, 159, 160, 161, 162, 163, 164, 165, 166, 167, 168, 169, 170, 171, 172, 173, 174, 175, 176, 177, 178, 179, 180, 181, 182, 183, 184, 185, 186, 187, 188, 189, 190, 191, 192, 193, 194, 195, 196, 197, 198, 199, 200, 201, 202, 203, 204, 205, 206, 207, 208, 209, 210, 211, 212, 213, 214, 215, 216, 217, 218, 219, 220, 221, 222, 223, 224, 225, 226, 227, 228, 229, 230, 231, 232, 233, 234, 235, 236, 237, 238, 239, 240, 241, 242, 243, 244, 245, 246, 247, 248, 249, 250, 251, 252, 253, 254, 255, 256, 257, 258, 259, 260, 261, 262, 263, 264, 265, 266, 267, 268, 269, 270, 271, 272, 273, 274, 275, 276, 277, 278, 279, 280, 281, 282, 283, 284, 285, 286, 287, 288, 289, 290, 291, 292, 293, 294, 295, 296, 297, 298, 299, 300, 301, 302, 303, 304, 305, 306, 307, 308, 309, 310, 311, 312, 313, 314, 315, 316, 317, 318, 319, 320, 321, 322, 323, 324, 325, 326, 327, 328, 329, 330, 331, 332, 333, 334, 335, 336, 337, 338, 339, 340, 341, 342, 343, 344, 345, 346, 347, 348, 349, 350, 351, 352, 353, 354, 355, 356, 357, 358, 359, 360, 361, 362, 363, 364, 365, 366, 367, 368, 369, 370, 371, 372, 373, 374, 375, 376, 377, 378, 379, 380, 381, 382, 383, 384, 385, 386, 387, 388, 389, 390, 391, 392, 393, 394, 395, 396, 397, 398, 399, 400, 401, 402, 403, 404, 405, 406, 407] (by decide +kernel) (by decide +kernel)) (goodIn_sub (fun _ h => List.mem_cons_of_mem _ (List.mem_append_left _ (List.mem_append_left _ (List.mem_append_right _ h)))) (by decide +kernel))) (goodIn_sub (fun _ h => List.mem_cons_of_mem _ (List.mem_append_left _ (List.mem_append_right _ h))) (by decide +kernel))) (goodIn_sub (fun _ h => List.mem_cons_of_mem _ (List.mem_append_right _ h)) (by decide +kernel))
set_option maxRecDepth 20000 in
theorem gL_enact_X6_enact : GoodIn wsL_enact (wsV RL 31 RX6 yX6_enact wsX6_enact) := goodIn_app (goodIn_of _ (by decide +kernel)) ggL_enact_X6_enact
theorem dL_enact_0 : decode cL_enact 0 = .ok (.aload 4, 2) := by decide +kernel
theorem dL_enact_2 : decode cL_enact 2 = .ok (.iconst 0, 1) := by decide +kernel
theorem dL_enact_3 : decode cL_enact 3 = .ok (.aload_n 0, 1) := by decide +kernel
theorem dL_enact_4 : decode cL_enact 4 = .ok (.iload_n 1, 1) := by decide +kernel
theorem dL_enact_5 : decode cL_enact 5 = .ok (.iload_n 2, 1) := by decide +kernel
theorem dL_enact_6 : decode cL_enact 6 = .ok (.iload_n 3, 1) := by decide +kernel
theorem dL_enact_7 : decode cL_enact 7 = .ok (.invokevirtual 31, 3) := by decide +kernel
theorem dL_enact_10 : decode cL_enact 10 = .ok (.i2l, 1) := by decide +kernel
theorem dL_enact_11 : decode cL_enact 11 = .ok (.lastore, 1) := by decide +kernel
theorem dL_enact_12 : decode cL_enact 12 = .ok (.goto 15, 3) := by decide +kernel
theorem dL_enact_15 : decode cL_enact 15 = .ok (.astore 5, 2) := by decide +kernel
theorem dL_enact_17 : decode cL_enact 17 = .ok (.iconst 1, 1) := by decide +kernel
theorem dL_enact_18 : decode cL_enact 18 = .ok (.ireturn, 1) := by decide +kernel
theorem dL_enact_19 : decode cL_enact 19 = .ok (.astore 5, 2) := by decide +kernel
theorem dL_enact_21 : decode cL_enact 21 = .ok (.iconst 2, 1) := by decide +kernel
theorem dL_enact_22 : decode cL_enact 22 = .ok (.ireturn, 1) := by decide +kernel
theorem dL_enact_23 : decode cL_enact 23 = .ok (.astore 5, 2) := by decide +kernel
theorem dL_enact_25 : decode cL_enact 25 = .ok (.iconst 3, 1) := by decide +kernel
theorem dL_enact_26 : decode cL_enact 26 = .ok (.ireturn, 1) := by decide +kernel
theorem dL_enact_27 : decode cL_enact 27 = .ok (.iconst 0, 1) := by decide +kernel
theorem dL_enact_28 : decode cL_enact 28 = .ok (.ireturn, 1) := by decide +kernel
set_option maxRecDepth 20000 in
theorem ggL_instruct_X6_instruct : GoodIn wsL_instruct wsX6_instruct := goodIn_ca (goodIn_ca (goodIn_ca (goodIn_r _ [8, 9, 10, 11, 12, 13, 14, 15, 16, 17, 18, 19, 20, 7, 21, 22, 23, 24, 25, 26, 27, 28, 29, 30, 31, 32, 33, 34, 35, 36, 37, 38, 39, 40, 41, 42, 43, 44, 45, 46, 47, 48, 49, 50, 51, 52, 53, 54, 55, 56, 57, 58, 59, 60, 61, 62, 63, 64, 65, 66, 67, 68, 69, 70, 71, 72, 73, 74, 75, 76, 77, 78, 79, 80, 81, 82, 83, 84, 85, 86, 87, 88, 89, 90, 91, 92, 93, 94, 95, 96, 97, 98, 99, 100, 101, 102, 103, 104, 105, 106, 107, 108, 109, 110, 111, 112, 113, 114, 115, 116, 117, 118, 119, 120, 121, 122, 123, 124, 125, 126, 127, 128, 129, 130, 131, 132, 133, 134, 135, 136, 137, 138, 139, 140, 141, 142, 143, 144, 145, 146, 147, 148, 149, 150, 151, 152, 153, 154, 155, 156, 157, 158, 159, 160, 161, 162, 163, 164, 165, 166, 167, 168, 169, 170, 171, 172, 173, 174, 175, 176, 177, 178, 179, 180, 181, 182, 183, 184, 185, 186, 187, 188, 189, 190, 191, 192, 193, 194, 195, 196, 197, 198, 199, 200, 201, 202, 203, 204, 205, 206, 207, 208, 209, 210, 211, 212, 213, 214, 215, 216, 217, 218, 219, 220, 221, 222, 223, 224, 225, 226, 227, 228, 229, 230, 231, 232, 233, 234, 235, 236, 237, 238, 239, 240, 241, 242, 243, 244, 245, 246, 247, 248, 249, 250, 251, 252, 253, 254, 255, 256, 257, 258, 259, 260, 261, 262, 263, 264, 265, 266, 267, 268, 269, 270, 271, 272, 273, 274, 275, 276, 277, 278, 279, 280, 281, 282, 283, 284, 285, 286, 287, 288, 289, 290, 291, 292, 293, 294, 295, 296, 297, 298, 299, 300, 301, 302, 303, 304, 305, 306, 307, 308, 309, 310, 311, 312, 313, 314, 315, 316, 317, 318, 319, 320, 321, 322, 323, 324, 325, 326, 327, 328, 329, 330, 331, 332, 333, 334, 335, 336, 337, 338, 339, 340, 341, 342, 343, 344, 345, 346, 347, 348, 349, 350, 351, 352, 353, 354, 355, 356, 357, 358, 359, 360, 361, 362, 363, 364, 365, 366, 367, 368, 369, 370, 371, 372, 373, 374, 375, 376, 377, 378, 379, 380, 381, 382, 383, 384, 385, 386, 387, 388, 389, 390, 391, 392, 393, 394, 395, 396, 397, 398, 399, 400, 401, 402, 403, 404, 405, 406, 407, 408, 409, 410, 411, 412, 413, 414, 415, 416] (by decide +kernel) (by decide +kernel)) (goodIn_sub (fun _ h => List.mem_cons_of_mem _ (List.mem_append_left _ (List.mem_append_left _ (List.mem_append_right _ h)))) (by decide +kernel))) (goodIn_sub (fun _ h => List.mem_cons_of_mem _ (List.mem_append_left _ (List.mem_append_right _ h))) (by decide +kernel))) (goodIn_sub (fun _ h => List.mem_cons_of_mem _ (List.mem_append_right _ h)) (by decide +kernel))
set_option maxRecDepth 20000 in
theorem gL_instruct_X6_instruct : GoodIn wsL_instruct (wsV RL 35 RX6 yX6_instruct wsX6_instruct) := goodIn_app (goodIn_of _ (by decide +kernel)) ggL_instruct_X6_instruct
theorem dL_instruct_0 : decode cL_instruct 0 = .ok (.aload 5, 2) := by decide +kernel
theorem dL_instruct_2 : decode cL_instruct 2 = .ok (.iconst 0, 1) := by decide +kernel
theorem dL_instruct_3 : decode cL_instruct 3 = .ok (.aload_n 0, 1) := by decide +kernel
theorem dL_instruct_4 : decode cL_instruct 4 = .ok (.iload_n 1, 1) := by decide +kernel
theorem dL_instruct_5 : decode cL_instruct 5 = .ok (.iload_n 2, 1) := by decide +kernel
theorem dL_instruct_6 : decode cL_instruct 6 = .ok (.iload_n 3, 1) := by decide +kernel
theorem dL_instruct_7 : decode cL_instruct 7 = .ok (.iload 4, 2) := by decide +kernel
theorem dL_instruct_9 : decode cL_instruct 9 = .ok (.invokevirtual 35, 3) := by decide +kernel
theorem dL_instruct_12 : decode cL_instruct 12 = .ok (.i2l, 1) := by decide +kernel
theorem dL_instruct_13 : decode cL_instruct 13 = .ok (.lastore, 1) := by decide +kernel
theorem dL_instruct_14 : decode cL_instruct 14 = .ok (.goto 15, 3) := by decide +kernel
theorem dL_instruct_17 : decode cL_instruct 17 = .ok (.astore 6, 2) := by decide +kernel
theorem dL_instruct_19 : decode cL_instruct 19 = .ok (.iconst 1, 1) := by decide +kernel
theorem dL_instruct_20 : decode cL_instruct 20 = .ok (.ireturn, 1) := by decide +kernel
theorem dL_instruct_21 : decode cL_instruct 21 = .ok (.astore 6, 2) := by decide +kernel
theorem dL_instruct_23 : decode cL_instruct 23 = .ok (.iconst 2, 1) := by decide +kernel
theorem dL_instruct_24 : decode cL_instruct 24 = .ok (.ireturn, 1) := by decide +kernel
theorem dL_instruct_25 : decode cL_instruct 25 = .ok (.astore 6, 2) := by decide +kernel
theorem dL_instruct_27 : decode cL_instruct 27 = .ok (.iconst 3, 1) := by decide +kernel
theorem dL_instruct_28 : decode cL_instruct 28 = .ok (.ireturn, 1) := by decide +kernel
theorem dL_instruct_29 : decode cL_instruct 29 = .ok (.iconst 0, 1) := by decide +kernel
theorem dL_instruct_30 : decode cL_instruct 30 = .ok (.ireturn, 1) := by decide +kernel
set_option maxRecDepth 20000 in
theorem ggL_order_X6_order : GoodIn wsL_order wsX6_order := goodIn_ca (goodIn_ca (goodIn_ca (goodIn_r _ [8, 9, 10, 11, 12, 13, 14, 15, 16, 17, 18, 19, 7, 20, 21, 22, 23, 24, 25, 26, 27, 28, 29, 30, 31, 32, 33, 34, 35, 36, 37, 38, 39, 40, 41, 42, 43, 44, 45, 46, 47, 48, 49, 50, 51, 52, 53, 54, 55, 56, 57, 58, 59, 60, 61, 62, 63, 64, 65, 66, 67, 68, 69, 70, 71, 72, 73, 74, 75, 76, 77, 78, 79, 80, 81, 82, 83, 84, 85, 86, 87, 88, 89, 90, 91, 92, 93, 94, 95, 96, 97, 98, 99, 100, 101, 102, 103, 104, 105, 106, 107, 108, 109, 110, 111, 112, 113, 114, 115, 116, 117, 118, 119, 120, 121, 122, 123, 124, 125, 126, 127, 128, 129, 130, 131, 132, 133, 134, 135, 136, 137, 138, 139, 140, 141, 142, 143, 144, 145, 146, 147, 148, 149, 150, 151, 152, 153, 154, 155, 156, 157, 158, 159, 160, 161, 162, 163, 164, 165, 166, 167, 168, 169, 170, 171, 172, 173, 174, 175, 176, 177, 178, 179, 180, 181, 182, 183, 184, 185, 186, 187, 188, 189, 190, 191, 192, 193, 194, 195, 196, 197, 198, 199, 200, 201, 202, 203, 204, 205, 206, 207, 208, 209, 210, 211, 212, 213, 214, 215, 216, 217, 218, 219, 220, 221, 222, 223, 224, 225, 226, 227, 228, 229, 230, 231, 232, 233, 234, 235, 236, 237, 238, 239, 240, 241, 242, 243, 244, 245, 246, 247, 248, 249, 250, 251, 252, 253, 254, 255, 256, 257, 258, 259, 260, 261, 262, 263, 264, 265, 266, 267, 268, 269, 270, 271, 272, 273, 274, 275, 276, 277, 278, 279, 280, 281, 282, 283, 284, 285, 286, 287, 288, 289, 290, 291, 292, 293, 294, 295, 296, 297, 298, 299, 300, 301, 302, 303, 304, 305, 306, 307, 308, 309, 310, 311, 312, 313, 314, 315, 316, 317, 318, 319, 320, 321, 322, 323, 324, 325, 326, 327, 328, 329, 330, 331, 332, 333, 334, 335, 336, 337, 338, 339, 340, 341, 342, 343, 344] (by decide +kernel) (by decide +kernel)) (goodIn_sub (fun _ h => List.mem_cons_of_mem _ (List.mem_append_left _ (List.mem_append_left _ (List.mem_append_right _ h)))) (by decide +kernel))) (goodIn_sub (fun _ h => List.mem_cons_of_mem _ (List.mem_append_left _ (List.mem_append_right _ h))) (by decide +kernel))) (goodIn_sub (fun _ h => List.mem_cons_of_mem _ (List.mem_append_right _ h)) (by decide +kernel))
set_option maxRecDepth 20000 in
theorem gL_order_X6_order : GoodIn wsL_order (wsV RL 39 RX6 yX6_order wsX6_order) := goodIn_app (goodIn_of _ (by decide +kernel)) ggL_order_X6_order
theorem dL_order_0 : decode cL_order 0 = .ok (.aload_n 0, 1) := by decide +kernel
theorem dL_order_1 : decode cL_order 1 = .ok (.iload_n 1, 1) := by decide +kernel
theorem dL_order_2 : decode cL_order 2 = .ok (.iload_n 2, 1) := by decide +kernel
theorem dL_order_3 : decode cL_order 3 = .ok (.invokevirtual 39, 3) := by decide +kernel
theorem dL_order_6 : decode cL_order 6 = .ok (.goto 12, 3) := by decide +kernel
theorem dL_order_9 : decode cL_order 9 = .ok (.astore_n 3, 1) := by decide +kernel
theorem dL_order_10 : decode cL_order 10 = .ok (.iconst 1, 1) := by decide +kernel
theorem dL_order_11 : decode cL_order 11 = .ok (.ireturn, 1) := by decide +kernel
theorem dL_order_12 : decode cL_order 12 = .ok (.astore_n 3, 1) := by decide +kernel
theorem dL_order_13 : decode cL_order 13 = .ok (.iconst 2, 1) := by decide +kernel
theorem dL_order_14 : decode cL_order 14 = .ok (.ireturn, 1) := by decide +kernel
theorem dL_order_15 : decode cL_order 15 = .ok (.astore_n 3, 1) := by decide +kernel
theorem dL_order_16 : decode cL_order 16 = .ok (.iconst 3, 1) := by decide +kernel
theorem dL_order_17 : decode cL_order 17 = .ok (.ireturn, 1) := by decide +kernel
theorem dL_order_18 : decode cL_order 18 = .ok (.iconst 0, 1) := by decide +kernel
theorem dL_order_19 : decode cL_order 19 = .ok (.ireturn, 1) := by decide +kernel
set_option maxRecDepth 20000 in
theorem ggL_strike_X6_strike : GoodIn wsL_strike wsX6_strike := goodIn_ca (goodIn_ca (goodIn_ca (goodIn_r _ [8, 9, 10, 11, 12, 13, 14, 15, 16, 17, 7, 18, 19, 20, 21, 22, 23, 24, 25, 26, 27, 28, 29, 30, 31, 32, 33, 34, 35, 36, 37, 38, 39, 40, 41, 42, 43, 44, 45, 46, 47, 48, 49, 50, 51, 52, 53, 54, 55, 56, 57, 58, 59, 60, 61, 62, 63, 64, 65, 66, 67, 68, 69, 70, 71, 72, 73, 74, 75, 76, 77, 78, 79, 80, 81, 82, 83, 84, 85, 86, 87, 88, 89, 90, 91, 92, 93, 94, 95, 96, 97, 98, 99, 100, 101, 102, 103, 104, 105, 106, 107, 108, 109, 110, 111, 112, 113, 114, 115, 116, 117, 118, 119, 120, 121, 122, 123, 124, 125, 126, 127, 128, 129, 130, 131, 132, 133, 134, 135, 136, 137, 138, 139, 140, 141, 142, 143, 144, 145, 146, 147, 148, 149, 150, 151, 152, 153, 154, 155, 156, 157, 158, 159, 160, 161, 162, 163, 164, 165, 166, 167, 168, 169, 170, 171, 172, 173, 174, 175, 176, 177, 178, 179, 180, 181, 182, 183, 184, 185, 186, 187, 188, 189, 190, 191, 192, 193, 194, 195, 196, 197, 198, 199, 200, 201, 202, 203, 204, 205, 206, 207, 208, 209, 210, 211, 212, 213, 214, 215, 216, 217, 218, 219, 220, 221, 222, 223, 224, 225, 226, 227, 228, 229, 230, 231, 232, 233, 234, 235, 236, 237, 238, 239, 240, 241, 242, 243, 244, 245, 246, 247, 248, 249, 250, 251, 252, 253, 254, 255, 256, 257, 258, 259, 260, 261, 262, 263, 264, 265, 266, 267, 268, 269, 270, 271, 272, 273, 274, 275, 276, 277, 278, 279, 280, 281, 282, 283, 284, 285, 286, 287, 288, 289, 290, 291, 292, 293, 294, 295, 296, 297, 298, 299, 300, 301, 302, 303, 304, 305, 306, 307, 308, 309, 310, 311, 312, 313, 314, 315, 316, 317, 318, 319, 320, 321, 322, 323, 324, 325, 326, 327, 328, 329, 330, 331, 332, 333, 334, 335, 336, 337, 338, 339, 340, 341, 342] (by decide +kernel) (by decide +kernel)) (goodIn_sub (fun _ h => List.mem_cons_of_mem _ (List.mem_append_left _ (List.mem_append_left _ (List.mem_append_right _ h)))) (by decide +kernel))) (goodIn_sub (fun _ h => List.mem_cons_of_mem _ (List.mem_append_left _ (List.mem_append_right _ h))) (by decide +kernel))) (goodIn_sub (fun _ h => List.mem_cons_of_mem _ (List.mem_append_right _ h)) (by decide +kernel))
set_option maxRecDepth 20000 in
theorem gL_strike_X6_strike : GoodIn wsL_strike (wsV RL 43 RX6 yX6_strike wsX6_strike) := goodIn_app (goodIn_of _ (by decide +kernel)) ggL_strike_X6_strike
theorem dL_strike_0 : decode cL_strike 0 = .ok (.aload_n 0, 1) := by decide +kernel
theorem dL_strike_1 : decode cL_strike 1 = .ok (.iload_n 1, 1) := by decide +kernel
theorem dL_strike_2 : decode cL_strike 2 = .ok (.iload_n 2, 1) := by decide +kernel
theorem dL_strike_3 : decode cL_strike 3 = .ok (.invokevirtual 43, 3) := by decide +kernel
theorem dL_strike_6 : decode cL_strike 6 = .ok (.goto 12, 3) := by decide +kernel
theorem dL_strike_9 : decode cL_strike 9 = .ok (.astore_n 3, 1) := by decide +kernel
theorem dL_strike_10 : decode cL_strike 10 = .ok (.iconst 1, 1) := by decide +kernel
theorem dL_strike_11 : decode cL_strike 11 = .ok (.ireturn, 1) := by decide +kernel
theorem dL_strike_12 : decode cL_strike 12 = .ok (.astore_n 3, 1) := by decide +kernel
theorem dL_strike_13 : decode cL_strike 13 = .ok (.iconst 2, 1) := by decide +kernel
theorem dL_strike_14 : decode cL_strike 14 = .ok (.ireturn, 1) := by decide +kernel
theorem dL_strike_15 : decode cL_strike 15 = .ok (.astore_n 3, 1) := by decide +kernel
theorem dL_strike_16 : decode cL_strike 16 = .ok (.iconst 3, 1) := by decide +kernel
theorem dL_strike_17 : decode cL_strike 17 = .ok (.ireturn, 1) := by decide +kernel
theorem dL_strike_18 : decode cL_strike 18 = .ok (.iconst 0, 1) := by decide +kernel
theorem dL_strike_19 : decode cL_strike 19 = .ok (.ireturn, 1) := by decide +kernel
set_option maxRecDepth 20000 in
theorem ggL_suspend_X6_suspend : GoodIn wsL_suspend wsX6_suspend := goodIn_ca (goodIn_ca (goodIn_ca (goodIn_r _ [8, 9, 10, 11, 12, 13, 14, 15, 16, 17, 18, 19, 7, 20, 21, 22, 23, 24, 25, 26, 27, 28, 29, 30, 31, 32, 33, 34, 35, 36, 37, 38, 39, 40, 41, 42, 43, 44, 45, 46, 47, 48, 49, 50, 51, 52, 53, 54, 55, 56, 57, 58, 59, 60, 61, 62, 63, 64, 65, 66, 67, 68, 69, 70, 71, 72, 73, 74, 75, 76, 77, 78, 79, 80, 81, 82, 83, 84, 85, 86, 87, 88, 89, 90, 91, 92, 93, 94, 95, 96, 97, 98, 99, 100, 101, 102, 103, 104, 105, 106, 107, 108, 109, 110, 111, 112, 113, 114, 115, 116, 117, 118, 119, 120, 121, 122, 123, 124, 125, 126, 127, 128, 129, 130, 131, 132, 133, 134, 135, 136, 137, 138, 139, 140, 141, 142, 143, 144, 145, 146, 147, 148, 149, 150, 151, 152, 153, 154, 155, 156, 157, 158, 159, 160, 161, 162, 163, 164, 165, 166, 167, 168, 169, 170, 171, 172, 173, 174, 175, 176, 177, 178, 179, 180, 181, 182, 183, 184, 185, 186, 187, 188, 189, 190, 191, 192, 193, 194, 195, 196, 197, 198, 199, 200, 201, 202, 203, 204, 205, 206, 207, 208, 209, 210, 211, 212, 213, 214, 215, 216, 217, 218, 219, 220, 221, 222, 223, 224, 225, 226, 227, 228, 229, 230, 231, 232, 233, 234, 235, 236, 237, 238, 239, 240, 241, 242, 243, 244, 245, 246, 247, 248, 249, 250, 251, 252, 253, 254, 255, 256, 257, 258, 259, 260, 261, 262, 263, 264, 265, 266, 267, 268, 269, 270, 271, 272, 273, 274, 275, 276, 277, 278, 279, 280, 281, 282, 283, 284, 285, 286, 287, 288, 289, 290, 291, 292, 293, 294, 295, 296, 297, 298, 299, 300, 301, 302, 303, 304, 305, 306, 307, 308, 309, 310, 311, 312, 313, 314, 315, 316, 317, 318, 319, 320, 321, 322, 323, 324, 325, 326, 327, 328, 329, 330, 331, 332, 333, 334, 335, 336, 337, 338, 339, 340, 341, 342] (by decide +kernel) (by decide +kernel)) (goodIn_sub (fun _ h => List.mem_cons_of_mem _ (List.mem_append_left _ (List.mem_append_left _ (List.mem_append_right _ h)))) (by decide +kernel))) (goodIn_sub (fun _ h => List.mem_cons_of_mem _ (List.mem_append_left _ (List.mem_append_right _ h))) (by decide +kernel))) (goodIn_sub (fun _ h => List.mem_cons_of_mem _ (List.mem_append_right _ h)) (by decide +kernel))
set_option maxRecDepth 20000 in
theorem gL_suspend_X6_suspend : GoodIn wsL_suspend (wsV RL 46 RX6 yX6_suspend wsX6_suspend) := goodIn_app (goodIn_of _ (by decide +kernel)) ggL_suspend_X6_suspend
theorem dL_suspend_0 : decode cL_suspend 0 = .ok (.aload_n 0, 1) := by decide +kernel
theorem dL_suspend_1 : decode cL_suspend 1 = .ok (.iload_n 1, 1) := by decide +kernel
theorem dL_suspend_2 : decode cL_suspend 2 = .ok (.iload_n 2, 1) := by decide +kernel
theorem dL_suspend_3 : decode cL_suspend 3 = .ok (.iload_n 3, 1) := by decide +kernel
theorem dL_suspend_4 : decode cL_suspend 4 = .ok (.invokevirtual 46, 3) := by decide +kernel
theorem dL_suspend_7 : decode cL_suspend 7 = .ok (.goto 15, 3) := by decide +kernel
theorem dL_suspend_10 : decode cL_suspend 10 = .ok (.astore 4, 2) := by decide +kernel
theorem dL_suspend_12 : decode cL_suspend 12 = .ok (.iconst 1, 1) := by decide +kernel
theorem dL_suspend_13 : decode cL_suspend 13 = .ok (.ireturn, 1) := by decide +kernel
theorem dL_suspend_14 : decode cL_suspend 14 = .ok (.astore 4, 2) := by decide +kernel
theorem dL_suspend_16 : decode cL_suspend 16 = .ok (.iconst 2, 1) := by decide +kernel
theorem dL_suspend_17 : decode cL_suspend 17 = .ok (.ireturn, 1) := by decide +kernel
theorem dL_suspend_18 : decode cL_suspend 18 = .ok (.astore 4, 2) := by decide +kernel
theorem dL_suspend_20 : decode cL_suspend 20 = .ok (.iconst 3, 1) := by decide +kernel
theorem dL_suspend_21 : decode cL_suspend 21 = .ok (.ireturn, 1) := by decide +kernel
theorem dL_suspend_22 : decode cL_suspend 22 = .ok (.iconst 0, 1) := by decide +kernel
theorem dL_suspend_23 : decode cL_suspend 23 = .ok (.ireturn, 1) := by decide +kernel
set_option maxRecDepth 20000 in
theorem ggL_look_X6_look : GoodIn wsL_look wsX6_look := goodIn_ca (goodIn_r _ [6, 7, 8, 9, 10, 11, 12, 13, 5, 14, 15, 16, 17, 18, 19, 20, 21, 22, 23, 24, 25, 26, 27, 28, 29, 30, 31, 32, 33, 34, 35, 36, 37, 38, 39, 40, 41, 42, 43, 44, 45, 46, 47, 48, 49, 50, 51, 52, 53, 54, 55, 56, 57, 58, 59, 60, 61, 62, 63, 64, 65, 66, 67, 68, 69, 70, 71, 72, 73, 74, 75, 76, 77, 78, 79, 80, 81, 82, 83, 84, 85, 86, 87, 88, 89, 90, 91, 92, 93, 94, 95, 96, 97, 98, 99, 100, 101, 102, 103, 104, 105, 106, 107, 108, 109, 110, 111, 112, 113, 114, 115, 116, 117, 118, 119, 120, 121, 122, 123, 124, 125, 126, 127, 128, 129, 130, 131, 132, 133, 134, 135, 136, 137, 138, 139, 140, 141, 142, 143, 144, 145, 146, 147, 148, 149, 150, 151, 152, 153, 154, 155, 156, 157, 158, 159, 160, 161, 162, 163, 164, 165, 166, 167, 168, 169, 170, 171, 172, 173, 174, 175, 176, 177, 178, 179, 180, 181, 182, 183, 184, 185, 186, 187, 188, 189, 190, 191, 192, 193, 194, 195, 196, 197, 198, 199, 200, 201, 202, 203, 204, 205, 206, 207, 208, 209, 210, 211, 212, 213, 214, 215, 216, 217, 218, 219, 220, 221, 222, 223, 224, 225, 226, 227, 228, 229, 230, 231, 232, 233, 234, 235, 236, 237, 238, 239, 240, 241, 242, 243, 244, 245, 246, 247, 248, 249, 250, 251, 252, 253, 254, 255, 256, 257, 258, 259, 260, 261, 262, 263, 264, 265, 266, 267, 268, 269, 270, 271, 272, 273, 274, 275, 276, 277, 278, 279, 280, 281, 282, 283, 284, 285, 286, 287, 288, 289, 290, 291, 292, 293, 294, 295, 296, 297, 298, 299, 300, 301, 302, 303, 304, 305, 306, 307, 308, 309, 310, 311, 312, 313, 314, 315, 316, 317, 318, 319, 320, 321, 322, 323, 324, 325, 326, 327] (by decide +kernel) (by decide +kernel)) (goodIn_sub (fun _ h => List.mem_cons_of_mem _ (List.mem_append_right _ h)) (by decide +kernel))
set_option maxRecDepth 20000 in
theorem gL_look_X6_look : GoodIn wsL_look (wsV RL 50 RX6 yX6_look wsX6_look) := goodIn_app (goodIn_of _ (by decide +kernel)) ggL_look_X6_look
theorem dL_look_0 : decode cL_look 0 = .ok (.aload 4, 2) := by decide +kernel
theorem dL_look_2 : decode cL_look 2 = .ok (.iconst 0, 1) := by decide +kernel
theorem dL_look_3 : decode cL_look 3 = .ok (.aload_n 0, 1) := by decide +kernel
theorem dL_look_4 : decode cL_look 4 = .ok (.iload_n 1, 1) := by decide +kernel
theorem dL_look_5 : decode cL_look 5 = .ok (.iload_n 2, 1) := by decide +kernel
theorem dL_look_6 : decode cL_look 6 = .ok (.iload_n 3, 1) := by decide +kernel
theorem dL_look_7 : decode cL_look 7 = .ok (.invokevirtual 50, 3) := by decide +kernel
theorem dL_look_10 : decode cL_look 10 = .ok (.i2l, 1) := by decide +kernel
theorem dL_look_11 : decode cL_look 11 = .ok (.lastore, 1) := by decide +kernel
theorem dL_look_12 : decode cL_look 12 = .ok (.goto 7, 3) := by decide +kernel
theorem dL_look_15 : decode cL_look 15 = .ok (.astore 5, 2) := by decide +kernel
theorem dL_look_17 : decode cL_look 17 = .ok (.iconst 1, 1) := by decide +kernel
theorem dL_look_18 : decode cL_look 18 = .ok (.ireturn, 1) := by decide +kernel
theorem dL_look_19 : decode cL_look 19 = .ok (.iconst 0, 1) := by decide +kernel
theorem dL_look_20 : decode cL_look 20 = .ok (.ireturn, 1) := by decide +kernel
set_option maxRecDepth 20000 in
theorem ggL_provisionAt_X6_provisionAt : GoodIn wsL_provisionAt wsX6_provisionAt := goodIn_ca (goodIn_r _ [6, 7, 8, 9, 10, 11, 12, 13, 14, 15, 16, 17, 18, 19, 20, 21, 22, 23, 24, 25, 26, 27, 28, 29, 30, 31, 32, 33, 34, 35, 36, 37] (by decide +kernel) (by decide +kernel)) (goodIn_sub (fun _ h => List.mem_cons_of_mem _ (List.mem_append_right _ h)) (by decide +kernel))
set_option maxRecDepth 20000 in
theorem gL_provisionAt_X6_provisionAt : GoodIn wsL_provisionAt (wsV RL 53 RX6 yX6_provisionAt wsX6_provisionAt) := goodIn_app (goodIn_of _ (by decide +kernel)) ggL_provisionAt_X6_provisionAt
theorem dL_provisionAt_0 : decode cL_provisionAt 0 = .ok (.aload_n 2, 1) := by decide +kernel
theorem dL_provisionAt_1 : decode cL_provisionAt 1 = .ok (.iconst 0, 1) := by decide +kernel
theorem dL_provisionAt_2 : decode cL_provisionAt 2 = .ok (.aload_n 0, 1) := by decide +kernel
theorem dL_provisionAt_3 : decode cL_provisionAt 3 = .ok (.iload_n 1, 1) := by decide +kernel
theorem dL_provisionAt_4 : decode cL_provisionAt 4 = .ok (.invokevirtual 53, 3) := by decide +kernel
theorem dL_provisionAt_7 : decode cL_provisionAt 7 = .ok (.i2l, 1) := by decide +kernel
theorem dL_provisionAt_8 : decode cL_provisionAt 8 = .ok (.lastore, 1) := by decide +kernel
theorem dL_provisionAt_9 : decode cL_provisionAt 9 = .ok (.goto 6, 3) := by decide +kernel
theorem dL_provisionAt_12 : decode cL_provisionAt 12 = .ok (.astore_n 3, 1) := by decide +kernel
theorem dL_provisionAt_13 : decode cL_provisionAt 13 = .ok (.iconst 1, 1) := by decide +kernel
theorem dL_provisionAt_14 : decode cL_provisionAt 14 = .ok (.ireturn, 1) := by decide +kernel
theorem dL_provisionAt_15 : decode cL_provisionAt 15 = .ok (.iconst 0, 1) := by decide +kernel
theorem dL_provisionAt_16 : decode cL_provisionAt 16 = .ok (.ireturn, 1) := by decide +kernel
set_option maxRecDepth 20000 in
theorem ggL_label_X6_label : GoodIn wsL_label wsX6_label := goodIn_ca (goodIn_r _ [6, 7, 8, 9, 10, 5, 11, 12, 13, 14, 15, 16, 17, 18, 19, 20, 21, 22, 23, 24, 25, 26, 27, 28, 29, 30, 31, 32, 33, 34, 35, 36, 37, 38, 39, 40, 41] (by decide +kernel) (by decide +kernel)) (goodIn_sub (fun _ h => List.mem_cons_of_mem _ (List.mem_append_right _ h)) (by decide +kernel))
set_option maxRecDepth 20000 in
theorem gL_label_X6_label : GoodIn wsL_label (wsV RL 56 RX6 yX6_label wsX6_label) := goodIn_app (goodIn_of _ (by decide +kernel)) ggL_label_X6_label
theorem dL_label_0 : decode cL_label 0 = .ok (.aload_n 2, 1) := by decide +kernel
theorem dL_label_1 : decode cL_label 1 = .ok (.iconst 0, 1) := by decide +kernel
theorem dL_label_2 : decode cL_label 2 = .ok (.aload_n 0, 1) := by decide +kernel
theorem dL_label_3 : decode cL_label 3 = .ok (.iload_n 1, 1) := by decide +kernel
theorem dL_label_4 : decode cL_label 4 = .ok (.invokevirtual 56, 3) := by decide +kernel
theorem dL_label_7 : decode cL_label 7 = .ok (.i2l, 1) := by decide +kernel
theorem dL_label_8 : decode cL_label 8 = .ok (.lastore, 1) := by decide +kernel
theorem dL_label_9 : decode cL_label 9 = .ok (.goto 6, 3) := by decide +kernel
theorem dL_label_12 : decode cL_label 12 = .ok (.astore_n 3, 1) := by decide +kernel
theorem dL_label_13 : decode cL_label 13 = .ok (.iconst 1, 1) := by decide +kernel
theorem dL_label_14 : decode cL_label 14 = .ok (.ireturn, 1) := by decide +kernel
theorem dL_label_15 : decode cL_label 15 = .ok (.iconst 0, 1) := by decide +kernel
theorem dL_label_16 : decode cL_label 16 = .ok (.ireturn, 1) := by decide +kernel
set_option maxRecDepth 20000 in
theorem ggL_parent_X6_parent : GoodIn wsL_parent wsX6_parent := goodIn_ca (goodIn_r _ [6, 7, 8, 9, 10, 5, 11, 12, 13, 14, 15, 16, 17, 18, 19, 20, 21, 22, 23, 24, 25, 26, 27, 28, 29, 30, 31, 32, 33, 34, 35, 36, 37, 38, 39, 40, 41, 42, 43, 44, 45, 46, 47, 48, 49, 50] (by decide +kernel) (by decide +kernel)) (goodIn_sub (fun _ h => List.mem_cons_of_mem _ (List.mem_append_right _ h)) (by decide +kernel))
set_option maxRecDepth 20000 in
theorem gL_parent_X6_parent : GoodIn wsL_parent (wsV RL 59 RX6 yX6_parent wsX6_parent) := goodIn_app (goodIn_of _ (by decide +kernel)) ggL_parent_X6_parent
theorem dL_parent_0 : decode cL_parent 0 = .ok (.aload_n 2, 1) := by decide +kernel
theorem dL_parent_1 : decode cL_parent 1 = .ok (.iconst 0, 1) := by decide +kernel
theorem dL_parent_2 : decode cL_parent 2 = .ok (.aload_n 0, 1) := by decide +kernel
theorem dL_parent_3 : decode cL_parent 3 = .ok (.iload_n 1, 1) := by decide +kernel
theorem dL_parent_4 : decode cL_parent 4 = .ok (.invokevirtual 59, 3) := by decide +kernel
theorem dL_parent_7 : decode cL_parent 7 = .ok (.i2l, 1) := by decide +kernel
theorem dL_parent_8 : decode cL_parent 8 = .ok (.lastore, 1) := by decide +kernel
theorem dL_parent_9 : decode cL_parent 9 = .ok (.goto 6, 3) := by decide +kernel
theorem dL_parent_12 : decode cL_parent 12 = .ok (.astore_n 3, 1) := by decide +kernel
theorem dL_parent_13 : decode cL_parent 13 = .ok (.iconst 1, 1) := by decide +kernel
theorem dL_parent_14 : decode cL_parent 14 = .ok (.ireturn, 1) := by decide +kernel
theorem dL_parent_15 : decode cL_parent 15 = .ok (.iconst 0, 1) := by decide +kernel
theorem dL_parent_16 : decode cL_parent 16 = .ok (.ireturn, 1) := by decide +kernel
set_option maxRecDepth 20000 in
theorem ggL_words_X6_words : GoodIn wsL_words wsX6_words := goodIn_ca (goodIn_r _ [6, 7, 8, 9, 10, 5, 11, 12, 13, 14, 15, 16, 17, 18, 19, 20, 21, 22, 23, 24, 25, 26, 27, 28, 29, 30, 31, 32, 33, 34, 35, 36, 37, 38, 39, 40, 41, 42, 43, 44, 45, 46, 47, 48, 49, 50, 51, 52, 53] (by decide +kernel) (by decide +kernel)) (goodIn_sub (fun _ h => List.mem_cons_of_mem _ (List.mem_append_right _ h)) (by decide +kernel))
set_option maxRecDepth 20000 in
theorem gL_words_X6_words : GoodIn wsL_words (wsV RL 62 RX6 yX6_words wsX6_words) := goodIn_app (goodIn_of _ (by decide +kernel)) ggL_words_X6_words
theorem dL_words_0 : decode cL_words 0 = .ok (.aload_n 2, 1) := by decide +kernel
theorem dL_words_1 : decode cL_words 1 = .ok (.iconst 0, 1) := by decide +kernel
theorem dL_words_2 : decode cL_words 2 = .ok (.aload_n 0, 1) := by decide +kernel
theorem dL_words_3 : decode cL_words 3 = .ok (.iload_n 1, 1) := by decide +kernel
theorem dL_words_4 : decode cL_words 4 = .ok (.invokevirtual 62, 3) := by decide +kernel
theorem dL_words_7 : decode cL_words 7 = .ok (.i2l, 1) := by decide +kernel
theorem dL_words_8 : decode cL_words 8 = .ok (.lastore, 1) := by decide +kernel
theorem dL_words_9 : decode cL_words 9 = .ok (.goto 6, 3) := by decide +kernel
theorem dL_words_12 : decode cL_words 12 = .ok (.astore_n 3, 1) := by decide +kernel
theorem dL_words_13 : decode cL_words 13 = .ok (.iconst 1, 1) := by decide +kernel
theorem dL_words_14 : decode cL_words 14 = .ok (.ireturn, 1) := by decide +kernel
theorem dL_words_15 : decode cL_words 15 = .ok (.iconst 0, 1) := by decide +kernel
theorem dL_words_16 : decode cL_words 16 = .ok (.ireturn, 1) := by decide +kernel
set_option maxRecDepth 20000 in
theorem ggL_wordAt_X6_wordAt : GoodIn wsL_wordAt wsX6_wordAt := goodIn_ca (goodIn_r _ [6, 7, 8, 9, 10, 5, 11, 12, 13, 14, 15, 16, 17, 18, 19, 20, 21, 22, 23, 24, 25, 26, 27, 28, 29, 30, 31, 32, 33, 34, 35, 36, 37, 38, 39, 40, 41, 42, 43, 44, 45, 46, 47, 48, 49, 50, 51, 52, 53, 54, 55, 56, 57, 58, 59, 60, 61, 62, 63, 64, 65, 66, 67, 68] (by decide +kernel) (by decide +kernel)) (goodIn_sub (fun _ h => List.mem_cons_of_mem _ (List.mem_append_right _ h)) (by decide +kernel))
set_option maxRecDepth 20000 in
theorem gL_wordAt_X6_wordAt : GoodIn wsL_wordAt (wsV RL 65 RX6 yX6_wordAt wsX6_wordAt) := goodIn_app (goodIn_of _ (by decide +kernel)) ggL_wordAt_X6_wordAt
theorem dL_wordAt_0 : decode cL_wordAt 0 = .ok (.aload_n 3, 1) := by decide +kernel
theorem dL_wordAt_1 : decode cL_wordAt 1 = .ok (.iconst 0, 1) := by decide +kernel
theorem dL_wordAt_2 : decode cL_wordAt 2 = .ok (.aload_n 0, 1) := by decide +kernel
theorem dL_wordAt_3 : decode cL_wordAt 3 = .ok (.iload_n 1, 1) := by decide +kernel
theorem dL_wordAt_4 : decode cL_wordAt 4 = .ok (.iload_n 2, 1) := by decide +kernel
theorem dL_wordAt_5 : decode cL_wordAt 5 = .ok (.invokevirtual 65, 3) := by decide +kernel
theorem dL_wordAt_8 : decode cL_wordAt 8 = .ok (.i2l, 1) := by decide +kernel
theorem dL_wordAt_9 : decode cL_wordAt 9 = .ok (.lastore, 1) := by decide +kernel
theorem dL_wordAt_10 : decode cL_wordAt 10 = .ok (.goto 7, 3) := by decide +kernel
theorem dL_wordAt_13 : decode cL_wordAt 13 = .ok (.astore 4, 2) := by decide +kernel
theorem dL_wordAt_15 : decode cL_wordAt 15 = .ok (.iconst 1, 1) := by decide +kernel
theorem dL_wordAt_16 : decode cL_wordAt 16 = .ok (.ireturn, 1) := by decide +kernel
theorem dL_wordAt_17 : decode cL_wordAt 17 = .ok (.iconst 0, 1) := by decide +kernel
theorem dL_wordAt_18 : decode cL_wordAt 18 = .ok (.ireturn, 1) := by decide +kernel
set_option maxRecDepth 20000 in
theorem ggL_wordAnew_X6_wordAnew : GoodIn wsL_wordAnew wsX6_wordAnew := goodIn_ca (goodIn_r _ [6, 7, 8, 9, 10, 11, 12, 5, 13, 14, 15, 16, 17, 18, 19, 20, 21, 22, 23, 24, 25, 26, 27, 28, 29, 30, 31, 32, 33, 34, 35, 36, 37, 38, 39, 40, 41, 42, 43, 44, 45, 46, 47, 48, 49, 50, 51, 52, 53, 54, 55, 56, 57, 58, 59, 60, 61, 62, 63, 64, 65, 66, 67, 68, 69, 70, 71, 72, 73, 74, 75, 76, 77, 78, 79, 80, 81, 82, 83, 84, 85, 86, 87, 88, 89, 90, 91, 92, 93, 94, 95, 96, 97, 98, 99, 100, 101, 102, 103, 104, 105, 106, 107, 108, 109, 110, 111, 112, 113, 114, 115, 116, 117, 118, 119, 120, 121, 122, 123, 124, 125, 126, 127, 128, 129, 130, 131, 132, 133, 134, 135, 136, 137, 138, 139, 140, 141, 142, 143, 144, 145, 146, 147, 148, 149, 150, 151, 152, 153, 154, 155, 156, 157, 158, 159, 160, 161, 162, 163] (by decide +kernel) (by decide +kernel)) (goodIn_sub (fun _ h => List.mem_cons_of_mem _ (List.mem_append_right _ h)) (by decide +kernel))
set_option maxRecDepth 20000 in
theorem gL_wordAnew_X6_wordAnew : GoodIn wsL_wordAnew (wsV RL 69 RX6 yX6_wordAnew wsX6_wordAnew) := goodIn_app (goodIn_of _ (by decide +kernel)) ggL_wordAnew_X6_wordAnew
theorem dL_wordAnew_0 : decode cL_wordAnew 0 = .ok (.aload_n 3, 1) := by decide +kernel
