theorem dX7_hasPlace_1 : decode cX7_hasPlace 1 = .ok (.getfield 89, 3) := by decide +kernel
theorem dX7_hasPlace_4 : decode cX7_hasPlace 4 = .ok (.iload_n 1, 1) := by decide +kernel
theorem dX7_hasPlace_5 : decode cX7_hasPlace 5 = .ok (.baload, 1) := by decide +kernel
theorem dX7_hasPlace_6 : decode cX7_hasPlace 6 = .ok (.ifCond .eq 23, 3) := by decide +kernel
theorem dX7_hasPlace_9 : decode cX7_hasPlace 9 = .ok (.iload_n 2, 1) := by decide +kernel
theorem dX7_hasPlace_10 : decode cX7_hasPlace 10 = .ok (.iconst 0, 1) := by decide +kernel
theorem dX7_hasPlace_11 : decode cX7_hasPlace 11 = .ok (.aload_n 0, 1) := by decide +kernel
theorem dX7_hasPlace_12 : decode cX7_hasPlace 12 = .ok (.getfield 99, 3) := by decide +kernel
theorem dX7_hasPlace_15 : decode cX7_hasPlace 15 = .ok (.iload_n 1, 1) := by decide +kernel
theorem dX7_hasPlace_16 : decode cX7_hasPlace 16 = .ok (.iaload, 1) := by decide +kernel
theorem dX7_hasPlace_17 : decode cX7_hasPlace 17 = .ok (.iconst 1, 1) := by decide +kernel
theorem dX7_hasPlace_18 : decode cX7_hasPlace 18 = .ok (.isub, 1) := by decide +kernel
theorem dX7_hasPlace_19 : decode cX7_hasPlace 19 = .ok (.invokestatic 126, 3) := by decide +kernel
theorem dX7_hasPlace_22 : decode cX7_hasPlace 22 = .ok (.ifCond .eq 7, 3) := by decide +kernel
theorem dX7_hasPlace_25 : decode cX7_hasPlace 25 = .ok (.iconst 1, 1) := by decide +kernel
theorem dX7_hasPlace_26 : decode cX7_hasPlace 26 = .ok (.goto 4, 3) := by decide +kernel
theorem dX7_hasPlace_29 : decode cX7_hasPlace 29 = .ok (.iconst 0, 1) := by decide +kernel
theorem dX7_hasPlace_30 : decode cX7_hasPlace 30 = .ok (.ireturn, 1) := by decide +kernel
set_option maxRecDepth 20000 in
theorem ggX7_asksPlace_X7_laysView : GoodIn wsX7_asksPlace wsX7_laysView := goodIn_r _ [5, 6, 7, 8, 9, 10, 11, 4, 12, 13, 14, 15, 16, 17, 18, 19, 20, 21, 22, 23, 24, 25, 26, 27, 28, 29, 30, 31, 32, 33, 34, 35, 36, 37, 38, 39, 40, 41, 42, 43, 44, 45, 46, 47, 48, 49, 50, 51, 52, 53, 54, 55, 56, 57, 58, 59, 60, 61, 62, 63, 64, 65, 66, 67, 68, 69, 70, 71, 72, 73, 74, 75, 76, 77, 78, 79, 80, 81, 82, 83, 84, 85, 86, 87, 88, 89, 90, 91, 92, 93, 94, 95, 96, 97, 98, 99, 100, 101, 102, 103, 104, 105, 106, 107, 108, 109, 110, 111, 112, 113, 114, 115, 116, 117, 118, 119, 120, 121, 122, 123, 124, 125, 126, 127, 128, 129, 130, 131, 132, 133, 134, 148, 149, 150, 151, 152, 153, 154, 155, 156, 157, 158, 159, 160, 161, 162, 163, 164, 165, 166, 167, 168, 169, 170, 171, 172, 173, 174, 175, 176, 177, 178, 179, 180, 181, 182, 183, 184, 185, 186, 187, 188, 189, 190, 191, 192, 193, 194, 195, 196] (by decide +kernel) (by decide +kernel)
set_option maxRecDepth 20000 in
theorem gX7_asksPlace_X7_laysView : GoodIn wsX7_asksPlace (wsV RX7 264 RX7 yX7_laysView wsX7_laysView) := goodIn_app (goodIn_of _ (by decide +kernel)) ggX7_asksPlace_X7_laysView
set_option maxRecDepth 20000 in
theorem ggX7_asksPlace_X7_isProvision : GoodIn wsX7_asksPlace wsX7_isProvision := goodIn_r _ [138, 72, 46, 47, 4, 48, 148, 149, 150, 151, 152, 153, 154, 155, 156, 157, 158, 159, 160, 161, 162, 163, 164, 165, 166, 167, 168, 169, 170, 171, 172, 173, 174, 175, 176, 177, 178, 179, 180, 181, 182, 183, 184, 185, 186, 187, 188, 189, 190, 191, 192, 193, 194, 195, 196] (by decide +kernel) (by decide +kernel)
set_option maxRecDepth 20000 in
theorem gX7_asksPlace_X7_isProvision : GoodIn wsX7_asksPlace (wsV RX7 161 RX7 yX7_isProvision wsX7_isProvision) := goodIn_app (goodIn_of _ (by decide +kernel)) ggX7_asksPlace_X7_isProvision
set_option maxRecDepth 20000 in
theorem ggX7_asksPlace_X7_hasPlace : GoodIn wsX7_asksPlace wsX7_hasPlace := goodIn_r _ [142, 13, 14, 46, 47, 4, 48, 148, 149, 150, 151, 152, 153, 154, 155, 156, 157, 158, 159, 160, 161, 162, 163, 164, 165, 166, 167, 168, 169, 170, 171, 172, 173, 174, 175, 176, 177, 178, 179, 180, 181, 182, 183, 184, 185, 186, 187, 188, 189, 190, 191, 192, 193, 194, 195, 196] (by decide +kernel) (by decide +kernel)
set_option maxRecDepth 20000 in
theorem gX7_asksPlace_X7_hasPlace : GoodIn wsX7_asksPlace (wsV RX7 284 RX7 yX7_hasPlace wsX7_hasPlace) := goodIn_app (goodIn_of _ (by decide +kernel)) ggX7_asksPlace_X7_hasPlace
set_option maxRecDepth 20000 in
theorem ggX7_asksPlace_X7_goes : GoodIn wsX7_asksPlace wsX7_goes := goodIn_r _ [146, 147, 148, 149, 150, 151, 152, 153, 154, 155, 156, 157, 158, 159, 160, 161, 162, 163, 164, 165, 166, 167, 168, 169, 170, 171, 172, 173, 174, 175, 176, 177, 178, 179, 180, 181, 182, 183, 184, 185, 186, 187, 188, 189, 190, 191, 192, 193, 194, 195, 196] (by decide +kernel) (by decide +kernel)
set_option maxRecDepth 20000 in
theorem gX7_asksPlace_X7_goes : GoodIn wsX7_asksPlace (wsV RX7 136 RX7 yX7_goes wsX7_goes) := goodIn_app (goodIn_of _ (by decide +kernel)) ggX7_asksPlace_X7_goes
theorem dX7_asksPlace_0 : decode cX7_asksPlace 0 = .ok (.aload_n 0, 1) := by decide +kernel
theorem dX7_asksPlace_1 : decode cX7_asksPlace 1 = .ok (.invokevirtual 264, 3) := by decide +kernel
theorem dX7_asksPlace_4 : decode cX7_asksPlace 4 = .ok (.aload_n 0, 1) := by decide +kernel
theorem dX7_asksPlace_5 : decode cX7_asksPlace 5 = .ok (.aload_n 0, 1) := by decide +kernel
theorem dX7_asksPlace_6 : decode cX7_asksPlace 6 = .ok (.iload_n 1, 1) := by decide +kernel
theorem dX7_asksPlace_7 : decode cX7_asksPlace 7 = .ok (.invokevirtual 161, 3) := by decide +kernel
theorem dX7_asksPlace_10 : decode cX7_asksPlace 10 = .ok (.ifCond .ne 7, 3) := by decide +kernel
theorem dX7_asksPlace_13 : decode cX7_asksPlace 13 = .ok (.iconst 1, 1) := by decide +kernel
theorem dX7_asksPlace_14 : decode cX7_asksPlace 14 = .ok (.goto 17, 3) := by decide +kernel
theorem dX7_asksPlace_17 : decode cX7_asksPlace 17 = .ok (.aload_n 0, 1) := by decide +kernel
theorem dX7_asksPlace_18 : decode cX7_asksPlace 18 = .ok (.iload_n 1, 1) := by decide +kernel
theorem dX7_asksPlace_19 : decode cX7_asksPlace 19 = .ok (.iload_n 2, 1) := by decide +kernel
theorem dX7_asksPlace_20 : decode cX7_asksPlace 20 = .ok (.invokevirtual 284, 3) := by decide +kernel
theorem dX7_asksPlace_23 : decode cX7_asksPlace 23 = .ok (.ifCond .eq 7, 3) := by decide +kernel
theorem dX7_asksPlace_26 : decode cX7_asksPlace 26 = .ok (.iconst 0, 1) := by decide +kernel
theorem dX7_asksPlace_27 : decode cX7_asksPlace 27 = .ok (.goto 4, 3) := by decide +kernel
theorem dX7_asksPlace_30 : decode cX7_asksPlace 30 = .ok (.iconst 1, 1) := by decide +kernel
theorem dX7_asksPlace_31 : decode cX7_asksPlace 31 = .ok (.invokevirtual 136, 3) := by decide +kernel
theorem dX7_asksPlace_34 : decode cX7_asksPlace 34 = .ok (.ireturn, 1) := by decide +kernel
set_option maxRecDepth 20000 in
theorem ggX7_wordAt_X7_asksPlace : GoodIn wsX7_wordAt wsX7_asksPlace := goodIn_r _ [6, 7, 8, 9, 5, 10, 11, 12, 13, 14, 15, 16, 17, 18, 19, 20, 21, 22, 23, 24, 25, 26, 27, 28, 29, 30, 31, 32, 33, 34, 35, 36, 37, 38, 39, 40, 41, 42, 43, 44, 45, 46, 47, 48, 49, 50, 51, 52, 53, 54, 55, 56, 57, 58, 59, 60, 61, 62, 63, 64, 65, 66, 67, 68, 69, 70, 71, 72, 73, 74, 75, 76, 77, 78, 79, 80, 81, 82, 83, 84, 85, 86, 87, 88, 89, 90, 91, 1, 92, 93, 94, 95, 96, 97, 98, 99, 100, 101, 102, 103, 104, 105, 106, 107, 108, 109, 110, 111, 112, 113, 114, 115, 116, 117, 118, 119, 120, 121, 122, 123, 124, 125, 126, 127, 128, 129, 130, 131, 132, 133, 134, 135, 136, 137, 138, 139, 140, 141, 142, 143, 144, 145, 146, 147, 148, 149, 150, 151, 152, 153, 154, 155, 156, 157, 158, 159, 160, 161, 162, 163, 164, 165, 166, 167, 168, 169, 170, 171, 172, 173, 174, 175, 176, 177, 178, 179, 180, 181, 182, 183, 184, 185, 186, 187, 188, 189, 190, 191, 192, 193, 194, 195, 196, 197, 198, 199, 200] (by decide +kernel) (by decide +kernel)
set_option maxRecDepth 20000 in
theorem gX7_wordAt_X7_asksPlace : GoodIn wsX7_wordAt (wsV RX7 287 RX7 yX7_asksPlace wsX7_asksPlace) := goodIn_app (goodIn_of _ (by decide +kernel)) ggX7_wordAt_X7_asksPlace
theorem dX7_wordAt_0 : decode cX7_wordAt 0 = .ok (.aload_n 0, 1) := by decide +kernel
theorem dX7_wordAt_1 : decode cX7_wordAt 1 = .ok (.iload_n 1, 1) := by decide +kernel
theorem dX7_wordAt_2 : decode cX7_wordAt 2 = .ok (.iload_n 2, 1) := by decide +kernel
theorem dX7_wordAt_3 : decode cX7_wordAt 3 = .ok (.invokevirtual 287, 3) := by decide +kernel
theorem dX7_wordAt_6 : decode cX7_wordAt 6 = .ok (.ifCond .eq 17, 3) := by decide +kernel
theorem dX7_wordAt_9 : decode cX7_wordAt 9 = .ok (.aload_n 0, 1) := by decide +kernel
theorem dX7_wordAt_10 : decode cX7_wordAt 10 = .ok (.getfield 102, 3) := by decide +kernel
theorem dX7_wordAt_13 : decode cX7_wordAt 13 = .ok (.bipush 12, 2) := by decide +kernel
theorem dX7_wordAt_15 : decode cX7_wordAt 15 = .ok (.iload_n 1, 1) := by decide +kernel
theorem dX7_wordAt_16 : decode cX7_wordAt 16 = .ok (.imul, 1) := by decide +kernel
theorem dX7_wordAt_17 : decode cX7_wordAt 17 = .ok (.iload_n 2, 1) := by decide +kernel
theorem dX7_wordAt_18 : decode cX7_wordAt 18 = .ok (.iadd, 1) := by decide +kernel
theorem dX7_wordAt_19 : decode cX7_wordAt 19 = .ok (.iaload, 1) := by decide +kernel
theorem dX7_wordAt_20 : decode cX7_wordAt 20 = .ok (.goto 4, 3) := by decide +kernel
theorem dX7_wordAt_23 : decode cX7_wordAt 23 = .ok (.iconst 0, 1) := by decide +kernel
theorem dX7_wordAt_24 : decode cX7_wordAt 24 = .ok (.ireturn, 1) := by decide +kernel
set_option maxRecDepth 20000 in
theorem ggX7_wordAnew_X7_laysView : GoodIn wsX7_wordAnew wsX7_laysView := goodIn_r _ [6, 7, 8, 9, 10, 11, 12, 5, 13, 14, 15, 16, 17, 18, 19, 20, 21, 22, 23, 24, 25, 26, 27, 28, 29, 30, 31, 32, 33, 34, 35, 36, 37, 38, 39, 40, 41, 42, 43, 44, 45, 46, 47, 48, 49, 50, 51, 52, 53, 54, 55, 56, 57, 58, 59, 60, 61, 62, 63, 64, 65, 66, 67, 68, 69, 70, 71, 72, 73, 74, 75, 76, 77, 78, 79, 80, 81, 82, 83, 84, 85, 86, 87, 1, 88, 89, 90, 91, 92, 93, 94, 95, 96, 97, 98, 99, 100, 101, 102, 103, 104, 105, 106, 107, 108, 109, 110, 111, 112, 113, 114, 115, 116, 117, 118, 119, 120, 121, 122, 123, 124, 125, 126, 127, 128, 129, 130, 131, 132, 133, 134, 148, 149, 150, 151, 152, 153, 154, 155, 156, 157, 158, 159, 160, 161, 162, 163, 164, 165, 166, 167, 168, 169, 170, 171, 172, 173, 174, 175, 176, 177, 178, 179, 180, 181, 182, 183, 184, 185, 186, 187, 188, 189, 190, 191, 192, 193, 194, 195, 196] (by decide +kernel) (by decide +kernel)
set_option maxRecDepth 20000 in
theorem gX7_wordAnew_X7_laysView : GoodIn wsX7_wordAnew (wsV RX7 264 RX7 yX7_laysView wsX7_laysView) := goodIn_app (goodIn_of _ (by decide +kernel)) ggX7_wordAnew_X7_laysView
set_option maxRecDepth 20000 in
theorem ggX7_wordAnew_X7_isProvision : GoodIn wsX7_wordAnew wsX7_isProvision := goodIn_r _ [138, 73, 47, 48, 5, 49, 148, 149, 150, 151, 152, 153, 154, 155, 156, 157, 158, 159, 160, 161, 162, 163, 164, 165, 166, 167, 168, 169, 170, 171, 172, 173, 174, 175, 176, 177, 178, 179, 180, 181, 182, 183, 184, 185, 186, 187, 188, 189, 190, 191, 192, 193, 194, 195, 196] (by decide +kernel) (by decide +kernel)
set_option maxRecDepth 20000 in
theorem gX7_wordAnew_X7_isProvision : GoodIn wsX7_wordAnew (wsV RX7 161 RX7 yX7_isProvision wsX7_isProvision) := goodIn_app (goodIn_of _ (by decide +kernel)) ggX7_wordAnew_X7_isProvision
set_option maxRecDepth 20000 in
theorem ggX7_wordAnew_X7_goes : GoodIn wsX7_wordAnew wsX7_goes := goodIn_r _ [142, 143, 148, 149, 150, 151, 152, 153, 154, 155, 156, 157, 158, 159, 160, 161, 162, 163, 164, 165, 166, 167, 168, 169, 170, 171, 172, 173, 174, 175, 176, 177, 178, 179, 180, 181, 182, 183, 184, 185, 186, 187, 188, 189, 190, 191, 192, 193, 194, 195, 196] (by decide +kernel) (by decide +kernel)
set_option maxRecDepth 20000 in
theorem gX7_wordAnew_X7_goes : GoodIn wsX7_wordAnew (wsV RX7 136 RX7 yX7_goes wsX7_goes) := goodIn_app (goodIn_of _ (by decide +kernel)) ggX7_wordAnew_X7_goes
set_option maxRecDepth 20000 in
theorem ggX7_wordAnew_X7_hasPlace : GoodIn wsX7_wordAnew wsX7_hasPlace := goodIn_r _ [147, 14, 15, 47, 48, 5, 49, 148, 149, 150, 151, 152, 153, 154, 155, 156, 157, 158, 159, 160, 161, 162, 163, 164, 165, 166, 167, 168, 169, 170, 171, 172, 173, 174, 175, 176, 177, 178, 179, 180, 181, 182, 183, 184, 185, 186, 187, 188, 189, 190, 191, 192, 193, 194, 195, 196] (by decide +kernel) (by decide +kernel)
set_option maxRecDepth 20000 in
theorem gX7_wordAnew_X7_hasPlace : GoodIn wsX7_wordAnew (wsV RX7 284 RX7 yX7_hasPlace wsX7_hasPlace) := goodIn_app (goodIn_of _ (by decide +kernel)) ggX7_wordAnew_X7_hasPlace
theorem dX7_wordAnew_0 : decode cX7_wordAnew 0 = .ok (.aload_n 0, 1) := by decide +kernel
theorem dX7_wordAnew_1 : decode cX7_wordAnew 1 = .ok (.invokevirtual 264, 3) := by decide +kernel
theorem dX7_wordAnew_4 : decode cX7_wordAnew 4 = .ok (.aload_n 0, 1) := by decide +kernel
theorem dX7_wordAnew_5 : decode cX7_wordAnew 5 = .ok (.aload_n 0, 1) := by decide +kernel
theorem dX7_wordAnew_6 : decode cX7_wordAnew 6 = .ok (.iload_n 1, 1) := by decide +kernel
theorem dX7_wordAnew_7 : decode cX7_wordAnew 7 = .ok (.invokevirtual 161, 3) := by decide +kernel
theorem dX7_wordAnew_10 : decode cX7_wordAnew 10 = .ok (.ifCond .eq 11, 3) := by decide +kernel
theorem dX7_wordAnew_13 : decode cX7_wordAnew 13 = .ok (.iload_n 2, 1) := by decide +kernel
theorem dX7_wordAnew_14 : decode cX7_wordAnew 14 = .ok (.ifCond .lt 7, 3) := by decide +kernel
theorem dX7_wordAnew_17 : decode cX7_wordAnew 17 = .ok (.iconst 0, 1) := by decide +kernel
theorem dX7_wordAnew_18 : decode cX7_wordAnew 18 = .ok (.goto 4, 3) := by decide +kernel
theorem dX7_wordAnew_21 : decode cX7_wordAnew 21 = .ok (.iconst 1, 1) := by decide +kernel
theorem dX7_wordAnew_22 : decode cX7_wordAnew 22 = .ok (.invokevirtual 136, 3) := by decide +kernel
theorem dX7_wordAnew_25 : decode cX7_wordAnew 25 = .ok (.ifCond .ne 5, 3) := by decide +kernel
theorem dX7_wordAnew_28 : decode cX7_wordAnew 28 = .ok (.iconst 0, 1) := by decide +kernel
theorem dX7_wordAnew_29 : decode cX7_wordAnew 29 = .ok (.ireturn, 1) := by decide +kernel
theorem dX7_wordAnew_30 : decode cX7_wordAnew 30 = .ok (.aload_n 0, 1) := by decide +kernel
theorem dX7_wordAnew_31 : decode cX7_wordAnew 31 = .ok (.iload_n 1, 1) := by decide +kernel
theorem dX7_wordAnew_32 : decode cX7_wordAnew 32 = .ok (.iload_n 2, 1) := by decide +kernel
theorem dX7_wordAnew_33 : decode cX7_wordAnew 33 = .ok (.invokevirtual 284, 3) := by decide +kernel
theorem dX7_wordAnew_36 : decode cX7_wordAnew 36 = .ok (.ifCond .eq 17, 3) := by decide +kernel
theorem dX7_wordAnew_39 : decode cX7_wordAnew 39 = .ok (.aload_n 0, 1) := by decide +kernel
theorem dX7_wordAnew_40 : decode cX7_wordAnew 40 = .ok (.getfield 102, 3) := by decide +kernel
theorem dX7_wordAnew_43 : decode cX7_wordAnew 43 = .ok (.bipush 12, 2) := by decide +kernel
theorem dX7_wordAnew_45 : decode cX7_wordAnew 45 = .ok (.iload_n 1, 1) := by decide +kernel
theorem dX7_wordAnew_46 : decode cX7_wordAnew 46 = .ok (.imul, 1) := by decide +kernel
theorem dX7_wordAnew_47 : decode cX7_wordAnew 47 = .ok (.iload_n 2, 1) := by decide +kernel
theorem dX7_wordAnew_48 : decode cX7_wordAnew 48 = .ok (.iadd, 1) := by decide +kernel
theorem dX7_wordAnew_49 : decode cX7_wordAnew 49 = .ok (.iaload, 1) := by decide +kernel
theorem dX7_wordAnew_50 : decode cX7_wordAnew 50 = .ok (.goto 4, 3) := by decide +kernel
theorem dX7_wordAnew_53 : decode cX7_wordAnew 53 = .ok (.iconst (-1), 1) := by decide +kernel
theorem dX7_wordAnew_54 : decode cX7_wordAnew 54 = .ok (.ireturn, 1) := by decide +kernel
set_option maxRecDepth 20000 in
theorem ggX7_origin_X7_asksPlace : GoodIn wsX7_origin wsX7_asksPlace := goodIn_r _ [6, 7, 8, 9, 5, 10, 11, 12, 13, 14, 15, 16, 17, 18, 19, 20, 21, 22, 23, 24, 25, 26, 27, 28, 29, 30, 31, 32, 33, 34, 35, 36, 37, 38, 39, 40, 41, 42, 43, 44, 45, 46, 47, 48, 49, 50, 51, 52, 53, 54, 55, 56, 57, 58, 59, 60, 61, 62, 63, 64, 65, 66, 67, 68, 69, 70, 71, 72, 73, 74, 75, 76, 77, 78, 79, 80, 81, 82, 83, 84, 85, 86, 87, 88, 89, 90, 91, 92, 1, 93, 94, 95, 96, 97, 98, 99, 100, 101, 102, 103, 104, 105, 106, 107, 108, 109, 110, 111, 112, 113, 114, 115, 116, 117, 118, 119, 120, 121, 122, 123, 124, 125, 126, 127, 128, 129, 130, 131, 132, 133, 134, 135, 136, 137, 138, 139, 140, 141, 142, 143, 144, 145, 146, 147, 148, 149, 150, 151, 152, 153, 154, 155, 156, 157, 158, 159, 160, 161, 162, 163, 164, 165, 166, 167, 168, 169, 170, 171, 172, 173, 174, 175, 176, 177, 178, 179, 180, 181, 182, 183, 184, 185, 186, 187, 188, 189, 190, 191, 192, 193, 194, 195, 196, 197, 198, 199, 200] (by decide +kernel) (by decide +kernel)
set_option maxRecDepth 20000 in
theorem gX7_origin_X7_asksPlace : GoodIn wsX7_origin (wsV RX7 287 RX7 yX7_asksPlace wsX7_asksPlace) := goodIn_app (goodIn_of _ (by decide +kernel)) ggX7_origin_X7_asksPlace
theorem dX7_origin_0 : decode cX7_origin 0 = .ok (.aload_n 0, 1) := by decide +kernel
theorem dX7_origin_1 : decode cX7_origin 1 = .ok (.iload_n 1, 1) := by decide +kernel
theorem dX7_origin_2 : decode cX7_origin 2 = .ok (.iload_n 2, 1) := by decide +kernel
theorem dX7_origin_3 : decode cX7_origin 3 = .ok (.invokevirtual 287, 3) := by decide +kernel
theorem dX7_origin_6 : decode cX7_origin 6 = .ok (.ifCond .eq 17, 3) := by decide +kernel
theorem dX7_origin_9 : decode cX7_origin 9 = .ok (.aload_n 0, 1) := by decide +kernel
theorem dX7_origin_10 : decode cX7_origin 10 = .ok (.getfield 105, 3) := by decide +kernel
theorem dX7_origin_13 : decode cX7_origin 13 = .ok (.bipush 12, 2) := by decide +kernel
theorem dX7_origin_15 : decode cX7_origin 15 = .ok (.iload_n 1, 1) := by decide +kernel
theorem dX7_origin_16 : decode cX7_origin 16 = .ok (.imul, 1) := by decide +kernel
theorem dX7_origin_17 : decode cX7_origin 17 = .ok (.iload_n 2, 1) := by decide +kernel
theorem dX7_origin_18 : decode cX7_origin 18 = .ok (.iadd, 1) := by decide +kernel
theorem dX7_origin_19 : decode cX7_origin 19 = .ok (.iaload, 1) := by decide +kernel
theorem dX7_origin_20 : decode cX7_origin 20 = .ok (.goto 4, 3) := by decide +kernel
theorem dX7_origin_23 : decode cX7_origin 23 = .ok (.iconst 0, 1) := by decide +kernel
theorem dX7_origin_24 : decode cX7_origin 24 = .ok (.ireturn, 1) := by decide +kernel
set_option maxRecDepth 20000 in
theorem ggX7_refers_X7_asksPlace : GoodIn wsX7_refers wsX7_asksPlace := goodIn_r _ [12, 13, 14, 15, 11, 16, 17, 3, 4, 18, 19, 20, 21, 6, 22, 23, 24, 25, 26, 27, 28, 29, 30, 31, 32, 33, 34, 35, 36, 37, 38, 39, 40, 41, 42, 43, 44, 45, 46, 47, 48, 49, 50, 51, 52, 53, 54, 55, 56, 57, 58, 59, 60, 61, 62, 63, 64, 65, 66, 67, 68, 69, 70, 7, 71, 72, 73, 74, 75, 76, 77, 78, 5, 79, 80, 81, 82, 83, 84, 85, 86, 87, 88, 89, 90, 91, 92, 1, 2, 93, 94, 95, 96, 97, 98, 99, 100, 101, 102, 103, 104, 105, 106, 107, 108, 109, 110, 111, 112, 113, 114, 115, 116, 117, 118, 119, 120, 121, 122, 123, 124, 125, 126, 127, 128, 129, 130, 131, 132, 133, 134, 135, 136, 137, 138, 139, 140, 141, 142, 143, 144, 145, 146, 147, 148, 149, 150, 151, 152, 153, 154, 155, 156, 157, 158, 159, 160, 161, 162, 163, 164, 165, 166, 167, 168, 169, 170, 171, 172, 173, 174, 175, 176, 177, 178, 179, 180, 181, 182, 183, 184, 185, 186, 187, 188, 189, 190, 191, 192, 193, 194, 195, 196, 197, 198, 199, 200] (by decide +kernel) (by decide +kernel)
set_option maxRecDepth 20000 in
theorem gX7_refers_X7_asksPlace : GoodIn wsX7_refers (wsV RX7 287 RX7 yX7_asksPlace wsX7_asksPlace) := goodIn_app (goodIn_of _ (by decide +kernel)) ggX7_refers_X7_asksPlace
set_option maxRecDepth 20000 in
theorem ggX7_refers_X7_commencesBy : GoodIn wsX7_refers wsX7_commencesBy := goodIn_r _ [32, 33, 34, 35, 36, 37, 38, 39, 40, 41, 11, 42, 152, 153, 154, 155, 156, 157, 158, 159, 160, 161, 162, 163, 164, 165, 166, 167, 168, 169, 170, 171, 172, 173, 174, 175, 176, 177, 178, 179, 180, 181, 182, 183, 184, 185, 186, 187, 188, 189, 190, 191, 192, 193, 194, 195, 196, 197, 198, 199, 200] (by decide +kernel) (by decide +kernel)
set_option maxRecDepth 20000 in
theorem gX7_refers_X7_commencesBy : GoodIn wsX7_refers (wsV RX7 183 RX7 yX7_commencesBy wsX7_commencesBy) := goodIn_app (goodIn_of _ (by decide +kernel)) ggX7_refers_X7_commencesBy
set_option maxRecDepth 20000 in
theorem ggX7_refers_X7_views : GoodIn wsX7_refers wsX7_views := goodIn_r _ [21, 6, 22, 23, 24, 25, 26, 27, 28, 29, 30, 31, 11, 32, 33, 34, 35, 36, 37, 38, 39, 40, 41, 42, 43, 44, 45, 46, 47, 48, 49, 50, 51, 52, 53, 54, 55, 56, 57, 58, 59, 60, 61, 62, 63, 64, 65, 66, 67, 68, 69, 70, 7, 71, 72, 73, 74, 75, 76, 77, 78, 5, 79, 80, 81, 82, 83, 84, 85, 86, 87, 88, 89, 90, 91, 92, 1, 2, 93, 94, 95, 96, 97, 98, 99, 100, 101, 102, 103, 104, 105, 106, 107, 108, 109, 110, 111, 112, 113, 114, 115, 116, 117, 118, 119, 120, 121, 122, 123, 124, 125, 126, 127, 128, 129, 130, 131, 132, 133, 134, 135, 136, 137, 138, 152, 153, 154, 155, 156, 157, 158, 159, 160, 161, 162, 163, 164, 165, 166, 167, 168, 169, 170, 171, 172, 173, 174, 175, 176, 177, 178, 179, 180, 181, 182, 183, 184, 185, 186, 187, 188, 189, 190, 191, 192, 193, 194, 195, 196, 197, 198, 199, 200] (by decide +kernel) (by decide +kernel)
set_option maxRecDepth 20000 in
theorem gX7_refers_X7_views : GoodIn wsX7_refers (wsV RX7 261 RX7 yX7_views wsX7_views) := goodIn_app (goodIn_of _ (by decide +kernel)) ggX7_refers_X7_views
theorem dX7_refers_0 : decode cX7_refers 0 = .ok (.aload_n 0, 1) := by decide +kernel
theorem dX7_refers_1 : decode cX7_refers 1 = .ok (.iload_n 1, 1) := by decide +kernel
theorem dX7_refers_2 : decode cX7_refers 2 = .ok (.iload_n 2, 1) := by decide +kernel
theorem dX7_refers_3 : decode cX7_refers 3 = .ok (.invokevirtual 287, 3) := by decide +kernel
theorem dX7_refers_6 : decode cX7_refers 6 = .ok (.ifCond .ne 5, 3) := by decide +kernel
theorem dX7_refers_9 : decode cX7_refers 9 = .ok (.iconst 0, 1) := by decide +kernel
theorem dX7_refers_10 : decode cX7_refers 10 = .ok (.ireturn, 1) := by decide +kernel
theorem dX7_refers_11 : decode cX7_refers 11 = .ok (.aload_n 0, 1) := by decide +kernel
theorem dX7_refers_12 : decode cX7_refers 12 = .ok (.getfield 102, 3) := by decide +kernel
theorem dX7_refers_15 : decode cX7_refers 15 = .ok (.bipush 12, 2) := by decide +kernel
theorem dX7_refers_17 : decode cX7_refers 17 = .ok (.iload_n 1, 1) := by decide +kernel
theorem dX7_refers_18 : decode cX7_refers 18 = .ok (.imul, 1) := by decide +kernel
theorem dX7_refers_19 : decode cX7_refers 19 = .ok (.iload_n 2, 1) := by decide +kernel
theorem dX7_refers_20 : decode cX7_refers 20 = .ok (.iadd, 1) := by decide +kernel
theorem dX7_refers_21 : decode cX7_refers 21 = .ok (.iaload, 1) := by decide +kernel
theorem dX7_refers_22 : decode cX7_refers 22 = .ok (.istore_n 3, 1) := by decide +kernel
theorem dX7_refers_23 : decode cX7_refers 23 = .ok (.iload_n 3, 1) := by decide +kernel
theorem dX7_refers_24 : decode cX7_refers 24 = .ok (.bipush 100, 2) := by decide +kernel
theorem dX7_refers_26 : decode cX7_refers 26 = .ok (.if_icmp .ge 5, 3) := by decide +kernel
theorem dX7_refers_29 : decode cX7_refers 29 = .ok (.iconst (-1), 1) := by decide +kernel
theorem dX7_refers_30 : decode cX7_refers 30 = .ok (.ireturn, 1) := by decide +kernel
theorem dX7_refers_31 : decode cX7_refers 31 = .ok (.iload_n 3, 1) := by decide +kernel
theorem dX7_refers_32 : decode cX7_refers 32 = .ok (.bipush 120, 2) := by decide +kernel
theorem dX7_refers_34 : decode cX7_refers 34 = .ok (.if_icmp .ge 10, 3) := by decide +kernel
theorem dX7_refers_37 : decode cX7_refers 37 = .ok (.iload_n 3, 1) := by decide +kernel
theorem dX7_refers_38 : decode cX7_refers 38 = .ok (.bipush 100, 2) := by decide +kernel
theorem dX7_refers_40 : decode cX7_refers 40 = .ok (.isub, 1) := by decide +kernel
theorem dX7_refers_41 : decode cX7_refers 41 = .ok (.goto 7, 3) := by decide +kernel
theorem dX7_refers_44 : decode cX7_refers 44 = .ok (.iload_n 3, 1) := by decide +kernel
theorem dX7_refers_45 : decode cX7_refers 45 = .ok (.bipush 120, 2) := by decide +kernel
theorem dX7_refers_47 : decode cX7_refers 47 = .ok (.isub, 1) := by decide +kernel
theorem dX7_refers_48 : decode cX7_refers 48 = .ok (.istore 4, 2) := by decide +kernel
theorem dX7_refers_50 : decode cX7_refers 50 = .ok (.iload_n 3, 1) := by decide +kernel
theorem dX7_refers_51 : decode cX7_refers 51 = .ok (.bipush 119, 2) := by decide +kernel
theorem dX7_refers_53 : decode cX7_refers 53 = .ok (.if_icmp .le 34, 3) := by decide +kernel
theorem dX7_refers_56 : decode cX7_refers 56 = .ok (.aload_n 0, 1) := by decide +kernel
theorem dX7_refers_57 : decode cX7_refers 57 = .ok (.aload_n 0, 1) := by decide +kernel
theorem dX7_refers_58 : decode cX7_refers 58 = .ok (.aload_n 0, 1) := by decide +kernel
theorem dX7_refers_59 : decode cX7_refers 59 = .ok (.getfield 105, 3) := by decide +kernel
theorem dX7_refers_62 : decode cX7_refers 62 = .ok (.bipush 12, 2) := by decide +kernel
theorem dX7_refers_64 : decode cX7_refers 64 = .ok (.iload_n 1, 1) := by decide +kernel
theorem dX7_refers_65 : decode cX7_refers 65 = .ok (.imul, 1) := by decide +kernel
theorem dX7_refers_66 : decode cX7_refers 66 = .ok (.iload_n 2, 1) := by decide +kernel
theorem dX7_refers_67 : decode cX7_refers 67 = .ok (.iadd, 1) := by decide +kernel
theorem dX7_refers_68 : decode cX7_refers 68 = .ok (.iaload, 1) := by decide +kernel
theorem dX7_refers_69 : decode cX7_refers 69 = .ok (.aload_n 0, 1) := by decide +kernel
theorem dX7_refers_70 : decode cX7_refers 70 = .ok (.getfield 255, 3) := by decide +kernel
theorem dX7_refers_73 : decode cX7_refers 73 = .ok (.invokevirtual 183, 3) := by decide +kernel
theorem dX7_refers_76 : decode cX7_refers 76 = .ok (.aload_n 0, 1) := by decide +kernel
theorem dX7_refers_77 : decode cX7_refers 77 = .ok (.getfield 255, 3) := by decide +kernel
theorem dX7_refers_80 : decode cX7_refers 80 = .ok (.aload_n 0, 1) := by decide +kernel
theorem dX7_refers_81 : decode cX7_refers 81 = .ok (.getfield 258, 3) := by decide +kernel
theorem dX7_refers_84 : decode cX7_refers 84 = .ok (.invokevirtual 261, 3) := by decide +kernel
theorem dX7_refers_87 : decode cX7_refers 87 = .ok (.iload 4, 2) := by decide +kernel
theorem dX7_refers_89 : decode cX7_refers 89 = .ok (.aload_n 0, 1) := by decide +kernel
theorem dX7_refers_90 : decode cX7_refers 90 = .ok (.getfield 130, 3) := by decide +kernel
theorem dX7_refers_93 : decode cX7_refers 93 = .ok (.if_icmp .ge 23, 3) := by decide +kernel
theorem dX7_refers_96 : decode cX7_refers 96 = .ok (.aload_n 0, 1) := by decide +kernel
theorem dX7_refers_97 : decode cX7_refers 97 = .ok (.getfield 89, 3) := by decide +kernel
theorem dX7_refers_100 : decode cX7_refers 100 = .ok (.iload 4, 2) := by decide +kernel
theorem dX7_refers_102 : decode cX7_refers 102 = .ok (.baload, 1) := by decide +kernel
theorem dX7_refers_103 : decode cX7_refers 103 = .ok (.ifCond .eq 13, 3) := by decide +kernel
theorem dX7_refers_106 : decode cX7_refers 106 = .ok (.aload_n 0, 1) := by decide +kernel
theorem dX7_refers_107 : decode cX7_refers 107 = .ok (.getfield 93, 3) := by decide +kernel
theorem dX7_refers_110 : decode cX7_refers 110 = .ok (.iload 4, 2) := by decide +kernel
theorem dX7_refers_112 : decode cX7_refers 112 = .ok (.iaload, 1) := by decide +kernel
theorem dX7_refers_113 : decode cX7_refers 113 = .ok (.goto 4, 3) := by decide +kernel
theorem dX7_refers_116 : decode cX7_refers 116 = .ok (.iconst (-1), 1) := by decide +kernel
theorem dX7_refers_117 : decode cX7_refers 117 = .ok (.ireturn, 1) := by decide +kernel
set_option maxRecDepth 20000 in
theorem ggX7_state_X7_laysView : GoodIn wsX7_state wsX7_laysView := goodIn_r _ [6, 7, 8, 9, 10, 11, 12, 5, 13, 14, 15, 16, 1, 17, 18, 19, 20, 21, 22, 23, 24, 25, 26, 27, 28, 29, 30, 31, 32, 33, 34, 35, 36, 37, 38, 39, 40, 41, 42, 43, 44, 45, 46, 47, 48, 49, 50, 51, 52, 53, 54, 55, 56, 57, 58, 59, 60, 61, 62, 63, 64, 65, 66, 67, 68, 69, 70, 71, 72, 73, 74, 75, 76, 77, 78, 79, 80, 81, 82, 83, 84, 85, 86, 87, 88, 89, 90, 91, 92, 93, 94, 95, 96, 97, 98, 99, 100, 101, 102, 103, 104, 105, 106, 107, 108, 109, 110, 111, 112, 113, 114, 115, 116, 117, 118, 119, 120, 121, 122, 123, 124, 125, 126, 127, 128, 129, 130, 131, 132, 133, 134, 144, 145, 146, 147, 148, 149, 150, 151, 152, 153, 154, 155, 156, 157, 158, 159, 160, 161, 162, 163, 164, 165, 166, 167, 168, 169, 170, 171, 172, 173, 174, 175, 176, 177, 178, 179, 180, 181, 182, 183, 184, 185, 186, 187, 188, 189, 190, 191, 192] (by decide +kernel) (by decide +kernel)
set_option maxRecDepth 20000 in
theorem gX7_state_X7_laysView : GoodIn wsX7_state (wsV RX7 264 RX7 yX7_laysView wsX7_laysView) := goodIn_app (goodIn_of _ (by decide +kernel)) ggX7_state_X7_laysView
set_option maxRecDepth 20000 in
theorem ggX7_state_X7_isInstruction : GoodIn wsX7_state wsX7_isInstruction := goodIn_r _ [138, 16, 46, 47, 5, 48, 144, 145, 146, 147, 148, 149, 150, 151, 152, 153, 154, 155, 156, 157, 158, 159, 160, 161, 162, 163, 164, 165, 166, 167, 168, 169, 170, 171, 172, 173, 174, 175, 176, 177, 178, 179, 180, 181, 182, 183, 184, 185, 186, 187, 188, 189, 190, 191, 192] (by decide +kernel) (by decide +kernel)
set_option maxRecDepth 20000 in
theorem gX7_state_X7_isInstruction : GoodIn wsX7_state (wsV RX7 146 RX7 yX7_isInstruction wsX7_isInstruction) := goodIn_app (goodIn_of _ (by decide +kernel)) ggX7_state_X7_isInstruction
set_option maxRecDepth 20000 in
theorem ggX7_state_X7_goes : GoodIn wsX7_state wsX7_goes := goodIn_r _ [142, 143, 144, 145, 146, 147, 148, 149, 150, 151, 152, 153, 154, 155, 156, 157, 158, 159, 160, 161, 162, 163, 164, 165, 166, 167, 168, 169, 170, 171, 172, 173, 174, 175, 176, 177, 178, 179, 180, 181, 182, 183, 184, 185, 186, 187, 188, 189, 190, 191, 192] (by decide +kernel) (by decide +kernel)
set_option maxRecDepth 20000 in
theorem gX7_state_X7_goes : GoodIn wsX7_state (wsV RX7 136 RX7 yX7_goes wsX7_goes) := goodIn_app (goodIn_of _ (by decide +kernel)) ggX7_state_X7_goes
theorem dX7_state_0 : decode cX7_state 0 = .ok (.aload_n 0, 1) := by decide +kernel
theorem dX7_state_1 : decode cX7_state 1 = .ok (.invokevirtual 264, 3) := by decide +kernel
theorem dX7_state_4 : decode cX7_state 4 = .ok (.aload_n 0, 1) := by decide +kernel
theorem dX7_state_5 : decode cX7_state 5 = .ok (.aload_n 0, 1) := by decide +kernel
theorem dX7_state_6 : decode cX7_state 6 = .ok (.iload_n 1, 1) := by decide +kernel
theorem dX7_state_7 : decode cX7_state 7 = .ok (.invokevirtual 146, 3) := by decide +kernel
theorem dX7_state_10 : decode cX7_state 10 = .ok (.ifCond .eq 7, 3) := by decide +kernel
theorem dX7_state_13 : decode cX7_state 13 = .ok (.iconst 0, 1) := by decide +kernel
theorem dX7_state_14 : decode cX7_state 14 = .ok (.goto 4, 3) := by decide +kernel
theorem dX7_state_17 : decode cX7_state 17 = .ok (.iconst 1, 1) := by decide +kernel
theorem dX7_state_18 : decode cX7_state 18 = .ok (.invokevirtual 136, 3) := by decide +kernel
theorem dX7_state_21 : decode cX7_state 21 = .ok (.ifCond .eq 12, 3) := by decide +kernel
theorem dX7_state_24 : decode cX7_state 24 = .ok (.aload_n 0, 1) := by decide +kernel
theorem dX7_state_25 : decode cX7_state 25 = .ok (.getfield 86, 3) := by decide +kernel
theorem dX7_state_28 : decode cX7_state 28 = .ok (.iload_n 1, 1) := by decide +kernel
theorem dX7_state_29 : decode cX7_state 29 = .ok (.iaload, 1) := by decide +kernel
theorem dX7_state_30 : decode cX7_state 30 = .ok (.goto 4, 3) := by decide +kernel
theorem dX7_state_33 : decode cX7_state 33 = .ok (.iconst 0, 1) := by decide +kernel
theorem dX7_state_34 : decode cX7_state 34 = .ok (.ireturn, 1) := by decide +kernel
set_option maxRecDepth 20000 in
theorem ggX7_commences_X7_isInstruction : GoodIn wsX7_commences wsX7_isInstruction := goodIn_r _ [6, 7, 8, 9, 5, 10, 30, 31, 32, 33, 34, 35, 36, 37, 38, 39, 40, 41, 42, 43, 44, 45, 46, 47, 48, 49, 50, 51, 52, 53, 54, 55, 56, 57, 58, 59, 60, 61, 62, 63, 64, 65, 66, 67, 68, 69, 70, 71, 72, 73, 74, 75, 76, 77, 78] (by decide +kernel) (by decide +kernel)
set_option maxRecDepth 20000 in
theorem gX7_commences_X7_isInstruction : GoodIn wsX7_commences (wsV RX7 146 RX7 yX7_isInstruction wsX7_isInstruction) := goodIn_app (goodIn_of _ (by decide +kernel)) ggX7_commences_X7_isInstruction
set_option maxRecDepth 20000 in
theorem ggX7_commences_X7_goes : GoodIn wsX7_commences wsX7_goes := goodIn_r _ [14, 15, 30, 31, 32, 33, 34, 35, 36, 37, 38, 39, 40, 41, 42, 43, 44, 45, 46, 47, 48, 49, 50, 51, 52, 53, 54, 55, 56, 57, 58, 59, 60, 61, 62, 63, 64, 65, 66, 67, 68, 69, 70, 71, 72, 73, 74, 75, 76, 77, 78] (by decide +kernel) (by decide +kernel)
set_option maxRecDepth 20000 in
theorem gX7_commences_X7_goes : GoodIn wsX7_commences (wsV RX7 136 RX7 yX7_goes wsX7_goes) := goodIn_app (goodIn_of _ (by decide +kernel)) ggX7_commences_X7_goes
set_option maxRecDepth 20000 in
theorem ggX7_commences_X7_commencesBy : GoodIn wsX7_commences wsX7_commencesBy := goodIn_r _ [19, 20, 21, 22, 23, 24, 25, 26, 27, 28, 5, 29, 30, 31, 32, 33, 34, 35, 36, 37, 38, 39, 40, 41, 42, 43, 44, 45, 46, 47, 48, 49, 50, 51, 52, 53, 54, 55, 56, 57, 58, 59, 60, 61, 62, 63, 64, 65, 66, 67, 68, 69, 70, 71, 72, 73, 74, 75, 76, 77, 78] (by decide +kernel) (by decide +kernel)
set_option maxRecDepth 20000 in
theorem gX7_commences_X7_commencesBy : GoodIn wsX7_commences (wsV RX7 183 RX7 yX7_commencesBy wsX7_commencesBy) := goodIn_app (goodIn_of _ (by decide +kernel)) ggX7_commences_X7_commencesBy
theorem dX7_commences_0 : decode cX7_commences 0 = .ok (.aload_n 0, 1) := by decide +kernel
theorem dX7_commences_1 : decode cX7_commences 1 = .ok (.aload_n 0, 1) := by decide +kernel
theorem dX7_commences_2 : decode cX7_commences 2 = .ok (.iload_n 1, 1) := by decide +kernel
theorem dX7_commences_3 : decode cX7_commences 3 = .ok (.invokevirtual 146, 3) := by decide +kernel
theorem dX7_commences_6 : decode cX7_commences 6 = .ok (.ifCond .eq 7, 3) := by decide +kernel
theorem dX7_commences_9 : decode cX7_commences 9 = .ok (.iconst 0, 1) := by decide +kernel
theorem dX7_commences_10 : decode cX7_commences 10 = .ok (.goto 4, 3) := by decide +kernel
theorem dX7_commences_13 : decode cX7_commences 13 = .ok (.iconst 1, 1) := by decide +kernel
theorem dX7_commences_14 : decode cX7_commences 14 = .ok (.invokevirtual 136, 3) := by decide +kernel
theorem dX7_commences_17 : decode cX7_commences 17 = .ok (.ifCond .eq 15, 3) := by decide +kernel
theorem dX7_commences_20 : decode cX7_commences 20 = .ok (.aload_n 0, 1) := by decide +kernel
theorem dX7_commences_21 : decode cX7_commences 21 = .ok (.iload_n 1, 1) := by decide +kernel
theorem dX7_commences_22 : decode cX7_commences 22 = .ok (.aload_n 0, 1) := by decide +kernel
theorem dX7_commences_23 : decode cX7_commences 23 = .ok (.getfield 255, 3) := by decide +kernel
theorem dX7_commences_26 : decode cX7_commences 26 = .ok (.invokevirtual 183, 3) := by decide +kernel
theorem dX7_commences_29 : decode cX7_commences 29 = .ok (.goto 4, 3) := by decide +kernel
theorem dX7_commences_32 : decode cX7_commences 32 = .ok (.iconst 0, 1) := by decide +kernel
theorem dX7_commences_33 : decode cX7_commences 33 = .ok (.ireturn, 1) := by decide +kernel
set_option maxRecDepth 20000 in
theorem ggX7_conflicts_X7_laysView : GoodIn wsX7_conflicts wsX7_laysView := goodIn_r _ [12, 13, 7, 14, 15, 16, 17, 11, 18, 19, 20, 2, 3, 21, 22, 23, 24, 25, 26, 27, 28, 29, 4, 30, 31, 32, 33, 34, 35, 36, 37, 38, 39, 40, 41, 42, 43, 44, 45, 46, 47, 48, 49, 50, 51, 52, 53, 54, 55, 6, 5, 56, 57, 58, 59, 60, 61, 62, 63, 64, 65, 66, 67, 68, 69, 70, 71, 72, 73, 74, 75, 76, 77, 78, 79, 80, 81, 82, 83, 84, 85, 86, 87, 88, 89, 90, 91, 92, 93, 94, 95, 96, 97, 98, 99, 100, 101, 102, 103, 104, 105, 106, 107, 108, 109, 110, 111, 112, 113, 114, 115, 116, 117, 118, 119, 120, 121, 122, 123, 124, 125, 126, 127, 128, 129, 130, 131, 132, 133, 134, 135, 136, 137, 138, 139, 140, 141, 142, 143, 144, 145, 146, 147, 148, 149, 150, 151, 152, 153, 154, 155, 156, 157, 158, 159, 160, 161, 162, 163, 164, 165, 166, 167, 168, 169, 170, 171, 172, 173, 174, 175, 176, 177, 178, 179, 180, 181, 182, 183, 184] (by decide +kernel) (by decide +kernel)
set_option maxRecDepth 20000 in
theorem gX7_conflicts_X7_laysView : GoodIn wsX7_conflicts (wsV RX7 264 RX7 yX7_laysView wsX7_laysView) := goodIn_app (goodIn_of _ (by decide +kernel)) ggX7_conflicts_X7_laysView
set_option maxRecDepth 20000 in
theorem ggX7_conflicts_X7_isIn : GoodIn wsX7_conflicts wsX7_isIn := goodIn_r _ [51] (by decide +kernel) (by decide +kernel)
set_option maxRecDepth 20000 in
theorem gX7_conflicts_X7_isIn : GoodIn wsX7_conflicts (va_wsS RX7 126 yX7_isIn wsX7_isIn) := goodIn_app (goodIn_of _ (by decide +kernel)) ggX7_conflicts_X7_isIn
set_option maxRecDepth 20000 in
theorem ggX7_conflicts_X7_commencesBy : GoodIn wsX7_conflicts wsX7_commencesBy := goodIn_r _ [28, 29, 4, 30, 31, 32, 33, 34, 35, 36, 11, 37, 136, 137, 138, 139, 140, 141, 142, 143, 144, 145, 146, 147, 148, 149, 150, 151, 152, 153, 154, 155, 156, 157, 158, 159, 160, 161, 162, 163, 164, 165, 166, 167, 168, 169, 170, 171, 172, 173, 174, 175, 176, 177, 178, 179, 180, 181, 182, 183, 184] (by decide +kernel) (by decide +kernel)
set_option maxRecDepth 20000 in
theorem gX7_conflicts_X7_commencesBy : GoodIn wsX7_conflicts (wsV RX7 183 RX7 yX7_commencesBy wsX7_commencesBy) := goodIn_app (goodIn_of _ (by decide +kernel)) ggX7_conflicts_X7_commencesBy
theorem dX7_conflicts_0 : decode cX7_conflicts 0 = .ok (.aload_n 0, 1) := by decide +kernel
theorem dX7_conflicts_1 : decode cX7_conflicts 1 = .ok (.iconst 0, 1) := by decide +kernel
theorem dX7_conflicts_2 : decode cX7_conflicts 2 = .ok (.putfield 120, 3) := by decide +kernel
theorem dX7_conflicts_5 : decode cX7_conflicts 5 = .ok (.aload_n 0, 1) := by decide +kernel
theorem dX7_conflicts_6 : decode cX7_conflicts 6 = .ok (.invokevirtual 264, 3) := by decide +kernel
theorem dX7_conflicts_9 : decode cX7_conflicts 9 = .ok (.iconst 0, 1) := by decide +kernel
theorem dX7_conflicts_10 : decode cX7_conflicts 10 = .ok (.istore_n 1, 1) := by decide +kernel
theorem dX7_conflicts_11 : decode cX7_conflicts 11 = .ok (.iconst 0, 1) := by decide +kernel
theorem dX7_conflicts_12 : decode cX7_conflicts 12 = .ok (.istore_n 2, 1) := by decide +kernel
theorem dX7_conflicts_13 : decode cX7_conflicts 13 = .ok (.iload_n 2, 1) := by decide +kernel
theorem dX7_conflicts_14 : decode cX7_conflicts 14 = .ok (.aload_n 0, 1) := by decide +kernel
theorem dX7_conflicts_15 : decode cX7_conflicts 15 = .ok (.getfield 123, 3) := by decide +kernel
theorem dX7_conflicts_18 : decode cX7_conflicts 18 = .ok (.if_icmp .ge 155, 3) := by decide +kernel
theorem dX7_conflicts_21 : decode cX7_conflicts 21 = .ok (.iconst 0, 1) := by decide +kernel
theorem dX7_conflicts_22 : decode cX7_conflicts 22 = .ok (.istore_n 3, 1) := by decide +kernel
theorem dX7_conflicts_23 : decode cX7_conflicts 23 = .ok (.iload_n 3, 1) := by decide +kernel
theorem dX7_conflicts_24 : decode cX7_conflicts 24 = .ok (.iload_n 2, 1) := by decide +kernel
theorem dX7_conflicts_25 : decode cX7_conflicts 25 = .ok (.if_icmp .ge 142, 3) := by decide +kernel
theorem dX7_conflicts_28 : decode cX7_conflicts 28 = .ok (.aload_n 0, 1) := by decide +kernel
theorem dX7_conflicts_29 : decode cX7_conflicts 29 = .ok (.getfield 86, 3) := by decide +kernel
theorem dX7_conflicts_32 : decode cX7_conflicts 32 = .ok (.iload_n 2, 1) := by decide +kernel
theorem dX7_conflicts_33 : decode cX7_conflicts 33 = .ok (.iaload, 1) := by decide +kernel
theorem dX7_conflicts_34 : decode cX7_conflicts 34 = .ok (.iconst 1, 1) := by decide +kernel
theorem dX7_conflicts_35 : decode cX7_conflicts 35 = .ok (.if_icmp .ne 47, 3) := by decide +kernel
theorem dX7_conflicts_38 : decode cX7_conflicts 38 = .ok (.aload_n 0, 1) := by decide +kernel
theorem dX7_conflicts_39 : decode cX7_conflicts 39 = .ok (.getfield 86, 3) := by decide +kernel
theorem dX7_conflicts_42 : decode cX7_conflicts 42 = .ok (.iload_n 3, 1) := by decide +kernel
theorem dX7_conflicts_43 : decode cX7_conflicts 43 = .ok (.iaload, 1) := by decide +kernel
theorem dX7_conflicts_44 : decode cX7_conflicts 44 = .ok (.iconst 1, 1) := by decide +kernel
theorem dX7_conflicts_45 : decode cX7_conflicts 45 = .ok (.if_icmp .ne 37, 3) := by decide +kernel
theorem dX7_conflicts_48 : decode cX7_conflicts 48 = .ok (.aload_n 0, 1) := by decide +kernel
theorem dX7_conflicts_49 : decode cX7_conflicts 49 = .ok (.getfield 29, 3) := by decide +kernel
theorem dX7_conflicts_52 : decode cX7_conflicts 52 = .ok (.iload_n 2, 1) := by decide +kernel
theorem dX7_conflicts_53 : decode cX7_conflicts 53 = .ok (.iaload, 1) := by decide +kernel
theorem dX7_conflicts_54 : decode cX7_conflicts 54 = .ok (.aload_n 0, 1) := by decide +kernel
theorem dX7_conflicts_55 : decode cX7_conflicts 55 = .ok (.getfield 29, 3) := by decide +kernel
theorem dX7_conflicts_58 : decode cX7_conflicts 58 = .ok (.iload_n 3, 1) := by decide +kernel
theorem dX7_conflicts_59 : decode cX7_conflicts 59 = .ok (.iaload, 1) := by decide +kernel
theorem dX7_conflicts_60 : decode cX7_conflicts 60 = .ok (.if_icmp .eq 22, 3) := by decide +kernel
theorem dX7_conflicts_63 : decode cX7_conflicts 63 = .ok (.aload_n 0, 1) := by decide +kernel
theorem dX7_conflicts_64 : decode cX7_conflicts 64 = .ok (.getfield 32, 3) := by decide +kernel
theorem dX7_conflicts_67 : decode cX7_conflicts 67 = .ok (.iload_n 2, 1) := by decide +kernel
theorem dX7_conflicts_68 : decode cX7_conflicts 68 = .ok (.iaload, 1) := by decide +kernel
theorem dX7_conflicts_69 : decode cX7_conflicts 69 = .ok (.aload_n 0, 1) := by decide +kernel
theorem dX7_conflicts_70 : decode cX7_conflicts 70 = .ok (.getfield 32, 3) := by decide +kernel
theorem dX7_conflicts_73 : decode cX7_conflicts 73 = .ok (.iload_n 3, 1) := by decide +kernel
theorem dX7_conflicts_74 : decode cX7_conflicts 74 = .ok (.iaload, 1) := by decide +kernel
theorem dX7_conflicts_75 : decode cX7_conflicts 75 = .ok (.if_icmp .ne 7, 3) := by decide +kernel
theorem dX7_conflicts_78 : decode cX7_conflicts 78 = .ok (.iconst 1, 1) := by decide +kernel
theorem dX7_conflicts_79 : decode cX7_conflicts 79 = .ok (.goto 4, 3) := by decide +kernel
theorem dX7_conflicts_82 : decode cX7_conflicts 82 = .ok (.iconst 0, 1) := by decide +kernel
theorem dX7_conflicts_83 : decode cX7_conflicts 83 = .ok (.istore 4, 2) := by decide +kernel
theorem dX7_conflicts_85 : decode cX7_conflicts 85 = .ok (.aload_n 0, 1) := by decide +kernel
theorem dX7_conflicts_86 : decode cX7_conflicts 86 = .ok (.getfield 26, 3) := by decide +kernel
theorem dX7_conflicts_89 : decode cX7_conflicts 89 = .ok (.iload_n 2, 1) := by decide +kernel
theorem dX7_conflicts_90 : decode cX7_conflicts 90 = .ok (.iaload, 1) := by decide +kernel
theorem dX7_conflicts_91 : decode cX7_conflicts 91 = .ok (.iconst 1, 1) := by decide +kernel
theorem dX7_conflicts_92 : decode cX7_conflicts 92 = .ok (.bipush 6, 2) := by decide +kernel
theorem dX7_conflicts_94 : decode cX7_conflicts 94 = .ok (.invokestatic 126, 3) := by decide +kernel
theorem dX7_conflicts_97 : decode cX7_conflicts 97 = .ok (.ifCond .eq 22, 3) := by decide +kernel
theorem dX7_conflicts_100 : decode cX7_conflicts 100 = .ok (.aload_n 0, 1) := by decide +kernel
theorem dX7_conflicts_101 : decode cX7_conflicts 101 = .ok (.getfield 26, 3) := by decide +kernel
theorem dX7_conflicts_104 : decode cX7_conflicts 104 = .ok (.iload_n 3, 1) := by decide +kernel
theorem dX7_conflicts_105 : decode cX7_conflicts 105 = .ok (.iaload, 1) := by decide +kernel
theorem dX7_conflicts_106 : decode cX7_conflicts 106 = .ok (.iconst 1, 1) := by decide +kernel
theorem dX7_conflicts_107 : decode cX7_conflicts 107 = .ok (.bipush 6, 2) := by decide +kernel
theorem dX7_conflicts_109 : decode cX7_conflicts 109 = .ok (.invokestatic 126, 3) := by decide +kernel
theorem dX7_conflicts_112 : decode cX7_conflicts 112 = .ok (.ifCond .eq 7, 3) := by decide +kernel
theorem dX7_conflicts_115 : decode cX7_conflicts 115 = .ok (.iconst 1, 1) := by decide +kernel
theorem dX7_conflicts_116 : decode cX7_conflicts 116 = .ok (.goto 4, 3) := by decide +kernel
theorem dX7_conflicts_119 : decode cX7_conflicts 119 = .ok (.iconst 0, 1) := by decide +kernel
theorem dX7_conflicts_120 : decode cX7_conflicts 120 = .ok (.istore 5, 2) := by decide +kernel
theorem dX7_conflicts_122 : decode cX7_conflicts 122 = .ok (.iload_n 1, 1) := by decide +kernel
theorem dX7_conflicts_123 : decode cX7_conflicts 123 = .ok (.iload 4, 2) := by decide +kernel
theorem dX7_conflicts_125 : decode cX7_conflicts 125 = .ok (.ifCond .eq 33, 3) := by decide +kernel
theorem dX7_conflicts_128 : decode cX7_conflicts 128 = .ok (.iload 5, 2) := by decide +kernel
theorem dX7_conflicts_130 : decode cX7_conflicts 130 = .ok (.ifCond .eq 28, 3) := by decide +kernel
theorem dX7_conflicts_133 : decode cX7_conflicts 133 = .ok (.aload_n 0, 1) := by decide +kernel
theorem dX7_conflicts_134 : decode cX7_conflicts 134 = .ok (.iload_n 2, 1) := by decide +kernel
theorem dX7_conflicts_135 : decode cX7_conflicts 135 = .ok (.aload_n 0, 1) := by decide +kernel
theorem dX7_conflicts_136 : decode cX7_conflicts 136 = .ok (.getfield 255, 3) := by decide +kernel
theorem dX7_conflicts_139 : decode cX7_conflicts 139 = .ok (.invokevirtual 183, 3) := by decide +kernel
theorem dX7_conflicts_142 : decode cX7_conflicts 142 = .ok (.aload_n 0, 1) := by decide +kernel
theorem dX7_conflicts_143 : decode cX7_conflicts 143 = .ok (.iload_n 3, 1) := by decide +kernel
theorem dX7_conflicts_144 : decode cX7_conflicts 144 = .ok (.aload_n 0, 1) := by decide +kernel
theorem dX7_conflicts_145 : decode cX7_conflicts 145 = .ok (.getfield 255, 3) := by decide +kernel
theorem dX7_conflicts_148 : decode cX7_conflicts 148 = .ok (.invokevirtual 183, 3) := by decide +kernel
theorem dX7_conflicts_151 : decode cX7_conflicts 151 = .ok (.if_icmp .ne 7, 3) := by decide +kernel
theorem dX7_conflicts_154 : decode cX7_conflicts 154 = .ok (.iconst 1, 1) := by decide +kernel
theorem dX7_conflicts_155 : decode cX7_conflicts 155 = .ok (.goto 4, 3) := by decide +kernel
theorem dX7_conflicts_158 : decode cX7_conflicts 158 = .ok (.iconst 0, 1) := by decide +kernel
theorem dX7_conflicts_159 : decode cX7_conflicts 159 = .ok (.iadd, 1) := by decide +kernel
theorem dX7_conflicts_160 : decode cX7_conflicts 160 = .ok (.istore_n 1, 1) := by decide +kernel
theorem dX7_conflicts_161 : decode cX7_conflicts 161 = .ok (.iinc 3 1, 3) := by decide +kernel
theorem dX7_conflicts_164 : decode cX7_conflicts 164 = .ok (.goto (-141), 3) := by decide +kernel
theorem dX7_conflicts_167 : decode cX7_conflicts 167 = .ok (.iinc 2 1, 3) := by decide +kernel
theorem dX7_conflicts_170 : decode cX7_conflicts 170 = .ok (.goto (-157), 3) := by decide +kernel
theorem dX7_conflicts_173 : decode cX7_conflicts 173 = .ok (.iload_n 1, 1) := by decide +kernel
theorem dX7_conflicts_174 : decode cX7_conflicts 174 = .ok (.ireturn, 1) := by decide +kernel
set_option maxRecDepth 20000 in
theorem ggX7_print_X7_laysView : GoodIn wsX7_print wsX7_laysView := goodIn_r _ [12, 13, 14, 15, 16, 17, 18, 11, 19, 20, 5, 21, 22, 23, 24, 25, 26, 27, 28, 29, 30, 31, 32, 33, 34, 35, 36, 37, 38, 39, 40, 41, 42, 43, 44, 45, 46, 47, 48, 49, 50, 51, 52, 53, 54, 55, 56, 57, 58, 59, 60, 61, 62, 63, 64, 65, 66, 67, 68, 4, 69, 70, 71, 72, 73, 74, 75, 76, 77, 78, 79, 80, 81, 82, 83, 84, 85, 86, 87, 88, 89, 90, 91, 6, 7, 92, 93, 94, 95, 96, 97, 98, 99, 100, 101, 102, 103, 104, 105, 106, 107, 108, 109, 110, 111, 112, 113, 114, 115, 116, 117, 118, 119, 120, 121, 122, 123, 124, 125, 126, 127, 128, 129, 130, 131, 132, 133, 134, 135, 136, 137, 149, 150, 151, 152, 153, 154, 155, 156, 157, 158, 159, 160, 161, 162, 163, 164, 165, 166, 167, 168, 169, 170, 171, 172, 173, 174, 175, 176, 177, 178, 179, 180, 181, 182, 183, 184, 185, 186, 187, 188, 189, 190, 191, 192, 193, 194, 195, 196, 197] (by decide +kernel) (by decide +kernel)
set_option maxRecDepth 20000 in
theorem gX7_print_X7_laysView : GoodIn wsX7_print (wsV RX7 264 RX7 yX7_laysView wsX7_laysView) := goodIn_app (goodIn_of _ (by decide +kernel)) ggX7_print_X7_laysView
set_option maxRecDepth 20000 in
theorem ggX7_print_X7_behind : GoodIn wsX7_print wsX7_behind := goodIn_r _ [141, 68, 4, 142, 143, 144, 11, 145, 77, 20, 146, 147, 148, 149, 150, 151, 152, 153, 154, 155, 156, 157, 158, 159, 160, 161, 162, 163, 164, 165, 166, 167, 168, 169, 170, 171, 172, 173, 174, 175, 176, 177, 178, 179, 180, 181, 182, 183, 184, 185, 186, 187, 188, 189, 190, 191, 192, 193, 194, 195, 196, 197] (by decide +kernel) (by decide +kernel)
set_option maxRecDepth 20000 in
theorem gX7_print_X7_behind : GoodIn wsX7_print (wsV RX7 278 RX7 yX7_behind wsX7_behind) := goodIn_app (goodIn_of _ (by decide +kernel)) ggX7_print_X7_behind
theorem dX7_print_0 : decode cX7_print 0 = .ok (.aload_n 0, 1) := by decide +kernel
theorem dX7_print_1 : decode cX7_print 1 = .ok (.iconst 0, 1) := by decide +kernel
theorem dX7_print_2 : decode cX7_print 2 = .ok (.putfield 120, 3) := by decide +kernel
theorem dX7_print_5 : decode cX7_print 5 = .ok (.aload_n 0, 1) := by decide +kernel
theorem dX7_print_6 : decode cX7_print 6 = .ok (.invokevirtual 264, 3) := by decide +kernel
theorem dX7_print_9 : decode cX7_print 9 = .ok (.ldc2_w 290, 3) := by decide +kernel
theorem dX7_print_12 : decode cX7_print 12 = .ok (.lstore_n 1, 1) := by decide +kernel
theorem dX7_print_13 : decode cX7_print 13 = .ok (.aload_n 0, 1) := by decide +kernel
theorem dX7_print_14 : decode cX7_print 14 = .ok (.iconst (-1), 1) := by decide +kernel
theorem dX7_print_15 : decode cX7_print 15 = .ok (.invokevirtual 278, 3) := by decide +kernel
theorem dX7_print_18 : decode cX7_print 18 = .ok (.istore_n 3, 1) := by decide +kernel
theorem dX7_print_19 : decode cX7_print 19 = .ok (.iload_n 3, 1) := by decide +kernel
theorem dX7_print_20 : decode cX7_print 20 = .ok (.iconst (-1), 1) := by decide +kernel
theorem dX7_print_21 : decode cX7_print 21 = .ok (.if_icmp .eq 103, 3) := by decide +kernel
theorem dX7_print_24 : decode cX7_print 24 = .ok (.ldc2_w 292, 3) := by decide +kernel
theorem dX7_print_27 : decode cX7_print 27 = .ok (.ldc2_w 292, 3) := by decide +kernel
theorem dX7_print_30 : decode cX7_print 30 = .ok (.ldc2_w 292, 3) := by decide +kernel
theorem dX7_print_33 : decode cX7_print 33 = .ok (.lload_n 1, 1) := by decide +kernel
theorem dX7_print_34 : decode cX7_print 34 = .ok (.lmul, 1) := by decide +kernel
theorem dX7_print_35 : decode cX7_print 35 = .ok (.iload_n 3, 1) := by decide +kernel
theorem dX7_print_36 : decode cX7_print 36 = .ok (.i2l, 1) := by decide +kernel
theorem dX7_print_37 : decode cX7_print 37 = .ok (.ladd, 1) := by decide +kernel
theorem dX7_print_38 : decode cX7_print 38 = .ok (.lmul, 1) := by decide +kernel
theorem dX7_print_39 : decode cX7_print 39 = .ok (.aload_n 0, 1) := by decide +kernel
theorem dX7_print_40 : decode cX7_print 40 = .ok (.getfield 93, 3) := by decide +kernel
theorem dX7_print_43 : decode cX7_print 43 = .ok (.iload_n 3, 1) := by decide +kernel
theorem dX7_print_44 : decode cX7_print 44 = .ok (.iaload, 1) := by decide +kernel
theorem dX7_print_45 : decode cX7_print 45 = .ok (.i2l, 1) := by decide +kernel
theorem dX7_print_46 : decode cX7_print 46 = .ok (.ladd, 1) := by decide +kernel
theorem dX7_print_47 : decode cX7_print 47 = .ok (.lmul, 1) := by decide +kernel
theorem dX7_print_48 : decode cX7_print 48 = .ok (.aload_n 0, 1) := by decide +kernel
theorem dX7_print_49 : decode cX7_print 49 = .ok (.getfield 99, 3) := by decide +kernel
theorem dX7_print_52 : decode cX7_print 52 = .ok (.iload_n 3, 1) := by decide +kernel
theorem dX7_print_53 : decode cX7_print 53 = .ok (.iaload, 1) := by decide +kernel
theorem dX7_print_54 : decode cX7_print 54 = .ok (.i2l, 1) := by decide +kernel
theorem dX7_print_55 : decode cX7_print 55 = .ok (.ladd, 1) := by decide +kernel
theorem dX7_print_56 : decode cX7_print 56 = .ok (.lstore_n 1, 1) := by decide +kernel
theorem dX7_print_57 : decode cX7_print 57 = .ok (.iconst 0, 1) := by decide +kernel
theorem dX7_print_58 : decode cX7_print 58 = .ok (.istore 4, 2) := by decide +kernel
theorem dX7_print_60 : decode cX7_print 60 = .ok (.iload 4, 2) := by decide +kernel
theorem dX7_print_62 : decode cX7_print 62 = .ok (.aload_n 0, 1) := by decide +kernel
theorem dX7_print_63 : decode cX7_print 63 = .ok (.getfield 99, 3) := by decide +kernel
theorem dX7_print_66 : decode cX7_print 66 = .ok (.iload_n 3, 1) := by decide +kernel
theorem dX7_print_67 : decode cX7_print 67 = .ok (.iaload, 1) := by decide +kernel
theorem dX7_print_68 : decode cX7_print 68 = .ok (.if_icmp .ge 47, 3) := by decide +kernel
theorem dX7_print_71 : decode cX7_print 71 = .ok (.ldc2_w 292, 3) := by decide +kernel
theorem dX7_print_74 : decode cX7_print 74 = .ok (.ldc2_w 292, 3) := by decide +kernel
theorem dX7_print_77 : decode cX7_print 77 = .ok (.lload_n 1, 1) := by decide +kernel
theorem dX7_print_78 : decode cX7_print 78 = .ok (.lmul, 1) := by decide +kernel
theorem dX7_print_79 : decode cX7_print 79 = .ok (.aload_n 0, 1) := by decide +kernel
theorem dX7_print_80 : decode cX7_print 80 = .ok (.getfield 102, 3) := by decide +kernel
theorem dX7_print_83 : decode cX7_print 83 = .ok (.bipush 12, 2) := by decide +kernel
theorem dX7_print_85 : decode cX7_print 85 = .ok (.iload_n 3, 1) := by decide +kernel
theorem dX7_print_86 : decode cX7_print 86 = .ok (.imul, 1) := by decide +kernel
theorem dX7_print_87 : decode cX7_print 87 = .ok (.iload 4, 2) := by decide +kernel
theorem dX7_print_89 : decode cX7_print 89 = .ok (.iadd, 1) := by decide +kernel
theorem dX7_print_90 : decode cX7_print 90 = .ok (.iaload, 1) := by decide +kernel
theorem dX7_print_91 : decode cX7_print 91 = .ok (.i2l, 1) := by decide +kernel
theorem dX7_print_92 : decode cX7_print 92 = .ok (.ladd, 1) := by decide +kernel
theorem dX7_print_93 : decode cX7_print 93 = .ok (.lmul, 1) := by decide +kernel
theorem dX7_print_94 : decode cX7_print 94 = .ok (.aload_n 0, 1) := by decide +kernel
theorem dX7_print_95 : decode cX7_print 95 = .ok (.getfield 105, 3) := by decide +kernel
theorem dX7_print_98 : decode cX7_print 98 = .ok (.bipush 12, 2) := by decide +kernel
theorem dX7_print_100 : decode cX7_print 100 = .ok (.iload_n 3, 1) := by decide +kernel
theorem dX7_print_101 : decode cX7_print 101 = .ok (.imul, 1) := by decide +kernel
theorem dX7_print_102 : decode cX7_print 102 = .ok (.iload 4, 2) := by decide +kernel
theorem dX7_print_104 : decode cX7_print 104 = .ok (.iadd, 1) := by decide +kernel
theorem dX7_print_105 : decode cX7_print 105 = .ok (.iaload, 1) := by decide +kernel
theorem dX7_print_106 : decode cX7_print 106 = .ok (.i2l, 1) := by decide +kernel
theorem dX7_print_107 : decode cX7_print 107 = .ok (.ladd, 1) := by decide +kernel
theorem dX7_print_108 : decode cX7_print 108 = .ok (.lstore_n 1, 1) := by decide +kernel
