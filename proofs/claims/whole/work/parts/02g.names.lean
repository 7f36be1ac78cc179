theorem dX7_putsOld_18 : decode cX7_putsOld 18 = .ok (.iload 4, 2) := by decide +kernel
theorem dX7_putsOld_20 : decode cX7_putsOld 20 = .ok (.iadd, 1) := by decide +kernel
theorem dX7_putsOld_21 : decode cX7_putsOld 21 = .ok (.iaload, 1) := by decide +kernel
theorem dX7_putsOld_22 : decode cX7_putsOld 22 = .ok (.aload_n 0, 1) := by decide +kernel
theorem dX7_putsOld_23 : decode cX7_putsOld 23 = .ok (.getfield 105, 3) := by decide +kernel
theorem dX7_putsOld_26 : decode cX7_putsOld 26 = .ok (.bipush 12, 2) := by decide +kernel
theorem dX7_putsOld_28 : decode cX7_putsOld 28 = .ok (.iload_n 1, 1) := by decide +kernel
theorem dX7_putsOld_29 : decode cX7_putsOld 29 = .ok (.imul, 1) := by decide +kernel
theorem dX7_putsOld_30 : decode cX7_putsOld 30 = .ok (.iload 4, 2) := by decide +kernel
theorem dX7_putsOld_32 : decode cX7_putsOld 32 = .ok (.iadd, 1) := by decide +kernel
theorem dX7_putsOld_33 : decode cX7_putsOld 33 = .ok (.iaload, 1) := by decide +kernel
theorem dX7_putsOld_34 : decode cX7_putsOld 34 = .ok (.invokevirtual 193, 3) := by decide +kernel
theorem dX7_putsOld_37 : decode cX7_putsOld 37 = .ok (.iinc 4 1, 3) := by decide +kernel
theorem dX7_putsOld_40 : decode cX7_putsOld 40 = .ok (.goto (-37), 3) := by decide +kernel
theorem dX7_putsOld_43 : decode cX7_putsOld 43 = .ok (.return_, 1) := by decide +kernel
theorem dX7_takes_0 : decode cX7_takes 0 = .ok (.aload_n 0, 1) := by decide +kernel
theorem dX7_takes_1 : decode cX7_takes 1 = .ok (.getfield 190, 3) := by decide +kernel
theorem dX7_takes_4 : decode cX7_takes 4 = .ok (.bipush 12, 2) := by decide +kernel
theorem dX7_takes_6 : decode cX7_takes 6 = .ok (.if_icmp .le 5, 3) := by decide +kernel
theorem dX7_takes_9 : decode cX7_takes 9 = .ok (.iconst 0, 1) := by decide +kernel
theorem dX7_takes_10 : decode cX7_takes 10 = .ok (.ireturn, 1) := by decide +kernel
theorem dX7_takes_11 : decode cX7_takes 11 = .ok (.iconst 0, 1) := by decide +kernel
theorem dX7_takes_12 : decode cX7_takes 12 = .ok (.istore_n 2, 1) := by decide +kernel
theorem dX7_takes_13 : decode cX7_takes 13 = .ok (.iload_n 2, 1) := by decide +kernel
theorem dX7_takes_14 : decode cX7_takes 14 = .ok (.aload_n 0, 1) := by decide +kernel
theorem dX7_takes_15 : decode cX7_takes 15 = .ok (.getfield 190, 3) := by decide +kernel
theorem dX7_takes_18 : decode cX7_takes 18 = .ok (.if_icmp .ge 43, 3) := by decide +kernel
theorem dX7_takes_21 : decode cX7_takes 21 = .ok (.aload_n 0, 1) := by decide +kernel
theorem dX7_takes_22 : decode cX7_takes 22 = .ok (.getfield 102, 3) := by decide +kernel
theorem dX7_takes_25 : decode cX7_takes 25 = .ok (.bipush 12, 2) := by decide +kernel
theorem dX7_takes_27 : decode cX7_takes 27 = .ok (.iload_n 1, 1) := by decide +kernel
theorem dX7_takes_28 : decode cX7_takes 28 = .ok (.imul, 1) := by decide +kernel
theorem dX7_takes_29 : decode cX7_takes 29 = .ok (.iload_n 2, 1) := by decide +kernel
theorem dX7_takes_30 : decode cX7_takes 30 = .ok (.iadd, 1) := by decide +kernel
theorem dX7_takes_31 : decode cX7_takes 31 = .ok (.aload_n 0, 1) := by decide +kernel
theorem dX7_takes_32 : decode cX7_takes 32 = .ok (.getfield 114, 3) := by decide +kernel
theorem dX7_takes_35 : decode cX7_takes 35 = .ok (.iload_n 2, 1) := by decide +kernel
theorem dX7_takes_36 : decode cX7_takes 36 = .ok (.iaload, 1) := by decide +kernel
theorem dX7_takes_37 : decode cX7_takes 37 = .ok (.iastore, 1) := by decide +kernel
theorem dX7_takes_38 : decode cX7_takes 38 = .ok (.aload_n 0, 1) := by decide +kernel
theorem dX7_takes_39 : decode cX7_takes 39 = .ok (.getfield 105, 3) := by decide +kernel
theorem dX7_takes_42 : decode cX7_takes 42 = .ok (.bipush 12, 2) := by decide +kernel
theorem dX7_takes_44 : decode cX7_takes 44 = .ok (.iload_n 1, 1) := by decide +kernel
theorem dX7_takes_45 : decode cX7_takes 45 = .ok (.imul, 1) := by decide +kernel
theorem dX7_takes_46 : decode cX7_takes 46 = .ok (.iload_n 2, 1) := by decide +kernel
theorem dX7_takes_47 : decode cX7_takes 47 = .ok (.iadd, 1) := by decide +kernel
theorem dX7_takes_48 : decode cX7_takes 48 = .ok (.aload_n 0, 1) := by decide +kernel
theorem dX7_takes_49 : decode cX7_takes 49 = .ok (.getfield 117, 3) := by decide +kernel
theorem dX7_takes_52 : decode cX7_takes 52 = .ok (.iload_n 2, 1) := by decide +kernel
theorem dX7_takes_53 : decode cX7_takes 53 = .ok (.iaload, 1) := by decide +kernel
theorem dX7_takes_54 : decode cX7_takes 54 = .ok (.iastore, 1) := by decide +kernel
theorem dX7_takes_55 : decode cX7_takes 55 = .ok (.iinc 2 1, 3) := by decide +kernel
theorem dX7_takes_58 : decode cX7_takes 58 = .ok (.goto (-45), 3) := by decide +kernel
theorem dX7_takes_61 : decode cX7_takes 61 = .ok (.aload_n 0, 1) := by decide +kernel
theorem dX7_takes_62 : decode cX7_takes 62 = .ok (.getfield 99, 3) := by decide +kernel
theorem dX7_takes_65 : decode cX7_takes 65 = .ok (.iload_n 1, 1) := by decide +kernel
theorem dX7_takes_66 : decode cX7_takes 66 = .ok (.aload_n 0, 1) := by decide +kernel
theorem dX7_takes_67 : decode cX7_takes 67 = .ok (.getfield 190, 3) := by decide +kernel
theorem dX7_takes_70 : decode cX7_takes 70 = .ok (.iastore, 1) := by decide +kernel
theorem dX7_takes_71 : decode cX7_takes 71 = .ok (.iconst 1, 1) := by decide +kernel
theorem dX7_takes_72 : decode cX7_takes 72 = .ok (.ireturn, 1) := by decide +kernel
set_option maxRecDepth 20000 in
theorem ggX7_enacts_X7_isPlace : GoodIn wsX7_enacts wsX7_isPlace := goodIn_r _ [11, 4, 37, 38, 39, 40, 41, 42, 43, 44, 45, 46, 47, 48, 49, 50, 51, 52, 53, 54, 55, 56, 57, 58, 59, 60, 61, 62, 63, 64, 65, 66, 67, 68, 69, 70, 71, 72, 73, 74, 75, 76, 77, 78, 79, 80, 81, 82, 83, 84, 85] (by decide +kernel) (by decide +kernel)
set_option maxRecDepth 20000 in
theorem gX7_enacts_X7_isPlace : GoodIn wsX7_enacts (wsV RX7 197 RX7 yX7_isPlace wsX7_isPlace) := goodIn_app (goodIn_of _ (by decide +kernel)) ggX7_enacts_X7_isPlace
set_option maxRecDepth 20000 in
theorem ggX7_enacts_X7_hasLabel : GoodIn wsX7_enacts wsX7_hasLabel := goodIn_r _ [15, 16, 4, 5, 6, 37, 38, 39, 40, 41, 42, 43, 44, 45, 46, 47, 48, 49, 50, 51, 52, 53, 54, 55, 56, 57, 58, 59, 60, 61, 62, 63, 64, 65, 66, 67, 68, 69, 70, 71, 72, 73, 74, 75, 76, 77, 78, 79, 80, 81, 82, 83, 84, 85] (by decide +kernel) (by decide +kernel)
set_option maxRecDepth 20000 in
theorem gX7_enacts_X7_hasLabel : GoodIn wsX7_enacts (wsV RX7 200 RX7 yX7_hasLabel wsX7_hasLabel) := goodIn_app (goodIn_of _ (by decide +kernel)) ggX7_enacts_X7_hasLabel
set_option maxRecDepth 20000 in
theorem ggX7_enacts_X7_putsNew : GoodIn wsX7_enacts wsX7_putsNew := goodIn_r _ [20, 21, 22, 23, 24, 25, 10, 26, 27, 28, 29, 37, 38, 39, 40, 41, 42, 43, 44, 45, 46, 47, 48, 49, 50, 51, 52, 53, 54, 55, 56, 57, 58, 59, 60, 61, 62, 63, 64, 65, 66, 67, 68, 69, 70, 71, 72, 73, 74, 75, 76, 77, 78, 79, 80, 81, 82, 83, 84, 85] (by decide +kernel) (by decide +kernel)
set_option maxRecDepth 20000 in
theorem gX7_enacts_X7_putsNew : GoodIn wsX7_enacts (wsV RX7 203 RX7 yX7_putsNew wsX7_putsNew) := goodIn_app (goodIn_of _ (by decide +kernel)) ggX7_enacts_X7_putsNew
set_option maxRecDepth 20000 in
theorem ggX7_enacts_X7_takes : GoodIn wsX7_enacts wsX7_takes := goodIn_r _ [33, 28, 34, 27, 35, 29, 36, 37, 38, 39, 40, 41, 42, 43, 44, 45, 46, 47, 48, 49, 50, 51, 52, 53, 54, 55, 56, 57, 58, 59, 60, 61, 62, 63, 64, 65, 66, 67, 68, 69, 70, 71, 72, 73, 74, 75, 76, 77, 78, 79, 80, 81, 82, 83, 84, 85] (by decide +kernel) (by decide +kernel)
set_option maxRecDepth 20000 in
theorem gX7_enacts_X7_takes : GoodIn wsX7_enacts (wsV RX7 207 RX7 yX7_takes wsX7_takes) := goodIn_app (goodIn_of _ (by decide +kernel)) ggX7_enacts_X7_takes
theorem dX7_enacts_0 : decode cX7_enacts 0 = .ok (.aload_n 0, 1) := by decide +kernel
theorem dX7_enacts_1 : decode cX7_enacts 1 = .ok (.getfield 32, 3) := by decide +kernel
theorem dX7_enacts_4 : decode cX7_enacts 4 = .ok (.iload_n 1, 1) := by decide +kernel
theorem dX7_enacts_5 : decode cX7_enacts 5 = .ok (.iaload, 1) := by decide +kernel
theorem dX7_enacts_6 : decode cX7_enacts 6 = .ok (.istore_n 2, 1) := by decide +kernel
theorem dX7_enacts_7 : decode cX7_enacts 7 = .ok (.aload_n 0, 1) := by decide +kernel
theorem dX7_enacts_8 : decode cX7_enacts 8 = .ok (.getfield 35, 3) := by decide +kernel
theorem dX7_enacts_11 : decode cX7_enacts 11 = .ok (.iload_n 1, 1) := by decide +kernel
theorem dX7_enacts_12 : decode cX7_enacts 12 = .ok (.iaload, 1) := by decide +kernel
theorem dX7_enacts_13 : decode cX7_enacts 13 = .ok (.istore_n 3, 1) := by decide +kernel
theorem dX7_enacts_14 : decode cX7_enacts 14 = .ok (.aload_n 0, 1) := by decide +kernel
theorem dX7_enacts_15 : decode cX7_enacts 15 = .ok (.iload_n 3, 1) := by decide +kernel
theorem dX7_enacts_16 : decode cX7_enacts 16 = .ok (.invokevirtual 197, 3) := by decide +kernel
theorem dX7_enacts_19 : decode cX7_enacts 19 = .ok (.ifCond .eq 18, 3) := by decide +kernel
theorem dX7_enacts_22 : decode cX7_enacts 22 = .ok (.aload_n 0, 1) := by decide +kernel
theorem dX7_enacts_23 : decode cX7_enacts 23 = .ok (.iload_n 3, 1) := by decide +kernel
theorem dX7_enacts_24 : decode cX7_enacts 24 = .ok (.aload_n 0, 1) := by decide +kernel
theorem dX7_enacts_25 : decode cX7_enacts 25 = .ok (.getfield 38, 3) := by decide +kernel
theorem dX7_enacts_28 : decode cX7_enacts 28 = .ok (.iload_n 1, 1) := by decide +kernel
theorem dX7_enacts_29 : decode cX7_enacts 29 = .ok (.iaload, 1) := by decide +kernel
theorem dX7_enacts_30 : decode cX7_enacts 30 = .ok (.iconst (-1), 1) := by decide +kernel
theorem dX7_enacts_31 : decode cX7_enacts 31 = .ok (.invokevirtual 200, 3) := by decide +kernel
theorem dX7_enacts_34 : decode cX7_enacts 34 = .ok (.ifCond .eq 5, 3) := by decide +kernel
theorem dX7_enacts_37 : decode cX7_enacts 37 = .ok (.iconst 0, 1) := by decide +kernel
theorem dX7_enacts_38 : decode cX7_enacts 38 = .ok (.ireturn, 1) := by decide +kernel
theorem dX7_enacts_39 : decode cX7_enacts 39 = .ok (.aload_n 0, 1) := by decide +kernel
theorem dX7_enacts_40 : decode cX7_enacts 40 = .ok (.getfield 89, 3) := by decide +kernel
theorem dX7_enacts_43 : decode cX7_enacts 43 = .ok (.iload_n 2, 1) := by decide +kernel
theorem dX7_enacts_44 : decode cX7_enacts 44 = .ok (.iconst 1, 1) := by decide +kernel
theorem dX7_enacts_45 : decode cX7_enacts 45 = .ok (.bastore, 1) := by decide +kernel
theorem dX7_enacts_46 : decode cX7_enacts 46 = .ok (.aload_n 0, 1) := by decide +kernel
theorem dX7_enacts_47 : decode cX7_enacts 47 = .ok (.getfield 96, 3) := by decide +kernel
theorem dX7_enacts_50 : decode cX7_enacts 50 = .ok (.iload_n 2, 1) := by decide +kernel
theorem dX7_enacts_51 : decode cX7_enacts 51 = .ok (.iload_n 3, 1) := by decide +kernel
theorem dX7_enacts_52 : decode cX7_enacts 52 = .ok (.iastore, 1) := by decide +kernel
theorem dX7_enacts_53 : decode cX7_enacts 53 = .ok (.aload_n 0, 1) := by decide +kernel
theorem dX7_enacts_54 : decode cX7_enacts 54 = .ok (.getfield 93, 3) := by decide +kernel
theorem dX7_enacts_57 : decode cX7_enacts 57 = .ok (.iload_n 2, 1) := by decide +kernel
theorem dX7_enacts_58 : decode cX7_enacts 58 = .ok (.aload_n 0, 1) := by decide +kernel
theorem dX7_enacts_59 : decode cX7_enacts 59 = .ok (.getfield 38, 3) := by decide +kernel
theorem dX7_enacts_62 : decode cX7_enacts 62 = .ok (.iload_n 1, 1) := by decide +kernel
theorem dX7_enacts_63 : decode cX7_enacts 63 = .ok (.iaload, 1) := by decide +kernel
theorem dX7_enacts_64 : decode cX7_enacts 64 = .ok (.iastore, 1) := by decide +kernel
theorem dX7_enacts_65 : decode cX7_enacts 65 = .ok (.aload_n 0, 1) := by decide +kernel
theorem dX7_enacts_66 : decode cX7_enacts 66 = .ok (.iload_n 1, 1) := by decide +kernel
theorem dX7_enacts_67 : decode cX7_enacts 67 = .ok (.invokevirtual 203, 3) := by decide +kernel
theorem dX7_enacts_70 : decode cX7_enacts 70 = .ok (.aload_n 0, 1) := by decide +kernel
theorem dX7_enacts_71 : decode cX7_enacts 71 = .ok (.iload_n 2, 1) := by decide +kernel
theorem dX7_enacts_72 : decode cX7_enacts 72 = .ok (.invokevirtual 207, 3) := by decide +kernel
theorem dX7_enacts_75 : decode cX7_enacts 75 = .ok (.ireturn, 1) := by decide +kernel
set_option maxRecDepth 20000 in
theorem ggX7_inserts_X7_firstPlace : GoodIn wsX7_inserts wsX7_firstPlace := goodIn_r _ [7, 2, 8, 9, 10, 6, 11, 1, 12, 13, 36, 37, 38, 39, 40, 41, 42, 43, 44, 45, 46, 47, 48, 49, 50, 51, 52, 53, 54, 55, 56, 57, 58, 59, 60, 61, 62, 63, 64, 65, 66, 67, 68, 69, 70, 71, 72, 73, 74, 75, 76, 77, 78, 79, 80, 81, 82, 83, 84] (by decide +kernel) (by decide +kernel)
set_option maxRecDepth 20000 in
theorem gX7_inserts_X7_firstPlace : GoodIn wsX7_inserts (wsV RX7 210 RX7 yX7_firstPlace wsX7_firstPlace) := goodIn_app (goodIn_of _ (by decide +kernel)) ggX7_inserts_X7_firstPlace
set_option maxRecDepth 20000 in
theorem ggX7_inserts_X7_putsOld : GoodIn wsX7_inserts wsX7_putsOld := goodIn_r _ [17, 12, 18, 19, 20, 21, 6, 22, 23, 24, 25, 36, 37, 38, 39, 40, 41, 42, 43, 44, 45, 46, 47, 48, 49, 50, 51, 52, 53, 54, 55, 56, 57, 58, 59, 60, 61, 62, 63, 64, 65, 66, 67, 68, 69, 70, 71, 72, 73, 74, 75, 76, 77, 78, 79, 80, 81, 82, 83, 84] (by decide +kernel) (by decide +kernel)
set_option maxRecDepth 20000 in
theorem gX7_inserts_X7_putsOld : GoodIn wsX7_inserts (wsV RX7 213 RX7 yX7_putsOld wsX7_putsOld) := goodIn_app (goodIn_of _ (by decide +kernel)) ggX7_inserts_X7_putsOld
set_option maxRecDepth 20000 in
theorem ggX7_inserts_X7_putsNew : GoodIn wsX7_inserts wsX7_putsNew := goodIn_r _ [29, 30, 31, 19, 20, 21, 6, 22, 23, 24, 25, 36, 37, 38, 39, 40, 41, 42, 43, 44, 45, 46, 47, 48, 49, 50, 51, 52, 53, 54, 55, 56, 57, 58, 59, 60, 61, 62, 63, 64, 65, 66, 67, 68, 69, 70, 71, 72, 73, 74, 75, 76, 77, 78, 79, 80, 81, 82, 83, 84] (by decide +kernel) (by decide +kernel)
set_option maxRecDepth 20000 in
theorem gX7_inserts_X7_putsNew : GoodIn wsX7_inserts (wsV RX7 203 RX7 yX7_putsNew wsX7_putsNew) := goodIn_app (goodIn_of _ (by decide +kernel)) ggX7_inserts_X7_putsNew
set_option maxRecDepth 20000 in
theorem ggX7_inserts_X7_takes : GoodIn wsX7_inserts wsX7_takes := goodIn_r _ [35, 24, 12, 23, 18, 25, 2, 36, 37, 38, 39, 40, 41, 42, 43, 44, 45, 46, 47, 48, 49, 50, 51, 52, 53, 54, 55, 56, 57, 58, 59, 60, 61, 62, 63, 64, 65, 66, 67, 68, 69, 70, 71, 72, 73, 74, 75, 76, 77, 78, 79, 80, 81, 82, 83, 84] (by decide +kernel) (by decide +kernel)
set_option maxRecDepth 20000 in
theorem gX7_inserts_X7_takes : GoodIn wsX7_inserts (wsV RX7 207 RX7 yX7_takes wsX7_takes) := goodIn_app (goodIn_of _ (by decide +kernel)) ggX7_inserts_X7_takes
theorem dX7_inserts_0 : decode cX7_inserts 0 = .ok (.aload_n 0, 1) := by decide +kernel
theorem dX7_inserts_1 : decode cX7_inserts 1 = .ok (.getfield 41, 3) := by decide +kernel
theorem dX7_inserts_4 : decode cX7_inserts 4 = .ok (.iload_n 1, 1) := by decide +kernel
theorem dX7_inserts_5 : decode cX7_inserts 5 = .ok (.iaload, 1) := by decide +kernel
theorem dX7_inserts_6 : decode cX7_inserts 6 = .ok (.ifCond .ne 12, 3) := by decide +kernel
theorem dX7_inserts_9 : decode cX7_inserts 9 = .ok (.aload_n 0, 1) := by decide +kernel
theorem dX7_inserts_10 : decode cX7_inserts 10 = .ok (.getfield 99, 3) := by decide +kernel
theorem dX7_inserts_13 : decode cX7_inserts 13 = .ok (.iload_n 2, 1) := by decide +kernel
theorem dX7_inserts_14 : decode cX7_inserts 14 = .ok (.iaload, 1) := by decide +kernel
theorem dX7_inserts_15 : decode cX7_inserts 15 = .ok (.goto 9, 3) := by decide +kernel
theorem dX7_inserts_18 : decode cX7_inserts 18 = .ok (.aload_n 0, 1) := by decide +kernel
theorem dX7_inserts_19 : decode cX7_inserts 19 = .ok (.iload_n 1, 1) := by decide +kernel
theorem dX7_inserts_20 : decode cX7_inserts 20 = .ok (.iload_n 2, 1) := by decide +kernel
theorem dX7_inserts_21 : decode cX7_inserts 21 = .ok (.invokevirtual 210, 3) := by decide +kernel
theorem dX7_inserts_24 : decode cX7_inserts 24 = .ok (.istore_n 3, 1) := by decide +kernel
theorem dX7_inserts_25 : decode cX7_inserts 25 = .ok (.iload_n 3, 1) := by decide +kernel
theorem dX7_inserts_26 : decode cX7_inserts 26 = .ok (.iconst (-1), 1) := by decide +kernel
theorem dX7_inserts_27 : decode cX7_inserts 27 = .ok (.if_icmp .ne 5, 3) := by decide +kernel
theorem dX7_inserts_30 : decode cX7_inserts 30 = .ok (.iconst 0, 1) := by decide +kernel
theorem dX7_inserts_31 : decode cX7_inserts 31 = .ok (.ireturn, 1) := by decide +kernel
theorem dX7_inserts_32 : decode cX7_inserts 32 = .ok (.aload_n 0, 1) := by decide +kernel
theorem dX7_inserts_33 : decode cX7_inserts 33 = .ok (.iload_n 2, 1) := by decide +kernel
theorem dX7_inserts_34 : decode cX7_inserts 34 = .ok (.iconst 0, 1) := by decide +kernel
theorem dX7_inserts_35 : decode cX7_inserts 35 = .ok (.iload_n 3, 1) := by decide +kernel
theorem dX7_inserts_36 : decode cX7_inserts 36 = .ok (.aload_n 0, 1) := by decide +kernel
theorem dX7_inserts_37 : decode cX7_inserts 37 = .ok (.getfield 41, 3) := by decide +kernel
theorem dX7_inserts_40 : decode cX7_inserts 40 = .ok (.iload_n 1, 1) := by decide +kernel
theorem dX7_inserts_41 : decode cX7_inserts 41 = .ok (.iaload, 1) := by decide +kernel
theorem dX7_inserts_42 : decode cX7_inserts 42 = .ok (.iadd, 1) := by decide +kernel
theorem dX7_inserts_43 : decode cX7_inserts 43 = .ok (.invokevirtual 213, 3) := by decide +kernel
theorem dX7_inserts_46 : decode cX7_inserts 46 = .ok (.aload_n 0, 1) := by decide +kernel
theorem dX7_inserts_47 : decode cX7_inserts 47 = .ok (.iload_n 1, 1) := by decide +kernel
theorem dX7_inserts_48 : decode cX7_inserts 48 = .ok (.invokevirtual 203, 3) := by decide +kernel
theorem dX7_inserts_51 : decode cX7_inserts 51 = .ok (.aload_n 0, 1) := by decide +kernel
theorem dX7_inserts_52 : decode cX7_inserts 52 = .ok (.iload_n 2, 1) := by decide +kernel
theorem dX7_inserts_53 : decode cX7_inserts 53 = .ok (.iload_n 3, 1) := by decide +kernel
theorem dX7_inserts_54 : decode cX7_inserts 54 = .ok (.aload_n 0, 1) := by decide +kernel
theorem dX7_inserts_55 : decode cX7_inserts 55 = .ok (.getfield 41, 3) := by decide +kernel
theorem dX7_inserts_58 : decode cX7_inserts 58 = .ok (.iload_n 1, 1) := by decide +kernel
theorem dX7_inserts_59 : decode cX7_inserts 59 = .ok (.iaload, 1) := by decide +kernel
theorem dX7_inserts_60 : decode cX7_inserts 60 = .ok (.iadd, 1) := by decide +kernel
theorem dX7_inserts_61 : decode cX7_inserts 61 = .ok (.aload_n 0, 1) := by decide +kernel
theorem dX7_inserts_62 : decode cX7_inserts 62 = .ok (.getfield 99, 3) := by decide +kernel
theorem dX7_inserts_65 : decode cX7_inserts 65 = .ok (.iload_n 2, 1) := by decide +kernel
theorem dX7_inserts_66 : decode cX7_inserts 66 = .ok (.iaload, 1) := by decide +kernel
theorem dX7_inserts_67 : decode cX7_inserts 67 = .ok (.invokevirtual 213, 3) := by decide +kernel
theorem dX7_inserts_70 : decode cX7_inserts 70 = .ok (.aload_n 0, 1) := by decide +kernel
theorem dX7_inserts_71 : decode cX7_inserts 71 = .ok (.iload_n 2, 1) := by decide +kernel
theorem dX7_inserts_72 : decode cX7_inserts 72 = .ok (.invokevirtual 207, 3) := by decide +kernel
theorem dX7_inserts_75 : decode cX7_inserts 75 = .ok (.ireturn, 1) := by decide +kernel
set_option maxRecDepth 20000 in
theorem ggX7_substitutes_X7_isFoundAt : GoodIn wsX7_substitutes wsX7_isFoundAt := goodIn_r _ [7, 2, 1, 8, 9, 32, 33, 34, 35, 36, 37, 38, 39, 40, 41, 42, 43, 44, 45, 46, 47, 48, 49, 50, 51, 52, 53, 54, 55, 56, 57, 58, 59, 60, 61, 62, 63, 64, 65, 66, 67, 68, 69, 70, 71, 72, 73, 74, 75, 76, 77, 78, 79, 80] (by decide +kernel) (by decide +kernel)
set_option maxRecDepth 20000 in
theorem gX7_substitutes_X7_isFoundAt : GoodIn wsX7_substitutes (wsV RX7 187 RX7 yX7_isFoundAt wsX7_isFoundAt) := goodIn_app (goodIn_of _ (by decide +kernel)) ggX7_substitutes_X7_isFoundAt
set_option maxRecDepth 20000 in
theorem ggX7_substitutes_X7_putsNew : GoodIn wsX7_substitutes wsX7_putsNew := goodIn_r _ [13, 14, 15, 16, 17, 18, 6, 19, 20, 21, 22, 32, 33, 34, 35, 36, 37, 38, 39, 40, 41, 42, 43, 44, 45, 46, 47, 48, 49, 50, 51, 52, 53, 54, 55, 56, 57, 58, 59, 60, 61, 62, 63, 64, 65, 66, 67, 68, 69, 70, 71, 72, 73, 74, 75, 76, 77, 78, 79, 80] (by decide +kernel) (by decide +kernel)
set_option maxRecDepth 20000 in
theorem gX7_substitutes_X7_putsNew : GoodIn wsX7_substitutes (wsV RX7 203 RX7 yX7_putsNew wsX7_putsNew) := goodIn_app (goodIn_of _ (by decide +kernel)) ggX7_substitutes_X7_putsNew
set_option maxRecDepth 20000 in
theorem ggX7_substitutes_X7_putsOld : GoodIn wsX7_substitutes wsX7_putsOld := goodIn_r _ [26, 8, 27, 16, 17, 18, 6, 19, 20, 21, 22, 32, 33, 34, 35, 36, 37, 38, 39, 40, 41, 42, 43, 44, 45, 46, 47, 48, 49, 50, 51, 52, 53, 54, 55, 56, 57, 58, 59, 60, 61, 62, 63, 64, 65, 66, 67, 68, 69, 70, 71, 72, 73, 74, 75, 76, 77, 78, 79, 80] (by decide +kernel) (by decide +kernel)
set_option maxRecDepth 20000 in
theorem gX7_substitutes_X7_putsOld : GoodIn wsX7_substitutes (wsV RX7 213 RX7 yX7_putsOld wsX7_putsOld) := goodIn_app (goodIn_of _ (by decide +kernel)) ggX7_substitutes_X7_putsOld
set_option maxRecDepth 20000 in
theorem ggX7_substitutes_X7_takes : GoodIn wsX7_substitutes wsX7_takes := goodIn_r _ [31, 21, 8, 20, 27, 22, 1, 32, 33, 34, 35, 36, 37, 38, 39, 40, 41, 42, 43, 44, 45, 46, 47, 48, 49, 50, 51, 52, 53, 54, 55, 56, 57, 58, 59, 60, 61, 62, 63, 64, 65, 66, 67, 68, 69, 70, 71, 72, 73, 74, 75, 76, 77, 78, 79, 80] (by decide +kernel) (by decide +kernel)
set_option maxRecDepth 20000 in
theorem gX7_substitutes_X7_takes : GoodIn wsX7_substitutes (wsV RX7 207 RX7 yX7_takes wsX7_takes) := goodIn_app (goodIn_of _ (by decide +kernel)) ggX7_substitutes_X7_takes
theorem dX7_substitutes_0 : decode cX7_substitutes 0 = .ok (.iconst 0, 1) := by decide +kernel
theorem dX7_substitutes_1 : decode cX7_substitutes 1 = .ok (.istore_n 3, 1) := by decide +kernel
theorem dX7_substitutes_2 : decode cX7_substitutes 2 = .ok (.iconst 0, 1) := by decide +kernel
theorem dX7_substitutes_3 : decode cX7_substitutes 3 = .ok (.istore 4, 2) := by decide +kernel
theorem dX7_substitutes_5 : decode cX7_substitutes 5 = .ok (.iload 4, 2) := by decide +kernel
theorem dX7_substitutes_7 : decode cX7_substitutes 7 = .ok (.aload_n 0, 1) := by decide +kernel
theorem dX7_substitutes_8 : decode cX7_substitutes 8 = .ok (.getfield 99, 3) := by decide +kernel
theorem dX7_substitutes_11 : decode cX7_substitutes 11 = .ok (.iload_n 2, 1) := by decide +kernel
theorem dX7_substitutes_12 : decode cX7_substitutes 12 = .ok (.iaload, 1) := by decide +kernel
theorem dX7_substitutes_13 : decode cX7_substitutes 13 = .ok (.if_icmp .ge 52, 3) := by decide +kernel
theorem dX7_substitutes_16 : decode cX7_substitutes 16 = .ok (.aload_n 0, 1) := by decide +kernel
theorem dX7_substitutes_17 : decode cX7_substitutes 17 = .ok (.iload_n 1, 1) := by decide +kernel
theorem dX7_substitutes_18 : decode cX7_substitutes 18 = .ok (.iload_n 2, 1) := by decide +kernel
theorem dX7_substitutes_19 : decode cX7_substitutes 19 = .ok (.iload 4, 2) := by decide +kernel
theorem dX7_substitutes_21 : decode cX7_substitutes 21 = .ok (.invokevirtual 187, 3) := by decide +kernel
theorem dX7_substitutes_24 : decode cX7_substitutes 24 = .ok (.ifCond .eq 24, 3) := by decide +kernel
theorem dX7_substitutes_27 : decode cX7_substitutes 27 = .ok (.aload_n 0, 1) := by decide +kernel
theorem dX7_substitutes_28 : decode cX7_substitutes 28 = .ok (.iload_n 1, 1) := by decide +kernel
theorem dX7_substitutes_29 : decode cX7_substitutes 29 = .ok (.invokevirtual 203, 3) := by decide +kernel
theorem dX7_substitutes_32 : decode cX7_substitutes 32 = .ok (.iload 4, 2) := by decide +kernel
theorem dX7_substitutes_34 : decode cX7_substitutes 34 = .ok (.aload_n 0, 1) := by decide +kernel
theorem dX7_substitutes_35 : decode cX7_substitutes 35 = .ok (.getfield 41, 3) := by decide +kernel
theorem dX7_substitutes_38 : decode cX7_substitutes 38 = .ok (.iload_n 1, 1) := by decide +kernel
theorem dX7_substitutes_39 : decode cX7_substitutes 39 = .ok (.iaload, 1) := by decide +kernel
theorem dX7_substitutes_40 : decode cX7_substitutes 40 = .ok (.iadd, 1) := by decide +kernel
theorem dX7_substitutes_41 : decode cX7_substitutes 41 = .ok (.istore 4, 2) := by decide +kernel
theorem dX7_substitutes_43 : decode cX7_substitutes 43 = .ok (.iconst 1, 1) := by decide +kernel
theorem dX7_substitutes_44 : decode cX7_substitutes 44 = .ok (.istore_n 3, 1) := by decide +kernel
theorem dX7_substitutes_45 : decode cX7_substitutes 45 = .ok (.goto (-40), 3) := by decide +kernel
theorem dX7_substitutes_48 : decode cX7_substitutes 48 = .ok (.aload_n 0, 1) := by decide +kernel
theorem dX7_substitutes_49 : decode cX7_substitutes 49 = .ok (.iload_n 2, 1) := by decide +kernel
theorem dX7_substitutes_50 : decode cX7_substitutes 50 = .ok (.iload 4, 2) := by decide +kernel
theorem dX7_substitutes_52 : decode cX7_substitutes 52 = .ok (.iload 4, 2) := by decide +kernel
theorem dX7_substitutes_54 : decode cX7_substitutes 54 = .ok (.iconst 1, 1) := by decide +kernel
theorem dX7_substitutes_55 : decode cX7_substitutes 55 = .ok (.iadd, 1) := by decide +kernel
theorem dX7_substitutes_56 : decode cX7_substitutes 56 = .ok (.invokevirtual 213, 3) := by decide +kernel
theorem dX7_substitutes_59 : decode cX7_substitutes 59 = .ok (.iinc 4 1, 3) := by decide +kernel
theorem dX7_substitutes_62 : decode cX7_substitutes 62 = .ok (.goto (-57), 3) := by decide +kernel
theorem dX7_substitutes_65 : decode cX7_substitutes 65 = .ok (.iload_n 3, 1) := by decide +kernel
theorem dX7_substitutes_66 : decode cX7_substitutes 66 = .ok (.ifCond .eq 15, 3) := by decide +kernel
theorem dX7_substitutes_69 : decode cX7_substitutes 69 = .ok (.aload_n 0, 1) := by decide +kernel
theorem dX7_substitutes_70 : decode cX7_substitutes 70 = .ok (.iload_n 2, 1) := by decide +kernel
theorem dX7_substitutes_71 : decode cX7_substitutes 71 = .ok (.invokevirtual 207, 3) := by decide +kernel
theorem dX7_substitutes_74 : decode cX7_substitutes 74 = .ok (.ifCond .eq 7, 3) := by decide +kernel
theorem dX7_substitutes_77 : decode cX7_substitutes 77 = .ok (.iconst 1, 1) := by decide +kernel
theorem dX7_substitutes_78 : decode cX7_substitutes 78 = .ok (.goto 4, 3) := by decide +kernel
theorem dX7_substitutes_81 : decode cX7_substitutes 81 = .ok (.iconst 0, 1) := by decide +kernel
theorem dX7_substitutes_82 : decode cX7_substitutes 82 = .ok (.ireturn, 1) := by decide +kernel
set_option maxRecDepth 20000 in
theorem ggX7_omits_X7_firstPlace : GoodIn wsX7_omits wsX7_firstPlace := goodIn_r _ [6, 1, 7, 8, 9, 5, 10, 11, 12, 13, 14, 15, 16, 17, 18, 19, 20, 21, 22, 23, 24, 25, 26, 27, 28, 29, 30, 31, 32, 33, 34, 35, 36, 37, 38, 39, 40, 41, 42, 43, 44, 45, 46, 47, 48, 49, 50, 51, 52, 53, 54, 55, 56, 57, 58, 59, 60, 61, 62] (by decide +kernel) (by decide +kernel)
set_option maxRecDepth 20000 in
theorem gX7_omits_X7_firstPlace : GoodIn wsX7_omits (wsV RX7 210 RX7 yX7_firstPlace wsX7_firstPlace) := goodIn_app (goodIn_of _ (by decide +kernel)) ggX7_omits_X7_firstPlace
theorem dX7_omits_0 : decode cX7_omits 0 = .ok (.aload_n 0, 1) := by decide +kernel
theorem dX7_omits_1 : decode cX7_omits 1 = .ok (.iload_n 1, 1) := by decide +kernel
theorem dX7_omits_2 : decode cX7_omits 2 = .ok (.iload_n 2, 1) := by decide +kernel
theorem dX7_omits_3 : decode cX7_omits 3 = .ok (.invokevirtual 210, 3) := by decide +kernel
theorem dX7_omits_6 : decode cX7_omits 6 = .ok (.istore_n 3, 1) := by decide +kernel
theorem dX7_omits_7 : decode cX7_omits 7 = .ok (.iload_n 3, 1) := by decide +kernel
theorem dX7_omits_8 : decode cX7_omits 8 = .ok (.iconst (-1), 1) := by decide +kernel
theorem dX7_omits_9 : decode cX7_omits 9 = .ok (.if_icmp .ne 5, 3) := by decide +kernel
theorem dX7_omits_12 : decode cX7_omits 12 = .ok (.iconst 0, 1) := by decide +kernel
theorem dX7_omits_13 : decode cX7_omits 13 = .ok (.ireturn, 1) := by decide +kernel
theorem dX7_omits_14 : decode cX7_omits 14 = .ok (.aload_n 0, 1) := by decide +kernel
theorem dX7_omits_15 : decode cX7_omits 15 = .ok (.getfield 99, 3) := by decide +kernel
theorem dX7_omits_18 : decode cX7_omits 18 = .ok (.iload_n 2, 1) := by decide +kernel
theorem dX7_omits_19 : decode cX7_omits 19 = .ok (.iload_n 3, 1) := by decide +kernel
theorem dX7_omits_20 : decode cX7_omits 20 = .ok (.iastore, 1) := by decide +kernel
theorem dX7_omits_21 : decode cX7_omits 21 = .ok (.iconst 1, 1) := by decide +kernel
theorem dX7_omits_22 : decode cX7_omits 22 = .ok (.ireturn, 1) := by decide +kernel
set_option maxRecDepth 20000 in
theorem ggX7_renumbers_X7_hasLabel : GoodIn wsX7_renumbers wsX7_hasLabel := goodIn_r _ [8, 9, 10, 1, 3, 11, 12, 13, 14, 15, 16, 17, 18, 19, 20, 21, 22, 23, 24, 25, 26, 27, 28, 29, 30, 31, 32, 33, 34, 35, 36, 37, 38, 39, 40, 41, 42, 43, 44, 45, 46, 47, 48, 49, 50, 51, 52, 53, 54, 55, 56, 57, 58, 59] (by decide +kernel) (by decide +kernel)
set_option maxRecDepth 20000 in
theorem gX7_renumbers_X7_hasLabel : GoodIn wsX7_renumbers (wsV RX7 200 RX7 yX7_hasLabel wsX7_hasLabel) := goodIn_app (goodIn_of _ (by decide +kernel)) ggX7_renumbers_X7_hasLabel
theorem dX7_renumbers_0 : decode cX7_renumbers 0 = .ok (.aload_n 0, 1) := by decide +kernel
theorem dX7_renumbers_1 : decode cX7_renumbers 1 = .ok (.aload_n 0, 1) := by decide +kernel
theorem dX7_renumbers_2 : decode cX7_renumbers 2 = .ok (.getfield 96, 3) := by decide +kernel
theorem dX7_renumbers_5 : decode cX7_renumbers 5 = .ok (.iload_n 2, 1) := by decide +kernel
theorem dX7_renumbers_6 : decode cX7_renumbers 6 = .ok (.iaload, 1) := by decide +kernel
theorem dX7_renumbers_7 : decode cX7_renumbers 7 = .ok (.aload_n 0, 1) := by decide +kernel
theorem dX7_renumbers_8 : decode cX7_renumbers 8 = .ok (.getfield 38, 3) := by decide +kernel
theorem dX7_renumbers_11 : decode cX7_renumbers 11 = .ok (.iload_n 1, 1) := by decide +kernel
theorem dX7_renumbers_12 : decode cX7_renumbers 12 = .ok (.iaload, 1) := by decide +kernel
theorem dX7_renumbers_13 : decode cX7_renumbers 13 = .ok (.iload_n 2, 1) := by decide +kernel
theorem dX7_renumbers_14 : decode cX7_renumbers 14 = .ok (.invokevirtual 200, 3) := by decide +kernel
theorem dX7_renumbers_17 : decode cX7_renumbers 17 = .ok (.ifCond .ne 7, 3) := by decide +kernel
theorem dX7_renumbers_20 : decode cX7_renumbers 20 = .ok (.iconst 1, 1) := by decide +kernel
theorem dX7_renumbers_21 : decode cX7_renumbers 21 = .ok (.goto 4, 3) := by decide +kernel
theorem dX7_renumbers_24 : decode cX7_renumbers 24 = .ok (.iconst 0, 1) := by decide +kernel
theorem dX7_renumbers_25 : decode cX7_renumbers 25 = .ok (.istore_n 3, 1) := by decide +kernel
theorem dX7_renumbers_26 : decode cX7_renumbers 26 = .ok (.aload_n 0, 1) := by decide +kernel
theorem dX7_renumbers_27 : decode cX7_renumbers 27 = .ok (.getfield 93, 3) := by decide +kernel
theorem dX7_renumbers_30 : decode cX7_renumbers 30 = .ok (.iload_n 2, 1) := by decide +kernel
theorem dX7_renumbers_31 : decode cX7_renumbers 31 = .ok (.iload_n 3, 1) := by decide +kernel
theorem dX7_renumbers_32 : decode cX7_renumbers 32 = .ok (.ifCond .eq 12, 3) := by decide +kernel
theorem dX7_renumbers_35 : decode cX7_renumbers 35 = .ok (.aload_n 0, 1) := by decide +kernel
theorem dX7_renumbers_36 : decode cX7_renumbers 36 = .ok (.getfield 38, 3) := by decide +kernel
theorem dX7_renumbers_39 : decode cX7_renumbers 39 = .ok (.iload_n 1, 1) := by decide +kernel
theorem dX7_renumbers_40 : decode cX7_renumbers 40 = .ok (.iaload, 1) := by decide +kernel
theorem dX7_renumbers_41 : decode cX7_renumbers 41 = .ok (.goto 9, 3) := by decide +kernel
theorem dX7_renumbers_44 : decode cX7_renumbers 44 = .ok (.aload_n 0, 1) := by decide +kernel
theorem dX7_renumbers_45 : decode cX7_renumbers 45 = .ok (.getfield 93, 3) := by decide +kernel
theorem dX7_renumbers_48 : decode cX7_renumbers 48 = .ok (.iload_n 2, 1) := by decide +kernel
theorem dX7_renumbers_49 : decode cX7_renumbers 49 = .ok (.iaload, 1) := by decide +kernel
theorem dX7_renumbers_50 : decode cX7_renumbers 50 = .ok (.iastore, 1) := by decide +kernel
theorem dX7_renumbers_51 : decode cX7_renumbers 51 = .ok (.iload_n 3, 1) := by decide +kernel
theorem dX7_renumbers_52 : decode cX7_renumbers 52 = .ok (.ireturn, 1) := by decide +kernel
set_option maxRecDepth 20000 in
theorem ggX7_moves_X7_isPlace : GoodIn wsX7_moves wsX7_isPlace := goodIn_r _ [8, 9, 19, 20, 21, 22, 23, 24, 25, 26, 27, 28, 29, 30, 31, 32, 33, 34, 35, 36, 37, 38, 39, 40, 41, 42, 43, 44, 45, 46, 47, 48, 49, 50, 51, 52, 53, 54, 55, 56, 57, 58, 59, 60, 61, 62, 63, 64, 65, 66, 67] (by decide +kernel) (by decide +kernel)
set_option maxRecDepth 20000 in
theorem gX7_moves_X7_isPlace : GoodIn wsX7_moves (wsV RX7 197 RX7 yX7_isPlace wsX7_isPlace) := goodIn_app (goodIn_of _ (by decide +kernel)) ggX7_moves_X7_isPlace
set_option maxRecDepth 20000 in
theorem ggX7_moves_X7_isWithin : GoodIn wsX7_moves wsX7_isWithin := goodIn_r _ [13, 3, 19, 20, 21, 22, 23, 24, 25, 26, 27, 28, 29, 30, 31, 32, 33, 34, 35, 36, 37, 38, 39, 40, 41, 42, 43, 44, 45, 46, 47, 48, 49, 50, 51, 52, 53, 54, 55, 56, 57, 58, 59, 60, 61, 62, 63, 64, 65, 66, 67] (by decide +kernel) (by decide +kernel)
set_option maxRecDepth 20000 in
theorem gX7_moves_X7_isWithin : GoodIn wsX7_moves (wsV RX7 217 RX7 yX7_isWithin wsX7_isWithin) := goodIn_app (goodIn_of _ (by decide +kernel)) ggX7_moves_X7_isWithin
set_option maxRecDepth 20000 in
theorem ggX7_moves_X7_hasLabel : GoodIn wsX7_moves wsX7_hasLabel := goodIn_r _ [17, 18, 9, 3, 2, 19, 20, 21, 22, 23, 24, 25, 26, 27, 28, 29, 30, 31, 32, 33, 34, 35, 36, 37, 38, 39, 40, 41, 42, 43, 44, 45, 46, 47, 48, 49, 50, 51, 52, 53, 54, 55, 56, 57, 58, 59, 60, 61, 62, 63, 64, 65, 66, 67] (by decide +kernel) (by decide +kernel)
set_option maxRecDepth 20000 in
theorem gX7_moves_X7_hasLabel : GoodIn wsX7_moves (wsV RX7 200 RX7 yX7_hasLabel wsX7_hasLabel) := goodIn_app (goodIn_of _ (by decide +kernel)) ggX7_moves_X7_hasLabel
theorem dX7_moves_0 : decode cX7_moves 0 = .ok (.aload_n 0, 1) := by decide +kernel
theorem dX7_moves_1 : decode cX7_moves 1 = .ok (.getfield 35, 3) := by decide +kernel
theorem dX7_moves_4 : decode cX7_moves 4 = .ok (.iload_n 1, 1) := by decide +kernel
theorem dX7_moves_5 : decode cX7_moves 5 = .ok (.iaload, 1) := by decide +kernel
theorem dX7_moves_6 : decode cX7_moves 6 = .ok (.istore_n 3, 1) := by decide +kernel
theorem dX7_moves_7 : decode cX7_moves 7 = .ok (.aload_n 0, 1) := by decide +kernel
theorem dX7_moves_8 : decode cX7_moves 8 = .ok (.iload_n 3, 1) := by decide +kernel
theorem dX7_moves_9 : decode cX7_moves 9 = .ok (.invokevirtual 197, 3) := by decide +kernel
theorem dX7_moves_12 : decode cX7_moves 12 = .ok (.ifCond .eq 31, 3) := by decide +kernel
theorem dX7_moves_15 : decode cX7_moves 15 = .ok (.aload_n 0, 1) := by decide +kernel
theorem dX7_moves_16 : decode cX7_moves 16 = .ok (.iload_n 3, 1) := by decide +kernel
theorem dX7_moves_17 : decode cX7_moves 17 = .ok (.iload_n 2, 1) := by decide +kernel
theorem dX7_moves_18 : decode cX7_moves 18 = .ok (.invokevirtual 217, 3) := by decide +kernel
theorem dX7_moves_21 : decode cX7_moves 21 = .ok (.ifCond .ne 22, 3) := by decide +kernel
theorem dX7_moves_24 : decode cX7_moves 24 = .ok (.aload_n 0, 1) := by decide +kernel
theorem dX7_moves_25 : decode cX7_moves 25 = .ok (.iload_n 3, 1) := by decide +kernel
theorem dX7_moves_26 : decode cX7_moves 26 = .ok (.aload_n 0, 1) := by decide +kernel
theorem dX7_moves_27 : decode cX7_moves 27 = .ok (.getfield 93, 3) := by decide +kernel
theorem dX7_moves_30 : decode cX7_moves 30 = .ok (.iload_n 2, 1) := by decide +kernel
theorem dX7_moves_31 : decode cX7_moves 31 = .ok (.iaload, 1) := by decide +kernel
theorem dX7_moves_32 : decode cX7_moves 32 = .ok (.iload_n 2, 1) := by decide +kernel
theorem dX7_moves_33 : decode cX7_moves 33 = .ok (.invokevirtual 200, 3) := by decide +kernel
theorem dX7_moves_36 : decode cX7_moves 36 = .ok (.ifCond .ne 7, 3) := by decide +kernel
theorem dX7_moves_39 : decode cX7_moves 39 = .ok (.iconst 1, 1) := by decide +kernel
theorem dX7_moves_40 : decode cX7_moves 40 = .ok (.goto 4, 3) := by decide +kernel
theorem dX7_moves_43 : decode cX7_moves 43 = .ok (.iconst 0, 1) := by decide +kernel
theorem dX7_moves_44 : decode cX7_moves 44 = .ok (.istore 4, 2) := by decide +kernel
theorem dX7_moves_46 : decode cX7_moves 46 = .ok (.aload_n 0, 1) := by decide +kernel
theorem dX7_moves_47 : decode cX7_moves 47 = .ok (.getfield 96, 3) := by decide +kernel
theorem dX7_moves_50 : decode cX7_moves 50 = .ok (.iload_n 2, 1) := by decide +kernel
theorem dX7_moves_51 : decode cX7_moves 51 = .ok (.iload 4, 2) := by decide +kernel
theorem dX7_moves_53 : decode cX7_moves 53 = .ok (.ifCond .eq 7, 3) := by decide +kernel
theorem dX7_moves_56 : decode cX7_moves 56 = .ok (.iload_n 3, 1) := by decide +kernel
theorem dX7_moves_57 : decode cX7_moves 57 = .ok (.goto 9, 3) := by decide +kernel
theorem dX7_moves_60 : decode cX7_moves 60 = .ok (.aload_n 0, 1) := by decide +kernel
theorem dX7_moves_61 : decode cX7_moves 61 = .ok (.getfield 96, 3) := by decide +kernel
theorem dX7_moves_64 : decode cX7_moves 64 = .ok (.iload_n 2, 1) := by decide +kernel
theorem dX7_moves_65 : decode cX7_moves 65 = .ok (.iaload, 1) := by decide +kernel
theorem dX7_moves_66 : decode cX7_moves 66 = .ok (.iastore, 1) := by decide +kernel
theorem dX7_moves_67 : decode cX7_moves 67 = .ok (.iload 4, 2) := by decide +kernel
theorem dX7_moves_69 : decode cX7_moves 69 = .ok (.ireturn, 1) := by decide +kernel
set_option maxRecDepth 20000 in
theorem ggX7_repeals_X7_isWithin : GoodIn wsX7_repeals wsX7_isWithin := goodIn_r _ [8, 9, 10, 11, 12, 13, 14, 15, 16, 17, 18, 19, 20, 21, 22, 23, 24, 25, 26, 27, 28, 29, 30, 31, 32, 33, 34, 35, 36, 37, 38, 39, 40, 41, 42, 43, 44, 45, 46, 47, 48, 49, 50, 51, 52, 53, 54, 55, 56, 57, 58] (by decide +kernel) (by decide +kernel)
set_option maxRecDepth 20000 in
theorem gX7_repeals_X7_isWithin : GoodIn wsX7_repeals (wsV RX7 217 RX7 yX7_isWithin wsX7_isWithin) := goodIn_app (goodIn_of _ (by decide +kernel)) ggX7_repeals_X7_isWithin
theorem dX7_repeals_0 : decode cX7_repeals 0 = .ok (.iconst 0, 1) := by decide +kernel
theorem dX7_repeals_1 : decode cX7_repeals 1 = .ok (.istore_n 2, 1) := by decide +kernel
theorem dX7_repeals_2 : decode cX7_repeals 2 = .ok (.iload_n 2, 1) := by decide +kernel
theorem dX7_repeals_3 : decode cX7_repeals 3 = .ok (.aload_n 0, 1) := by decide +kernel
theorem dX7_repeals_4 : decode cX7_repeals 4 = .ok (.getfield 130, 3) := by decide +kernel
theorem dX7_repeals_7 : decode cX7_repeals 7 = .ok (.if_icmp .ge 38, 3) := by decide +kernel
theorem dX7_repeals_10 : decode cX7_repeals 10 = .ok (.aload_n 0, 1) := by decide +kernel
theorem dX7_repeals_11 : decode cX7_repeals 11 = .ok (.getfield 114, 3) := by decide +kernel
theorem dX7_repeals_14 : decode cX7_repeals 14 = .ok (.iload_n 2, 1) := by decide +kernel
theorem dX7_repeals_15 : decode cX7_repeals 15 = .ok (.aload_n 0, 1) := by decide +kernel
theorem dX7_repeals_16 : decode cX7_repeals 16 = .ok (.getfield 89, 3) := by decide +kernel
theorem dX7_repeals_19 : decode cX7_repeals 19 = .ok (.iload_n 2, 1) := by decide +kernel
theorem dX7_repeals_20 : decode cX7_repeals 20 = .ok (.baload, 1) := by decide +kernel
theorem dX7_repeals_21 : decode cX7_repeals 21 = .ok (.ifCond .eq 16, 3) := by decide +kernel
theorem dX7_repeals_24 : decode cX7_repeals 24 = .ok (.aload_n 0, 1) := by decide +kernel
theorem dX7_repeals_25 : decode cX7_repeals 25 = .ok (.iload_n 2, 1) := by decide +kernel
theorem dX7_repeals_26 : decode cX7_repeals 26 = .ok (.iload_n 1, 1) := by decide +kernel
theorem dX7_repeals_27 : decode cX7_repeals 27 = .ok (.invokevirtual 217, 3) := by decide +kernel
theorem dX7_repeals_30 : decode cX7_repeals 30 = .ok (.ifCond .eq 7, 3) := by decide +kernel
theorem dX7_repeals_33 : decode cX7_repeals 33 = .ok (.iconst 1, 1) := by decide +kernel
theorem dX7_repeals_34 : decode cX7_repeals 34 = .ok (.goto 4, 3) := by decide +kernel
theorem dX7_repeals_37 : decode cX7_repeals 37 = .ok (.iconst 0, 1) := by decide +kernel
theorem dX7_repeals_38 : decode cX7_repeals 38 = .ok (.iastore, 1) := by decide +kernel
theorem dX7_repeals_39 : decode cX7_repeals 39 = .ok (.iinc 2 1, 3) := by decide +kernel
theorem dX7_repeals_42 : decode cX7_repeals 42 = .ok (.goto (-40), 3) := by decide +kernel
theorem dX7_repeals_45 : decode cX7_repeals 45 = .ok (.iconst 0, 1) := by decide +kernel
theorem dX7_repeals_46 : decode cX7_repeals 46 = .ok (.istore_n 2, 1) := by decide +kernel
theorem dX7_repeals_47 : decode cX7_repeals 47 = .ok (.iload_n 2, 1) := by decide +kernel
theorem dX7_repeals_48 : decode cX7_repeals 48 = .ok (.aload_n 0, 1) := by decide +kernel
theorem dX7_repeals_49 : decode cX7_repeals 49 = .ok (.getfield 130, 3) := by decide +kernel
theorem dX7_repeals_52 : decode cX7_repeals 52 = .ok (.if_icmp .ge 38, 3) := by decide +kernel
theorem dX7_repeals_55 : decode cX7_repeals 55 = .ok (.aload_n 0, 1) := by decide +kernel
theorem dX7_repeals_56 : decode cX7_repeals 56 = .ok (.getfield 89, 3) := by decide +kernel
theorem dX7_repeals_59 : decode cX7_repeals 59 = .ok (.iload_n 2, 1) := by decide +kernel
theorem dX7_repeals_60 : decode cX7_repeals 60 = .ok (.aload_n 0, 1) := by decide +kernel
theorem dX7_repeals_61 : decode cX7_repeals 61 = .ok (.getfield 89, 3) := by decide +kernel
theorem dX7_repeals_64 : decode cX7_repeals 64 = .ok (.iload_n 2, 1) := by decide +kernel
theorem dX7_repeals_65 : decode cX7_repeals 65 = .ok (.baload, 1) := by decide +kernel
theorem dX7_repeals_66 : decode cX7_repeals 66 = .ok (.ifCond .eq 16, 3) := by decide +kernel
theorem dX7_repeals_69 : decode cX7_repeals 69 = .ok (.aload_n 0, 1) := by decide +kernel
theorem dX7_repeals_70 : decode cX7_repeals 70 = .ok (.getfield 114, 3) := by decide +kernel
theorem dX7_repeals_73 : decode cX7_repeals 73 = .ok (.iload_n 2, 1) := by decide +kernel
theorem dX7_repeals_74 : decode cX7_repeals 74 = .ok (.iaload, 1) := by decide +kernel
theorem dX7_repeals_75 : decode cX7_repeals 75 = .ok (.ifCond .ne 7, 3) := by decide +kernel
theorem dX7_repeals_78 : decode cX7_repeals 78 = .ok (.iconst 1, 1) := by decide +kernel
theorem dX7_repeals_79 : decode cX7_repeals 79 = .ok (.goto 4, 3) := by decide +kernel
theorem dX7_repeals_82 : decode cX7_repeals 82 = .ok (.iconst 0, 1) := by decide +kernel
theorem dX7_repeals_83 : decode cX7_repeals 83 = .ok (.bastore, 1) := by decide +kernel
theorem dX7_repeals_84 : decode cX7_repeals 84 = .ok (.iinc 2 1, 3) := by decide +kernel
theorem dX7_repeals_87 : decode cX7_repeals 87 = .ok (.goto (-40), 3) := by decide +kernel
theorem dX7_repeals_90 : decode cX7_repeals 90 = .ok (.iconst 1, 1) := by decide +kernel
theorem dX7_repeals_91 : decode cX7_repeals 91 = .ok (.ireturn, 1) := by decide +kernel
theorem dX7_amends_0 : decode cX7_amends 0 = .ok (.aload_n 0, 1) := by decide +kernel
theorem dX7_amends_1 : decode cX7_amends 1 = .ok (.getfield 32, 3) := by decide +kernel
theorem dX7_amends_4 : decode cX7_amends 4 = .ok (.iload_n 1, 1) := by decide +kernel
theorem dX7_amends_5 : decode cX7_amends 5 = .ok (.iaload, 1) := by decide +kernel
theorem dX7_amends_6 : decode cX7_amends 6 = .ok (.istore_n 3, 1) := by decide +kernel
theorem dX7_amends_7 : decode cX7_amends 7 = .ok (.aload_n 0, 1) := by decide +kernel
theorem dX7_amends_8 : decode cX7_amends 8 = .ok (.getfield 86, 3) := by decide +kernel
theorem dX7_amends_11 : decode cX7_amends 11 = .ok (.iload_n 3, 1) := by decide +kernel
theorem dX7_amends_12 : decode cX7_amends 12 = .ok (.iaload, 1) := by decide +kernel
theorem dX7_amends_13 : decode cX7_amends 13 = .ok (.ifCond .eq 5, 3) := by decide +kernel
theorem dX7_amends_16 : decode cX7_amends 16 = .ok (.iconst 0, 1) := by decide +kernel
theorem dX7_amends_17 : decode cX7_amends 17 = .ok (.ireturn, 1) := by decide +kernel
theorem dX7_amends_18 : decode cX7_amends 18 = .ok (.iload_n 2, 1) := by decide +kernel
theorem dX7_amends_19 : decode cX7_amends 19 = .ok (.ifCond .eq 62, 3) := by decide +kernel
theorem dX7_amends_22 : decode cX7_amends 22 = .ok (.aload_n 0, 1) := by decide +kernel
theorem dX7_amends_23 : decode cX7_amends 23 = .ok (.getfield 26, 3) := by decide +kernel
theorem dX7_amends_26 : decode cX7_amends 26 = .ok (.iload_n 3, 1) := by decide +kernel
theorem dX7_amends_27 : decode cX7_amends 27 = .ok (.iaload, 1) := by decide +kernel
theorem dX7_amends_28 : decode cX7_amends 28 = .ok (.iconst 2, 1) := by decide +kernel
theorem dX7_amends_29 : decode cX7_amends 29 = .ok (.if_icmp .gt 52, 3) := by decide +kernel
theorem dX7_amends_32 : decode cX7_amends 32 = .ok (.aload_n 0, 1) := by decide +kernel
theorem dX7_amends_33 : decode cX7_amends 33 = .ok (.getfield 108, 3) := by decide +kernel
theorem dX7_amends_36 : decode cX7_amends 36 = .ok (.iload_n 3, 1) := by decide +kernel
theorem dX7_amends_37 : decode cX7_amends 37 = .ok (.aload_n 0, 1) := by decide +kernel
theorem dX7_amends_38 : decode cX7_amends 38 = .ok (.getfield 47, 3) := by decide +kernel
theorem dX7_amends_41 : decode cX7_amends 41 = .ok (.iload_n 1, 1) := by decide +kernel
theorem dX7_amends_42 : decode cX7_amends 42 = .ok (.iaload, 1) := by decide +kernel
theorem dX7_amends_43 : decode cX7_amends 43 = .ok (.iastore, 1) := by decide +kernel
theorem dX7_amends_44 : decode cX7_amends 44 = .ok (.iconst 0, 1) := by decide +kernel
theorem dX7_amends_45 : decode cX7_amends 45 = .ok (.istore 4, 2) := by decide +kernel
theorem dX7_amends_47 : decode cX7_amends 47 = .ok (.iload 4, 2) := by decide +kernel
theorem dX7_amends_49 : decode cX7_amends 49 = .ok (.iconst 4, 1) := by decide +kernel
theorem dX7_amends_50 : decode cX7_amends 50 = .ok (.if_icmp .ge 31, 3) := by decide +kernel
theorem dX7_amends_53 : decode cX7_amends 53 = .ok (.aload_n 0, 1) := by decide +kernel
theorem dX7_amends_54 : decode cX7_amends 54 = .ok (.getfield 111, 3) := by decide +kernel
theorem dX7_amends_57 : decode cX7_amends 57 = .ok (.iconst 4, 1) := by decide +kernel
theorem dX7_amends_58 : decode cX7_amends 58 = .ok (.iload_n 3, 1) := by decide +kernel
theorem dX7_amends_59 : decode cX7_amends 59 = .ok (.imul, 1) := by decide +kernel
theorem dX7_amends_60 : decode cX7_amends 60 = .ok (.iload 4, 2) := by decide +kernel
theorem dX7_amends_62 : decode cX7_amends 62 = .ok (.iadd, 1) := by decide +kernel
theorem dX7_amends_63 : decode cX7_amends 63 = .ok (.aload_n 0, 1) := by decide +kernel
theorem dX7_amends_64 : decode cX7_amends 64 = .ok (.getfield 50, 3) := by decide +kernel
theorem dX7_amends_67 : decode cX7_amends 67 = .ok (.iconst 4, 1) := by decide +kernel
theorem dX7_amends_68 : decode cX7_amends 68 = .ok (.iload_n 1, 1) := by decide +kernel
theorem dX7_amends_69 : decode cX7_amends 69 = .ok (.imul, 1) := by decide +kernel
theorem dX7_amends_70 : decode cX7_amends 70 = .ok (.iload 4, 2) := by decide +kernel
theorem dX7_amends_72 : decode cX7_amends 72 = .ok (.iadd, 1) := by decide +kernel
theorem dX7_amends_73 : decode cX7_amends 73 = .ok (.iaload, 1) := by decide +kernel
theorem dX7_amends_74 : decode cX7_amends 74 = .ok (.iastore, 1) := by decide +kernel
theorem dX7_amends_75 : decode cX7_amends 75 = .ok (.iinc 4 1, 3) := by decide +kernel
theorem dX7_amends_78 : decode cX7_amends 78 = .ok (.goto (-31), 3) := by decide +kernel
theorem dX7_amends_81 : decode cX7_amends 81 = .ok (.iconst 1, 1) := by decide +kernel
theorem dX7_amends_82 : decode cX7_amends 82 = .ok (.ireturn, 1) := by decide +kernel
set_option maxRecDepth 20000 in
theorem ggX7_does_X7_enacts : GoodIn wsX7_does wsX7_enacts := goodIn_r _ [9, 2, 10, 11, 4, 12, 13, 14, 15, 16, 8, 17, 18, 19, 20, 21, 22, 23, 24, 25, 26, 27, 28, 29, 30, 31, 32, 33, 3, 34, 35, 36, 37, 38, 39, 40, 41, 119, 120, 121, 122, 123, 124, 125, 126, 127, 128, 129, 130, 131, 132, 133, 134, 135, 136, 137, 138, 139, 140, 141, 142, 143, 144, 145, 146, 147, 148, 149, 150, 151, 152, 153, 154, 155, 156, 157, 158, 159, 160, 161, 162, 163, 164, 165, 166, 167] (by decide +kernel) (by decide +kernel)
set_option maxRecDepth 20000 in
theorem gX7_does_X7_enacts : GoodIn wsX7_does (wsV RX7 220 RX7 yX7_enacts wsX7_enacts) := goodIn_app (goodIn_of _ (by decide +kernel)) ggX7_does_X7_enacts
set_option maxRecDepth 20000 in
theorem ggX7_does_X7_isInEffect : GoodIn wsX7_does wsX7_isInEffect := goodIn_r _ [45, 46, 47, 48, 49, 50, 51, 52, 53, 54, 55, 8, 56, 57, 58, 59, 60, 61, 62, 63, 64, 65, 66, 67, 68, 69, 119, 120, 121, 122, 123, 124, 125, 126, 127, 128, 129, 130, 131, 132, 133, 134, 135, 136, 137, 138, 139, 140, 141, 142, 143, 144, 145, 146, 147, 148, 149, 150, 151, 152, 153, 154, 155, 156, 157, 158, 159, 160, 161, 162, 163, 164, 165, 166, 167] (by decide +kernel) (by decide +kernel)
set_option maxRecDepth 20000 in
theorem gX7_does_X7_isInEffect : GoodIn wsX7_does (wsV RX7 223 RX7 yX7_isInEffect wsX7_isInEffect) := goodIn_app (goodIn_of _ (by decide +kernel)) ggX7_does_X7_isInEffect
set_option maxRecDepth 20000 in
theorem ggX7_does_X7_amends : GoodIn wsX7_does wsX7_amends := goodIn_r _ [73, 2, 74, 1, 27, 75, 28, 76, 119, 120, 121, 122, 123, 124, 125, 126, 127, 128, 129, 130, 131, 132, 133, 134, 135, 136, 137, 138, 139, 140, 141, 142, 143, 144, 145, 146, 147, 148, 149, 150, 151, 152, 153, 154, 155, 156, 157, 158, 159, 160, 161, 162, 163, 164, 165, 166, 167] (by decide +kernel) (by decide +kernel)
set_option maxRecDepth 20000 in
theorem gX7_does_X7_amends : GoodIn wsX7_does (wsV RX7 227 RX7 yX7_amends wsX7_amends) := goodIn_app (goodIn_of _ (by decide +kernel)) ggX7_does_X7_amends
set_option maxRecDepth 20000 in
theorem ggX7_does_X7_inserts : GoodIn wsX7_does wsX7_inserts := goodIn_r _ [80, 81, 41, 82, 83, 84, 8, 85, 86, 87, 88, 89, 39, 90, 91, 92, 93, 94, 40, 29, 30, 31, 32, 33, 3, 34, 23, 24, 25, 26, 27, 28, 35, 36, 37, 38, 119, 120, 121, 122, 123, 124, 125, 126, 127, 128, 129, 130, 131, 132, 133, 134, 135, 136, 137, 138, 139, 140, 141, 142, 143, 144, 145, 146, 147, 148, 149, 150, 151, 152, 153, 154, 155, 156, 157, 158, 159, 160, 161, 162, 163, 164, 165, 166, 167] (by decide +kernel) (by decide +kernel)
set_option maxRecDepth 20000 in
theorem gX7_does_X7_inserts : GoodIn wsX7_does (wsV RX7 231 RX7 yX7_inserts wsX7_inserts) := goodIn_app (goodIn_of _ (by decide +kernel)) ggX7_does_X7_inserts
set_option maxRecDepth 20000 in
theorem ggX7_does_X7_substitutes : GoodIn wsX7_does wsX7_substitutes := goodIn_r _ [98, 41, 81, 86, 87, 88, 8, 89, 39, 90, 23, 24, 25, 26, 27, 28, 29, 30, 31, 32, 33, 3, 34, 91, 92, 93, 94, 40, 35, 36, 37, 38, 119, 120, 121, 122, 123, 124, 125, 126, 127, 128, 129, 130, 131, 132, 133, 134, 135, 136, 137, 138, 139, 140, 141, 142, 143, 144, 145, 146, 147, 148, 149, 150, 151, 152, 153, 154, 155, 156, 157, 158, 159, 160, 161, 162, 163, 164, 165, 166, 167] (by decide +kernel) (by decide +kernel)
set_option maxRecDepth 20000 in
theorem gX7_does_X7_substitutes : GoodIn wsX7_does (wsV RX7 234 RX7 yX7_substitutes wsX7_substitutes) := goodIn_app (goodIn_of _ (by decide +kernel)) ggX7_does_X7_substitutes
set_option maxRecDepth 20000 in
theorem ggX7_does_X7_omits : GoodIn wsX7_does wsX7_omits := goodIn_r _ [102, 41, 82, 83, 84, 8, 85, 86, 87, 88, 89, 81, 39, 90, 119, 120, 121, 122, 123, 124, 125, 126, 127, 128, 129, 130, 131, 132, 133, 134, 135, 136, 137, 138, 139, 140, 141, 142, 143, 144, 145, 146, 147, 148, 149, 150, 151, 152, 153, 154, 155, 156, 157, 158, 159, 160, 161, 162, 163, 164, 165, 166, 167] (by decide +kernel) (by decide +kernel)
set_option maxRecDepth 20000 in
theorem gX7_does_X7_omits : GoodIn wsX7_does (wsV RX7 237 RX7 yX7_omits wsX7_omits) := goodIn_app (goodIn_of _ (by decide +kernel)) ggX7_does_X7_omits
set_option maxRecDepth 20000 in
theorem ggX7_does_X7_renumbers : GoodIn wsX7_does wsX7_renumbers := goodIn_r _ [106, 12, 11, 13, 18, 19, 20, 8, 21, 22, 4, 119, 120, 121, 122, 123, 124, 125, 126, 127, 128, 129, 130, 131, 132, 133, 134, 135, 136, 137, 138, 139, 140, 141, 142, 143, 144, 145, 146, 147, 148, 149, 150, 151, 152, 153, 154, 155, 156, 157, 158, 159, 160, 161, 162, 163, 164, 165, 166, 167] (by decide +kernel) (by decide +kernel)
set_option maxRecDepth 20000 in
theorem gX7_does_X7_renumbers : GoodIn wsX7_does (wsV RX7 240 RX7 yX7_renumbers wsX7_renumbers) := goodIn_app (goodIn_of _ (by decide +kernel)) ggX7_does_X7_renumbers
set_option maxRecDepth 20000 in
theorem ggX7_does_X7_moves : GoodIn wsX7_does wsX7_moves := goodIn_r _ [110, 10, 13, 12, 14, 15, 16, 8, 17, 4, 111, 112, 113, 114, 18, 19, 20, 21, 22, 119, 120, 121, 122, 123, 124, 125, 126, 127, 128, 129, 130, 131, 132, 133, 134, 135, 136, 137, 138, 139, 140, 141, 142, 143, 144, 145, 146, 147, 148, 149, 150, 151, 152, 153, 154, 155, 156, 157, 158, 159, 160, 161, 162, 163, 164, 165, 166, 167] (by decide +kernel) (by decide +kernel)
set_option maxRecDepth 20000 in
theorem gX7_does_X7_moves : GoodIn wsX7_does (wsV RX7 243 RX7 yX7_moves wsX7_moves) := goodIn_app (goodIn_of _ (by decide +kernel)) ggX7_does_X7_moves
set_option maxRecDepth 20000 in
theorem ggX7_does_X7_repeals : GoodIn wsX7_does wsX7_repeals := goodIn_r _ [118, 22, 33, 4, 111, 112, 113, 8, 114, 12, 119, 120, 121, 122, 123, 124, 125, 126, 127, 128, 129, 130, 131, 132, 133, 134, 135, 136, 137, 138, 139, 140, 141, 142, 143, 144, 145, 146, 147, 148, 149, 150, 151, 152, 153, 154, 155, 156, 157, 158, 159, 160, 161, 162, 163, 164, 165, 166, 167] (by decide +kernel) (by decide +kernel)
set_option maxRecDepth 20000 in
theorem gX7_does_X7_repeals : GoodIn wsX7_does (wsV RX7 246 RX7 yX7_repeals wsX7_repeals) := goodIn_app (goodIn_of _ (by decide +kernel)) ggX7_does_X7_repeals
theorem dX7_does_0 : decode cX7_does 0 = .ok (.aload_n 0, 1) := by decide +kernel
theorem dX7_does_1 : decode cX7_does 1 = .ok (.getfield 26, 3) := by decide +kernel
theorem dX7_does_4 : decode cX7_does 4 = .ok (.iload_n 1, 1) := by decide +kernel
theorem dX7_does_5 : decode cX7_does 5 = .ok (.iaload, 1) := by decide +kernel
theorem dX7_does_6 : decode cX7_does 6 = .ok (.istore 5, 2) := by decide +kernel
theorem dX7_does_8 : decode cX7_does 8 = .ok (.aload_n 0, 1) := by decide +kernel
theorem dX7_does_9 : decode cX7_does 9 = .ok (.getfield 32, 3) := by decide +kernel
theorem dX7_does_12 : decode cX7_does 12 = .ok (.iload_n 1, 1) := by decide +kernel
theorem dX7_does_13 : decode cX7_does 13 = .ok (.iaload, 1) := by decide +kernel
theorem dX7_does_14 : decode cX7_does 14 = .ok (.istore 6, 2) := by decide +kernel
theorem dX7_does_16 : decode cX7_does 16 = .ok (.aload_n 0, 1) := by decide +kernel
theorem dX7_does_17 : decode cX7_does 17 = .ok (.iconst 0, 1) := by decide +kernel
theorem dX7_does_18 : decode cX7_does 18 = .ok (.putfield 190, 3) := by decide +kernel
theorem dX7_does_21 : decode cX7_does 21 = .ok (.iload 5, 2) := by decide +kernel
theorem dX7_does_23 : decode cX7_does 23 = .ok (.ifCond .ne 9, 3) := by decide +kernel
theorem dX7_does_26 : decode cX7_does 26 = .ok (.aload_n 0, 1) := by decide +kernel
theorem dX7_does_27 : decode cX7_does 27 = .ok (.iload_n 1, 1) := by decide +kernel
theorem dX7_does_28 : decode cX7_does 28 = .ok (.invokevirtual 220, 3) := by decide +kernel
theorem dX7_does_31 : decode cX7_does 31 = .ok (.ireturn, 1) := by decide +kernel
theorem dX7_does_32 : decode cX7_does 32 = .ok (.iload 5, 2) := by decide +kernel
theorem dX7_does_34 : decode cX7_does 34 = .ok (.bipush 7, 2) := by decide +kernel
theorem dX7_does_36 : decode cX7_does 36 = .ok (.if_icmp .ne 19, 3) := by decide +kernel
theorem dX7_does_39 : decode cX7_does 39 = .ok (.aload_n 0, 1) := by decide +kernel
theorem dX7_does_40 : decode cX7_does 40 = .ok (.iload_n 1, 1) := by decide +kernel
theorem dX7_does_41 : decode cX7_does 41 = .ok (.aload_n 0, 1) := by decide +kernel
theorem dX7_does_42 : decode cX7_does 42 = .ok (.iload 6, 2) := by decide +kernel
theorem dX7_does_44 : decode cX7_does 44 = .ok (.iload_n 2, 1) := by decide +kernel
theorem dX7_does_45 : decode cX7_does 45 = .ok (.iload_n 3, 1) := by decide +kernel
theorem dX7_does_46 : decode cX7_does 46 = .ok (.iload 4, 2) := by decide +kernel
theorem dX7_does_48 : decode cX7_does 48 = .ok (.invokevirtual 223, 3) := by decide +kernel
theorem dX7_does_51 : decode cX7_does 51 = .ok (.invokevirtual 227, 3) := by decide +kernel
theorem dX7_does_54 : decode cX7_does 54 = .ok (.ireturn, 1) := by decide +kernel
theorem dX7_does_55 : decode cX7_does 55 = .ok (.aload_n 0, 1) := by decide +kernel
theorem dX7_does_56 : decode cX7_does 56 = .ok (.getfield 89, 3) := by decide +kernel
theorem dX7_does_59 : decode cX7_does 59 = .ok (.iload 6, 2) := by decide +kernel
theorem dX7_does_61 : decode cX7_does 61 = .ok (.baload, 1) := by decide +kernel
theorem dX7_does_62 : decode cX7_does 62 = .ok (.ifCond .ne 5, 3) := by decide +kernel
theorem dX7_does_65 : decode cX7_does 65 = .ok (.iconst 0, 1) := by decide +kernel
theorem dX7_does_66 : decode cX7_does 66 = .ok (.ireturn, 1) := by decide +kernel
theorem dX7_does_67 : decode cX7_does 67 = .ok (.iload 5, 2) := by decide +kernel
theorem dX7_does_69 : decode cX7_does 69 = .ok (.iconst 1, 1) := by decide +kernel
theorem dX7_does_70 : decode cX7_does 70 = .ok (.if_icmp .ne 13, 3) := by decide +kernel
theorem dX7_does_73 : decode cX7_does 73 = .ok (.aload_n 0, 1) := by decide +kernel
theorem dX7_does_74 : decode cX7_does 74 = .ok (.iload_n 1, 1) := by decide +kernel
theorem dX7_does_75 : decode cX7_does 75 = .ok (.iload 6, 2) := by decide +kernel
theorem dX7_does_77 : decode cX7_does 77 = .ok (.invokevirtual 231, 3) := by decide +kernel
theorem dX7_does_80 : decode cX7_does 80 = .ok (.goto 73, 3) := by decide +kernel
theorem dX7_does_83 : decode cX7_does 83 = .ok (.iload 5, 2) := by decide +kernel
theorem dX7_does_85 : decode cX7_does 85 = .ok (.iconst 2, 1) := by decide +kernel
theorem dX7_does_86 : decode cX7_does 86 = .ok (.if_icmp .ne 13, 3) := by decide +kernel
theorem dX7_does_89 : decode cX7_does 89 = .ok (.aload_n 0, 1) := by decide +kernel
theorem dX7_does_90 : decode cX7_does 90 = .ok (.iload_n 1, 1) := by decide +kernel
theorem dX7_does_91 : decode cX7_does 91 = .ok (.iload 6, 2) := by decide +kernel
theorem dX7_does_93 : decode cX7_does 93 = .ok (.invokevirtual 234, 3) := by decide +kernel
theorem dX7_does_96 : decode cX7_does 96 = .ok (.goto 57, 3) := by decide +kernel
theorem dX7_does_99 : decode cX7_does 99 = .ok (.iload 5, 2) := by decide +kernel
theorem dX7_does_101 : decode cX7_does 101 = .ok (.iconst 3, 1) := by decide +kernel
theorem dX7_does_102 : decode cX7_does 102 = .ok (.if_icmp .ne 13, 3) := by decide +kernel
theorem dX7_does_105 : decode cX7_does 105 = .ok (.aload_n 0, 1) := by decide +kernel
theorem dX7_does_106 : decode cX7_does 106 = .ok (.iload_n 1, 1) := by decide +kernel
theorem dX7_does_107 : decode cX7_does 107 = .ok (.iload 6, 2) := by decide +kernel
theorem dX7_does_109 : decode cX7_does 109 = .ok (.invokevirtual 237, 3) := by decide +kernel
theorem dX7_does_112 : decode cX7_does 112 = .ok (.goto 41, 3) := by decide +kernel
theorem dX7_does_115 : decode cX7_does 115 = .ok (.iload 5, 2) := by decide +kernel
theorem dX7_does_117 : decode cX7_does 117 = .ok (.iconst 4, 1) := by decide +kernel
theorem dX7_does_118 : decode cX7_does 118 = .ok (.if_icmp .ne 13, 3) := by decide +kernel
theorem dX7_does_121 : decode cX7_does 121 = .ok (.aload_n 0, 1) := by decide +kernel
theorem dX7_does_122 : decode cX7_does 122 = .ok (.iload_n 1, 1) := by decide +kernel
theorem dX7_does_123 : decode cX7_does 123 = .ok (.iload 6, 2) := by decide +kernel
theorem dX7_does_125 : decode cX7_does 125 = .ok (.invokevirtual 240, 3) := by decide +kernel
theorem dX7_does_128 : decode cX7_does 128 = .ok (.goto 25, 3) := by decide +kernel
theorem dX7_does_131 : decode cX7_does 131 = .ok (.iload 5, 2) := by decide +kernel
theorem dX7_does_133 : decode cX7_does 133 = .ok (.iconst 5, 1) := by decide +kernel
theorem dX7_does_134 : decode cX7_does 134 = .ok (.if_icmp .ne 13, 3) := by decide +kernel
theorem dX7_does_137 : decode cX7_does 137 = .ok (.aload_n 0, 1) := by decide +kernel
theorem dX7_does_138 : decode cX7_does 138 = .ok (.iload_n 1, 1) := by decide +kernel
theorem dX7_does_139 : decode cX7_does 139 = .ok (.iload 6, 2) := by decide +kernel
theorem dX7_does_141 : decode cX7_does 141 = .ok (.invokevirtual 243, 3) := by decide +kernel
theorem dX7_does_144 : decode cX7_does 144 = .ok (.goto 9, 3) := by decide +kernel
theorem dX7_does_147 : decode cX7_does 147 = .ok (.aload_n 0, 1) := by decide +kernel
theorem dX7_does_148 : decode cX7_does 148 = .ok (.iload 6, 2) := by decide +kernel
theorem dX7_does_150 : decode cX7_does 150 = .ok (.invokevirtual 246, 3) := by decide +kernel
theorem dX7_does_153 : decode cX7_does 153 = .ok (.ireturn, 1) := by decide +kernel
set_option maxRecDepth 20000 in
theorem ggX7_views_X7_commencesBy : GoodIn wsX7_views wsX7_commencesBy := goodIn_r _ [13, 14, 15, 16, 17, 18, 19, 20, 21, 22, 12, 23, 124, 125, 126, 127, 128, 129, 130, 131, 132, 133, 134, 135, 136, 137, 138, 139, 140, 141, 142, 143, 144, 145, 146, 147, 148, 149, 150, 151, 152, 153, 154, 155, 156, 157, 158, 159, 160, 161, 162, 163, 164, 165, 166, 167, 168, 169, 170, 171, 172] (by decide +kernel) (by decide +kernel)
set_option maxRecDepth 20000 in
theorem gX7_views_X7_commencesBy : GoodIn wsX7_views (wsV RX7 183 RX7 yX7_commencesBy wsX7_commencesBy) := goodIn_app (goodIn_of _ (by decide +kernel)) ggX7_views_X7_commencesBy
set_option maxRecDepth 20000 in
theorem ggX7_views_X7_isInEffect : GoodIn wsX7_views wsX7_isInEffect := goodIn_r _ [27, 28, 29, 30, 31, 32, 33, 34, 9, 10, 11, 12, 13, 14, 15, 16, 17, 18, 19, 20, 21, 22, 23, 35, 36, 37, 124, 125, 126, 127, 128, 129, 130, 131, 132, 133, 134, 135, 136, 137, 138, 139, 140, 141, 142, 143, 144, 145, 146, 147, 148, 149, 150, 151, 152, 153, 154, 155, 156, 157, 158, 159, 160, 161, 162, 163, 164, 165, 166, 167, 168, 169, 170, 171, 172] (by decide +kernel) (by decide +kernel)
set_option maxRecDepth 20000 in
theorem gX7_views_X7_isInEffect : GoodIn wsX7_views (wsV RX7 223 RX7 yX7_isInEffect wsX7_isInEffect) := goodIn_app (goodIn_of _ (by decide +kernel)) ggX7_views_X7_isInEffect
set_option maxRecDepth 20000 in
theorem ggX7_views_X7_does : GoodIn wsX7_views wsX7_does := goodIn_r _ [41, 42, 43, 44, 1, 45, 46, 47, 12, 48, 49, 50, 51, 52, 53, 54, 55, 56, 57, 58, 59, 60, 61, 62, 63, 64, 65, 5, 7, 66, 67, 68, 69, 70, 71, 72, 73, 74, 75, 76, 77, 2, 24, 25, 26, 27, 28, 29, 30, 31, 32, 33, 34, 9, 10, 11, 13, 14, 15, 16, 17, 18, 19, 20, 21, 22, 23, 35, 36, 37, 78, 79, 80, 81, 4, 6, 8, 82, 83, 84, 85, 86, 87, 88, 89, 90, 91, 92, 93, 94, 95, 96, 97, 98, 99, 100, 101, 102, 103, 104, 105, 106, 107, 108, 109, 110, 111, 112, 113, 114, 115, 116, 117, 118, 119, 120, 121, 122, 123, 124, 125, 126, 127, 128, 129, 130, 131, 132, 133, 134, 135, 136, 137, 138, 139, 140, 141, 142, 143, 144, 145, 146, 147, 148, 149, 150, 151, 152, 153, 154, 155, 156, 157, 158, 159, 160, 161, 162, 163, 164, 165, 166, 167, 168, 169, 170, 171, 172] (by decide +kernel) (by decide +kernel)
set_option maxRecDepth 20000 in
theorem gX7_views_X7_does : GoodIn wsX7_views (wsV RX7 249 RX7 yX7_does wsX7_does) := goodIn_app (goodIn_of _ (by decide +kernel)) ggX7_views_X7_does
theorem dX7_views_0 : decode cX7_views 0 = .ok (.iconst 0, 1) := by decide +kernel
theorem dX7_views_1 : decode cX7_views 1 = .ok (.istore 4, 2) := by decide +kernel
theorem dX7_views_3 : decode cX7_views 3 = .ok (.iload 4, 2) := by decide +kernel
theorem dX7_views_5 : decode cX7_views 5 = .ok (.bipush 20, 2) := by decide +kernel
theorem dX7_views_7 : decode cX7_views 7 = .ok (.if_icmp .ge 25, 3) := by decide +kernel
theorem dX7_views_10 : decode cX7_views 10 = .ok (.aload_n 0, 1) := by decide +kernel
theorem dX7_views_11 : decode cX7_views 11 = .ok (.getfield 89, 3) := by decide +kernel
theorem dX7_views_14 : decode cX7_views 14 = .ok (.iload 4, 2) := by decide +kernel
theorem dX7_views_16 : decode cX7_views 16 = .ok (.iconst 0, 1) := by decide +kernel
theorem dX7_views_17 : decode cX7_views 17 = .ok (.bastore, 1) := by decide +kernel
theorem dX7_views_18 : decode cX7_views 18 = .ok (.aload_n 0, 1) := by decide +kernel
theorem dX7_views_19 : decode cX7_views 19 = .ok (.getfield 99, 3) := by decide +kernel
theorem dX7_views_22 : decode cX7_views 22 = .ok (.iload 4, 2) := by decide +kernel
theorem dX7_views_24 : decode cX7_views 24 = .ok (.iconst 0, 1) := by decide +kernel
theorem dX7_views_25 : decode cX7_views 25 = .ok (.iastore, 1) := by decide +kernel
theorem dX7_views_26 : decode cX7_views 26 = .ok (.iinc 4 1, 3) := by decide +kernel
theorem dX7_views_29 : decode cX7_views 29 = .ok (.goto (-26), 3) := by decide +kernel
theorem dX7_views_32 : decode cX7_views 32 = .ok (.iconst 0, 1) := by decide +kernel
theorem dX7_views_33 : decode cX7_views 33 = .ok (.istore 4, 2) := by decide +kernel
theorem dX7_views_35 : decode cX7_views 35 = .ok (.iload 4, 2) := by decide +kernel
theorem dX7_views_37 : decode cX7_views 37 = .ok (.aload_n 0, 1) := by decide +kernel
theorem dX7_views_38 : decode cX7_views 38 = .ok (.getfield 123, 3) := by decide +kernel
theorem dX7_views_41 : decode cX7_views 41 = .ok (.if_icmp .ge 70, 3) := by decide +kernel
theorem dX7_views_44 : decode cX7_views 44 = .ok (.aload_n 0, 1) := by decide +kernel
theorem dX7_views_45 : decode cX7_views 45 = .ok (.getfield 86, 3) := by decide +kernel
theorem dX7_views_48 : decode cX7_views 48 = .ok (.iload 4, 2) := by decide +kernel
theorem dX7_views_50 : decode cX7_views 50 = .ok (.iconst 0, 1) := by decide +kernel
theorem dX7_views_51 : decode cX7_views 51 = .ok (.iastore, 1) := by decide +kernel
theorem dX7_views_52 : decode cX7_views 52 = .ok (.aload_n 0, 1) := by decide +kernel
theorem dX7_views_53 : decode cX7_views 53 = .ok (.getfield 108, 3) := by decide +kernel
theorem dX7_views_56 : decode cX7_views 56 = .ok (.iload 4, 2) := by decide +kernel
theorem dX7_views_58 : decode cX7_views 58 = .ok (.aload_n 0, 1) := by decide +kernel
theorem dX7_views_59 : decode cX7_views 59 = .ok (.getfield 47, 3) := by decide +kernel
theorem dX7_views_62 : decode cX7_views 62 = .ok (.iload 4, 2) := by decide +kernel
theorem dX7_views_64 : decode cX7_views 64 = .ok (.iaload, 1) := by decide +kernel
theorem dX7_views_65 : decode cX7_views 65 = .ok (.iastore, 1) := by decide +kernel
theorem dX7_views_66 : decode cX7_views 66 = .ok (.iconst 0, 1) := by decide +kernel
theorem dX7_views_67 : decode cX7_views 67 = .ok (.istore 5, 2) := by decide +kernel
theorem dX7_views_69 : decode cX7_views 69 = .ok (.iload 5, 2) := by decide +kernel
theorem dX7_views_71 : decode cX7_views 71 = .ok (.iconst 4, 1) := by decide +kernel
theorem dX7_views_72 : decode cX7_views 72 = .ok (.if_icmp .ge 33, 3) := by decide +kernel
theorem dX7_views_75 : decode cX7_views 75 = .ok (.aload_n 0, 1) := by decide +kernel
theorem dX7_views_76 : decode cX7_views 76 = .ok (.getfield 111, 3) := by decide +kernel
theorem dX7_views_79 : decode cX7_views 79 = .ok (.iconst 4, 1) := by decide +kernel
theorem dX7_views_80 : decode cX7_views 80 = .ok (.iload 4, 2) := by decide +kernel
theorem dX7_views_82 : decode cX7_views 82 = .ok (.imul, 1) := by decide +kernel
theorem dX7_views_83 : decode cX7_views 83 = .ok (.iload 5, 2) := by decide +kernel
theorem dX7_views_85 : decode cX7_views 85 = .ok (.iadd, 1) := by decide +kernel
theorem dX7_views_86 : decode cX7_views 86 = .ok (.aload_n 0, 1) := by decide +kernel
theorem dX7_views_87 : decode cX7_views 87 = .ok (.getfield 50, 3) := by decide +kernel
theorem dX7_views_90 : decode cX7_views 90 = .ok (.iconst 4, 1) := by decide +kernel
theorem dX7_views_91 : decode cX7_views 91 = .ok (.iload 4, 2) := by decide +kernel
theorem dX7_views_93 : decode cX7_views 93 = .ok (.imul, 1) := by decide +kernel
theorem dX7_views_94 : decode cX7_views 94 = .ok (.iload 5, 2) := by decide +kernel
theorem dX7_views_96 : decode cX7_views 96 = .ok (.iadd, 1) := by decide +kernel
theorem dX7_views_97 : decode cX7_views 97 = .ok (.iaload, 1) := by decide +kernel
theorem dX7_views_98 : decode cX7_views 98 = .ok (.iastore, 1) := by decide +kernel
theorem dX7_views_99 : decode cX7_views 99 = .ok (.iinc 5 1, 3) := by decide +kernel
theorem dX7_views_102 : decode cX7_views 102 = .ok (.goto (-33), 3) := by decide +kernel
theorem dX7_views_105 : decode cX7_views 105 = .ok (.iinc 4 1, 3) := by decide +kernel
theorem dX7_views_108 : decode cX7_views 108 = .ok (.goto (-73), 3) := by decide +kernel
theorem dX7_views_111 : decode cX7_views 111 = .ok (.iconst 1, 1) := by decide +kernel
theorem dX7_views_112 : decode cX7_views 112 = .ok (.istore 4, 2) := by decide +kernel
theorem dX7_views_114 : decode cX7_views 114 = .ok (.iconst (-1), 1) := by decide +kernel
theorem dX7_views_115 : decode cX7_views 115 = .ok (.istore 5, 2) := by decide +kernel
theorem dX7_views_117 : decode cX7_views 117 = .ok (.iconst (-1), 1) := by decide +kernel
theorem dX7_views_118 : decode cX7_views 118 = .ok (.istore 6, 2) := by decide +kernel
theorem dX7_views_120 : decode cX7_views 120 = .ok (.iload 4, 2) := by decide +kernel
theorem dX7_views_122 : decode cX7_views 122 = .ok (.ifCond .eq 151, 3) := by decide +kernel
theorem dX7_views_125 : decode cX7_views 125 = .ok (.iconst (-1), 1) := by decide +kernel
theorem dX7_views_126 : decode cX7_views 126 = .ok (.istore 7, 2) := by decide +kernel
theorem dX7_views_128 : decode cX7_views 128 = .ok (.sipush 5001, 3) := by decide +kernel
theorem dX7_views_131 : decode cX7_views 131 = .ok (.istore 8, 2) := by decide +kernel
theorem dX7_views_133 : decode cX7_views 133 = .ok (.iconst 0, 1) := by decide +kernel
theorem dX7_views_134 : decode cX7_views 134 = .ok (.istore 9, 2) := by decide +kernel
theorem dX7_views_136 : decode cX7_views 136 = .ok (.iload 9, 2) := by decide +kernel
theorem dX7_views_138 : decode cX7_views 138 = .ok (.aload_n 0, 1) := by decide +kernel
theorem dX7_views_139 : decode cX7_views 139 = .ok (.getfield 123, 3) := by decide +kernel
theorem dX7_views_142 : decode cX7_views 142 = .ok (.if_icmp .ge 78, 3) := by decide +kernel
theorem dX7_views_145 : decode cX7_views 145 = .ok (.aload_n 0, 1) := by decide +kernel
theorem dX7_views_146 : decode cX7_views 146 = .ok (.iload 9, 2) := by decide +kernel
theorem dX7_views_148 : decode cX7_views 148 = .ok (.iload_n 2, 1) := by decide +kernel
theorem dX7_views_149 : decode cX7_views 149 = .ok (.invokevirtual 183, 3) := by decide +kernel
theorem dX7_views_152 : decode cX7_views 152 = .ok (.istore 10, 2) := by decide +kernel
theorem dX7_views_154 : decode cX7_views 154 = .ok (.iload 10, 2) := by decide +kernel
theorem dX7_views_156 : decode cX7_views 156 = .ok (.iload 5, 2) := by decide +kernel
theorem dX7_views_158 : decode cX7_views 158 = .ok (.if_icmp .gt 17, 3) := by decide +kernel
theorem dX7_views_161 : decode cX7_views 161 = .ok (.iload 10, 2) := by decide +kernel
theorem dX7_views_163 : decode cX7_views 163 = .ok (.iload 5, 2) := by decide +kernel
theorem dX7_views_165 : decode cX7_views 165 = .ok (.if_icmp .ne 14, 3) := by decide +kernel
theorem dX7_views_168 : decode cX7_views 168 = .ok (.iload 9, 2) := by decide +kernel
theorem dX7_views_170 : decode cX7_views 170 = .ok (.iload 6, 2) := by decide +kernel
theorem dX7_views_172 : decode cX7_views 172 = .ok (.if_icmp .le 7, 3) := by decide +kernel
theorem dX7_views_175 : decode cX7_views 175 = .ok (.iconst 1, 1) := by decide +kernel
theorem dX7_views_176 : decode cX7_views 176 = .ok (.goto 4, 3) := by decide +kernel
theorem dX7_views_179 : decode cX7_views 179 = .ok (.iconst 0, 1) := by decide +kernel
theorem dX7_views_180 : decode cX7_views 180 = .ok (.istore 11, 2) := by decide +kernel
theorem dX7_views_182 : decode cX7_views 182 = .ok (.aload_n 0, 1) := by decide +kernel
theorem dX7_views_183 : decode cX7_views 183 = .ok (.iload 9, 2) := by decide +kernel
theorem dX7_views_185 : decode cX7_views 185 = .ok (.iload_n 1, 1) := by decide +kernel
theorem dX7_views_186 : decode cX7_views 186 = .ok (.iload_n 2, 1) := by decide +kernel
theorem dX7_views_187 : decode cX7_views 187 = .ok (.iload_n 3, 1) := by decide +kernel
theorem dX7_views_188 : decode cX7_views 188 = .ok (.invokevirtual 223, 3) := by decide +kernel
theorem dX7_views_191 : decode cX7_views 191 = .ok (.ifCond .eq 23, 3) := by decide +kernel
theorem dX7_views_194 : decode cX7_views 194 = .ok (.iload 11, 2) := by decide +kernel
theorem dX7_views_196 : decode cX7_views 196 = .ok (.ifCond .eq 18, 3) := by decide +kernel
theorem dX7_views_199 : decode cX7_views 199 = .ok (.iload 10, 2) := by decide +kernel
theorem dX7_views_201 : decode cX7_views 201 = .ok (.iload 8, 2) := by decide +kernel
theorem dX7_views_203 : decode cX7_views 203 = .ok (.if_icmp .ge 11, 3) := by decide +kernel
theorem dX7_views_206 : decode cX7_views 206 = .ok (.iload 9, 2) := by decide +kernel
theorem dX7_views_208 : decode cX7_views 208 = .ok (.istore 7, 2) := by decide +kernel
theorem dX7_views_210 : decode cX7_views 210 = .ok (.iload 10, 2) := by decide +kernel
theorem dX7_views_212 : decode cX7_views 212 = .ok (.istore 8, 2) := by decide +kernel
theorem dX7_views_214 : decode cX7_views 214 = .ok (.iinc 9 1, 3) := by decide +kernel
theorem dX7_views_217 : decode cX7_views 217 = .ok (.goto (-81), 3) := by decide +kernel
theorem dX7_views_220 : decode cX7_views 220 = .ok (.iload 7, 2) := by decide +kernel
theorem dX7_views_222 : decode cX7_views 222 = .ok (.iconst (-1), 1) := by decide +kernel
theorem dX7_views_223 : decode cX7_views 223 = .ok (.if_icmp .eq 7, 3) := by decide +kernel
theorem dX7_views_226 : decode cX7_views 226 = .ok (.iconst 1, 1) := by decide +kernel
theorem dX7_views_227 : decode cX7_views 227 = .ok (.goto 4, 3) := by decide +kernel
theorem dX7_views_230 : decode cX7_views 230 = .ok (.iconst 0, 1) := by decide +kernel
theorem dX7_views_231 : decode cX7_views 231 = .ok (.istore 4, 2) := by decide +kernel
theorem dX7_views_233 : decode cX7_views 233 = .ok (.iload 4, 2) := by decide +kernel
theorem dX7_views_235 : decode cX7_views 235 = .ok (.ifCond .eq 35, 3) := by decide +kernel
theorem dX7_views_238 : decode cX7_views 238 = .ok (.aload_n 0, 1) := by decide +kernel
theorem dX7_views_239 : decode cX7_views 239 = .ok (.getfield 86, 3) := by decide +kernel
theorem dX7_views_242 : decode cX7_views 242 = .ok (.iload 7, 2) := by decide +kernel
theorem dX7_views_244 : decode cX7_views 244 = .ok (.aload_n 0, 1) := by decide +kernel
theorem dX7_views_245 : decode cX7_views 245 = .ok (.iload 7, 2) := by decide +kernel
theorem dX7_views_247 : decode cX7_views 247 = .ok (.iload_n 1, 1) := by decide +kernel
theorem dX7_views_248 : decode cX7_views 248 = .ok (.iload_n 2, 1) := by decide +kernel
theorem dX7_views_249 : decode cX7_views 249 = .ok (.iload_n 3, 1) := by decide +kernel
theorem dX7_views_250 : decode cX7_views 250 = .ok (.invokevirtual 249, 3) := by decide +kernel
theorem dX7_views_253 : decode cX7_views 253 = .ok (.ifCond .eq 7, 3) := by decide +kernel
theorem dX7_views_256 : decode cX7_views 256 = .ok (.iconst 1, 1) := by decide +kernel
theorem dX7_views_257 : decode cX7_views 257 = .ok (.goto 4, 3) := by decide +kernel
theorem dX7_views_260 : decode cX7_views 260 = .ok (.iconst 2, 1) := by decide +kernel
theorem dX7_views_261 : decode cX7_views 261 = .ok (.iastore, 1) := by decide +kernel
theorem dX7_views_262 : decode cX7_views 262 = .ok (.iload 8, 2) := by decide +kernel
theorem dX7_views_264 : decode cX7_views 264 = .ok (.istore 5, 2) := by decide +kernel
theorem dX7_views_266 : decode cX7_views 266 = .ok (.iload 7, 2) := by decide +kernel
theorem dX7_views_268 : decode cX7_views 268 = .ok (.istore 6, 2) := by decide +kernel
theorem dX7_views_270 : decode cX7_views 270 = .ok (.goto (-150), 3) := by decide +kernel
theorem dX7_views_273 : decode cX7_views 273 = .ok (.return_, 1) := by decide +kernel
set_option maxRecDepth 20000 in
theorem ggX7_laysView_X7_views : GoodIn wsX7_laysView wsX7_views := goodIn_r _ [8, 9, 10, 11, 12, 13, 14, 15, 16, 17, 18, 19, 7, 20, 21, 22, 23, 24, 25, 26, 27, 28, 29, 30, 31, 32, 33, 34, 35, 36, 37, 38, 39, 40, 41, 42, 43, 44, 45, 46, 47, 48, 49, 50, 51, 52, 53, 54, 55, 56, 57, 58, 59, 60, 61, 62, 63, 64, 65, 66, 67, 68, 69, 70, 71, 72, 73, 74, 75, 76, 77, 78, 79, 80, 81, 82, 83, 84, 85, 86, 87, 88, 89, 90, 91, 92, 93, 94, 95, 96, 97, 98, 99, 100, 101, 102, 103, 104, 105, 106, 107, 108, 109, 110, 111, 112, 113, 114, 115, 116, 117, 118, 119, 120, 121, 122, 123, 124, 125, 126, 127, 128, 129, 130, 131, 132, 133, 134, 135, 136, 137, 138, 139, 140, 141, 142, 143, 144, 145, 146, 147, 148, 149, 150, 151, 152, 153, 154, 155, 156, 157, 158, 159, 160, 161, 162, 163, 164, 165, 166, 167, 168, 169, 170, 171, 172, 173, 174, 175, 176, 177, 178, 179] (by decide +kernel) (by decide +kernel)
set_option maxRecDepth 20000 in
theorem gX7_laysView_X7_views : GoodIn wsX7_laysView (wsV RX7 261 RX7 yX7_views wsX7_views) := goodIn_app (goodIn_of _ (by decide +kernel)) ggX7_laysView_X7_views
theorem dX7_laysView_0 : decode cX7_laysView 0 = .ok (.aload_n 0, 1) := by decide +kernel
theorem dX7_laysView_1 : decode cX7_laysView 1 = .ok (.aload_n 0, 1) := by decide +kernel
theorem dX7_laysView_2 : decode cX7_laysView 2 = .ok (.getfield 252, 3) := by decide +kernel
theorem dX7_laysView_5 : decode cX7_laysView 5 = .ok (.aload_n 0, 1) := by decide +kernel
theorem dX7_laysView_6 : decode cX7_laysView 6 = .ok (.getfield 255, 3) := by decide +kernel
theorem dX7_laysView_9 : decode cX7_laysView 9 = .ok (.aload_n 0, 1) := by decide +kernel
theorem dX7_laysView_10 : decode cX7_laysView 10 = .ok (.getfield 258, 3) := by decide +kernel
theorem dX7_laysView_13 : decode cX7_laysView 13 = .ok (.invokevirtual 261, 3) := by decide +kernel
theorem dX7_laysView_16 : decode cX7_laysView 16 = .ok (.return_, 1) := by decide +kernel
theorem dX7_there_0 : decode cX7_there 0 = .ok (.iconst 0, 1) := by decide +kernel
theorem dX7_there_1 : decode cX7_there 1 = .ok (.istore_n 1, 1) := by decide +kernel
theorem dX7_there_2 : decode cX7_there 2 = .ok (.iconst 0, 1) := by decide +kernel
theorem dX7_there_3 : decode cX7_there 3 = .ok (.istore_n 2, 1) := by decide +kernel
theorem dX7_there_4 : decode cX7_there 4 = .ok (.iload_n 2, 1) := by decide +kernel
theorem dX7_there_5 : decode cX7_there 5 = .ok (.aload_n 0, 1) := by decide +kernel
theorem dX7_there_6 : decode cX7_there 6 = .ok (.getfield 130, 3) := by decide +kernel
theorem dX7_there_9 : decode cX7_there 9 = .ok (.if_icmp .ge 26, 3) := by decide +kernel
theorem dX7_there_12 : decode cX7_there 12 = .ok (.iload_n 1, 1) := by decide +kernel
theorem dX7_there_13 : decode cX7_there 13 = .ok (.aload_n 0, 1) := by decide +kernel
theorem dX7_there_14 : decode cX7_there 14 = .ok (.getfield 89, 3) := by decide +kernel
theorem dX7_there_17 : decode cX7_there 17 = .ok (.iload_n 2, 1) := by decide +kernel
theorem dX7_there_18 : decode cX7_there 18 = .ok (.baload, 1) := by decide +kernel
theorem dX7_there_19 : decode cX7_there 19 = .ok (.ifCond .eq 7, 3) := by decide +kernel
theorem dX7_there_22 : decode cX7_there 22 = .ok (.iconst 1, 1) := by decide +kernel
theorem dX7_there_23 : decode cX7_there 23 = .ok (.goto 4, 3) := by decide +kernel
theorem dX7_there_26 : decode cX7_there 26 = .ok (.iconst 0, 1) := by decide +kernel
theorem dX7_there_27 : decode cX7_there 27 = .ok (.iadd, 1) := by decide +kernel
theorem dX7_there_28 : decode cX7_there 28 = .ok (.istore_n 1, 1) := by decide +kernel
theorem dX7_there_29 : decode cX7_there 29 = .ok (.iinc 2 1, 3) := by decide +kernel
theorem dX7_there_32 : decode cX7_there 32 = .ok (.goto (-28), 3) := by decide +kernel
theorem dX7_there_35 : decode cX7_there 35 = .ok (.iload_n 1, 1) := by decide +kernel
theorem dX7_there_36 : decode cX7_there 36 = .ok (.ireturn, 1) := by decide +kernel
set_option maxRecDepth 20000 in
theorem ggX7_look_X7_isDay : GoodIn wsX7_look wsX7_isDay := goodIn_r _ [8, 9, 10, 7, 11] (by decide +kernel) (by decide +kernel)
set_option maxRecDepth 20000 in
theorem gX7_look_X7_isDay : GoodIn wsX7_look (va_wsS RX7 143 yX7_isDay wsX7_isDay) := goodIn_app (goodIn_of _ (by decide +kernel)) ggX7_look_X7_isDay
set_option maxRecDepth 20000 in
theorem ggX7_look_X7_isIn : GoodIn wsX7_look wsX7_isIn := goodIn_r _ [11] (by decide +kernel) (by decide +kernel)
set_option maxRecDepth 20000 in
theorem gX7_look_X7_isIn : GoodIn wsX7_look (va_wsS RX7 126 yX7_isIn wsX7_isIn) := goodIn_app (goodIn_of _ (by decide +kernel)) ggX7_look_X7_isIn
set_option maxRecDepth 20000 in
theorem ggX7_look_X7_goes : GoodIn wsX7_look wsX7_goes := goodIn_r _ [15, 16, 148, 149, 150, 151, 152, 153, 154, 155, 156, 157, 158, 159, 160, 161, 162, 163, 164, 165, 166, 167, 168, 169, 170, 171, 172, 173, 174, 175, 176, 177, 178, 179, 180, 181, 182, 183, 184, 185, 186, 187, 188, 189, 190, 191, 192, 193, 194, 195, 196] (by decide +kernel) (by decide +kernel)
set_option maxRecDepth 20000 in
theorem gX7_look_X7_goes : GoodIn wsX7_look (wsV RX7 136 RX7 yX7_goes wsX7_goes) := goodIn_app (goodIn_of _ (by decide +kernel)) ggX7_look_X7_goes
set_option maxRecDepth 20000 in
theorem ggX7_look_X7_laysView : GoodIn wsX7_look wsX7_laysView := goodIn_r _ [20, 2, 3, 4, 21, 22, 23, 7, 24, 25, 26, 27, 28, 29, 30, 31, 32, 33, 34, 35, 36, 37, 38, 39, 40, 41, 42, 43, 44, 45, 46, 47, 48, 49, 50, 51, 52, 53, 54, 55, 56, 57, 9, 10, 11, 58, 59, 60, 61, 62, 63, 64, 65, 66, 67, 68, 69, 70, 71, 72, 73, 74, 75, 76, 77, 78, 79, 80, 81, 82, 83, 84, 85, 86, 87, 88, 89, 90, 91, 92, 93, 94, 95, 96, 97, 98, 99, 100, 101, 102, 103, 104, 105, 106, 107, 108, 109, 110, 111, 112, 113, 114, 115, 116, 117, 118, 119, 120, 121, 122, 123, 124, 125, 126, 127, 128, 129, 130, 131, 132, 133, 134, 135, 136, 137, 138, 139, 140, 141, 142, 143, 148, 149, 150, 151, 152, 153, 154, 155, 156, 157, 158, 159, 160, 161, 162, 163, 164, 165, 166, 167, 168, 169, 170, 171, 172, 173, 174, 175, 176, 177, 178, 179, 180, 181, 182, 183, 184, 185, 186, 187, 188, 189, 190, 191, 192, 193, 194, 195, 196] (by decide +kernel) (by decide +kernel)
set_option maxRecDepth 20000 in
theorem gX7_look_X7_laysView : GoodIn wsX7_look (wsV RX7 264 RX7 yX7_laysView wsX7_laysView) := goodIn_app (goodIn_of _ (by decide +kernel)) ggX7_look_X7_laysView
set_option maxRecDepth 20000 in
theorem ggX7_look_X7_there : GoodIn wsX7_look wsX7_there := goodIn_r _ [147, 81, 25, 148, 149, 150, 151, 152, 153, 154, 155, 156, 157, 158, 159, 160, 161, 162, 163, 164, 165, 166, 167, 168, 169, 170, 171, 172, 173, 174, 175, 176, 177, 178, 179, 180, 181, 182, 183, 184, 185, 186, 187, 188, 189, 190, 191, 192, 193, 194, 195, 196] (by decide +kernel) (by decide +kernel)
set_option maxRecDepth 20000 in
theorem gX7_look_X7_there : GoodIn wsX7_look (wsV RX7 267 RX7 yX7_there wsX7_there) := goodIn_app (goodIn_of _ (by decide +kernel)) ggX7_look_X7_there
theorem dX7_look_0 : decode cX7_look 0 = .ok (.aload_n 0, 1) := by decide +kernel
theorem dX7_look_1 : decode cX7_look 1 = .ok (.iload_n 1, 1) := by decide +kernel
theorem dX7_look_2 : decode cX7_look 2 = .ok (.invokestatic 143, 3) := by decide +kernel
theorem dX7_look_5 : decode cX7_look 5 = .ok (.ifCond .eq 28, 3) := by decide +kernel
theorem dX7_look_8 : decode cX7_look 8 = .ok (.iload_n 2, 1) := by decide +kernel
theorem dX7_look_9 : decode cX7_look 9 = .ok (.iconst 0, 1) := by decide +kernel
theorem dX7_look_10 : decode cX7_look 10 = .ok (.aload_n 0, 1) := by decide +kernel
theorem dX7_look_11 : decode cX7_look 11 = .ok (.getfield 133, 3) := by decide +kernel
theorem dX7_look_14 : decode cX7_look 14 = .ok (.invokestatic 126, 3) := by decide +kernel
theorem dX7_look_17 : decode cX7_look 17 = .ok (.ifCond .eq 16, 3) := by decide +kernel
theorem dX7_look_20 : decode cX7_look 20 = .ok (.iload_n 3, 1) := by decide +kernel
theorem dX7_look_21 : decode cX7_look 21 = .ok (.iconst 0, 1) := by decide +kernel
theorem dX7_look_22 : decode cX7_look 22 = .ok (.iconst 2, 1) := by decide +kernel
theorem dX7_look_23 : decode cX7_look 23 = .ok (.invokestatic 126, 3) := by decide +kernel
theorem dX7_look_26 : decode cX7_look 26 = .ok (.ifCond .eq 7, 3) := by decide +kernel
theorem dX7_look_29 : decode cX7_look 29 = .ok (.iconst 0, 1) := by decide +kernel
theorem dX7_look_30 : decode cX7_look 30 = .ok (.goto 4, 3) := by decide +kernel
theorem dX7_look_33 : decode cX7_look 33 = .ok (.iconst 1, 1) := by decide +kernel
theorem dX7_look_34 : decode cX7_look 34 = .ok (.invokevirtual 136, 3) := by decide +kernel
theorem dX7_look_37 : decode cX7_look 37 = .ok (.ifCond .ne 5, 3) := by decide +kernel
theorem dX7_look_40 : decode cX7_look 40 = .ok (.iconst 0, 1) := by decide +kernel
theorem dX7_look_41 : decode cX7_look 41 = .ok (.ireturn, 1) := by decide +kernel
theorem dX7_look_42 : decode cX7_look 42 = .ok (.aload_n 0, 1) := by decide +kernel
theorem dX7_look_43 : decode cX7_look 43 = .ok (.iload_n 1, 1) := by decide +kernel
theorem dX7_look_44 : decode cX7_look 44 = .ok (.putfield 252, 3) := by decide +kernel
theorem dX7_look_47 : decode cX7_look 47 = .ok (.aload_n 0, 1) := by decide +kernel
theorem dX7_look_48 : decode cX7_look 48 = .ok (.iload_n 2, 1) := by decide +kernel
theorem dX7_look_49 : decode cX7_look 49 = .ok (.putfield 255, 3) := by decide +kernel
theorem dX7_look_52 : decode cX7_look 52 = .ok (.aload_n 0, 1) := by decide +kernel
theorem dX7_look_53 : decode cX7_look 53 = .ok (.iload_n 3, 1) := by decide +kernel
theorem dX7_look_54 : decode cX7_look 54 = .ok (.putfield 258, 3) := by decide +kernel
theorem dX7_look_57 : decode cX7_look 57 = .ok (.aload_n 0, 1) := by decide +kernel
theorem dX7_look_58 : decode cX7_look 58 = .ok (.invokevirtual 264, 3) := by decide +kernel
theorem dX7_look_61 : decode cX7_look 61 = .ok (.aload_n 0, 1) := by decide +kernel
theorem dX7_look_62 : decode cX7_look 62 = .ok (.invokevirtual 267, 3) := by decide +kernel
theorem dX7_look_65 : decode cX7_look 65 = .ok (.ireturn, 1) := by decide +kernel
theorem dX7_key_0 : decode cX7_key 0 = .ok (.iload_n 0, 1) := by decide +kernel
theorem dX7_key_1 : decode cX7_key 1 = .ok (.sipush 1000, 3) := by decide +kernel
theorem dX7_key_4 : decode cX7_key 4 = .ok (.irem, 1) := by decide +kernel
theorem dX7_key_5 : decode cX7_key 5 = .ok (.istore_n 1, 1) := by decide +kernel
theorem dX7_key_6 : decode cX7_key 6 = .ok (.sipush 1000, 3) := by decide +kernel
theorem dX7_key_9 : decode cX7_key 9 = .ok (.iload_n 0, 1) := by decide +kernel
theorem dX7_key_10 : decode cX7_key 10 = .ok (.sipush 1000, 3) := by decide +kernel
theorem dX7_key_13 : decode cX7_key 13 = .ok (.idiv, 1) := by decide +kernel
theorem dX7_key_14 : decode cX7_key 14 = .ok (.imul, 1) := by decide +kernel
theorem dX7_key_15 : decode cX7_key 15 = .ok (.iload_n 1, 1) := by decide +kernel
theorem dX7_key_16 : decode cX7_key 16 = .ok (.bipush 27, 2) := by decide +kernel
theorem dX7_key_18 : decode cX7_key 18 = .ok (.if_icmp .ge 10, 3) := by decide +kernel
theorem dX7_key_21 : decode cX7_key 21 = .ok (.bipush 27, 2) := by decide +kernel
theorem dX7_key_23 : decode cX7_key 23 = .ok (.iload_n 1, 1) := by decide +kernel
theorem dX7_key_24 : decode cX7_key 24 = .ok (.imul, 1) := by decide +kernel
theorem dX7_key_25 : decode cX7_key 25 = .ok (.goto 4, 3) := by decide +kernel
theorem dX7_key_28 : decode cX7_key 28 = .ok (.iload_n 1, 1) := by decide +kernel
theorem dX7_key_29 : decode cX7_key 29 = .ok (.iadd, 1) := by decide +kernel
theorem dX7_key_30 : decode cX7_key 30 = .ok (.ireturn, 1) := by decide +kernel
set_option maxRecDepth 20000 in
theorem ggX7_nextChild_X7_key : GoodIn wsX7_nextChild wsX7_key := goodIn_r _ [8] (by decide +kernel) (by decide +kernel)
set_option maxRecDepth 20000 in
theorem gX7_nextChild_X7_key : GoodIn wsX7_nextChild (va_wsS RX7 271 yX7_key wsX7_key) := goodIn_app (goodIn_of _ (by decide +kernel)) ggX7_nextChild_X7_key
theorem dX7_nextChild_0 : decode cX7_nextChild 0 = .ok (.iconst (-1), 1) := by decide +kernel
theorem dX7_nextChild_1 : decode cX7_nextChild 1 = .ok (.istore_n 3, 1) := by decide +kernel
theorem dX7_nextChild_2 : decode cX7_nextChild 2 = .ok (.iconst 0, 1) := by decide +kernel
theorem dX7_nextChild_3 : decode cX7_nextChild 3 = .ok (.istore 4, 2) := by decide +kernel
theorem dX7_nextChild_5 : decode cX7_nextChild 5 = .ok (.iload 4, 2) := by decide +kernel
theorem dX7_nextChild_7 : decode cX7_nextChild 7 = .ok (.aload_n 0, 1) := by decide +kernel
theorem dX7_nextChild_8 : decode cX7_nextChild 8 = .ok (.getfield 130, 3) := by decide +kernel
theorem dX7_nextChild_11 : decode cX7_nextChild 11 = .ok (.if_icmp .ge 90, 3) := by decide +kernel
theorem dX7_nextChild_14 : decode cX7_nextChild 14 = .ok (.aload_n 0, 1) := by decide +kernel
theorem dX7_nextChild_15 : decode cX7_nextChild 15 = .ok (.getfield 89, 3) := by decide +kernel
theorem dX7_nextChild_18 : decode cX7_nextChild 18 = .ok (.iload 4, 2) := by decide +kernel
theorem dX7_nextChild_20 : decode cX7_nextChild 20 = .ok (.baload, 1) := by decide +kernel
theorem dX7_nextChild_21 : decode cX7_nextChild 21 = .ok (.ifCond .eq 32, 3) := by decide +kernel
theorem dX7_nextChild_24 : decode cX7_nextChild 24 = .ok (.aload_n 0, 1) := by decide +kernel
theorem dX7_nextChild_25 : decode cX7_nextChild 25 = .ok (.getfield 96, 3) := by decide +kernel
theorem dX7_nextChild_28 : decode cX7_nextChild 28 = .ok (.iload 4, 2) := by decide +kernel
theorem dX7_nextChild_30 : decode cX7_nextChild 30 = .ok (.iaload, 1) := by decide +kernel
theorem dX7_nextChild_31 : decode cX7_nextChild 31 = .ok (.iload_n 1, 1) := by decide +kernel
theorem dX7_nextChild_32 : decode cX7_nextChild 32 = .ok (.if_icmp .ne 21, 3) := by decide +kernel
theorem dX7_nextChild_35 : decode cX7_nextChild 35 = .ok (.aload_n 0, 1) := by decide +kernel
theorem dX7_nextChild_36 : decode cX7_nextChild 36 = .ok (.getfield 93, 3) := by decide +kernel
theorem dX7_nextChild_39 : decode cX7_nextChild 39 = .ok (.iload 4, 2) := by decide +kernel
theorem dX7_nextChild_41 : decode cX7_nextChild 41 = .ok (.iaload, 1) := by decide +kernel
theorem dX7_nextChild_42 : decode cX7_nextChild 42 = .ok (.invokestatic 271, 3) := by decide +kernel
theorem dX7_nextChild_45 : decode cX7_nextChild 45 = .ok (.iload_n 2, 1) := by decide +kernel
theorem dX7_nextChild_46 : decode cX7_nextChild 46 = .ok (.if_icmp .le 7, 3) := by decide +kernel
theorem dX7_nextChild_49 : decode cX7_nextChild 49 = .ok (.iconst 1, 1) := by decide +kernel
theorem dX7_nextChild_50 : decode cX7_nextChild 50 = .ok (.goto 4, 3) := by decide +kernel
theorem dX7_nextChild_53 : decode cX7_nextChild 53 = .ok (.iconst 0, 1) := by decide +kernel
theorem dX7_nextChild_54 : decode cX7_nextChild 54 = .ok (.istore 5, 2) := by decide +kernel
theorem dX7_nextChild_56 : decode cX7_nextChild 56 = .ok (.iload 5, 2) := by decide +kernel
theorem dX7_nextChild_58 : decode cX7_nextChild 58 = .ok (.ifCond .eq 35, 3) := by decide +kernel
theorem dX7_nextChild_61 : decode cX7_nextChild 61 = .ok (.iload_n 3, 1) := by decide +kernel
theorem dX7_nextChild_62 : decode cX7_nextChild 62 = .ok (.iconst (-1), 1) := by decide +kernel
theorem dX7_nextChild_63 : decode cX7_nextChild 63 = .ok (.if_icmp .eq 25, 3) := by decide +kernel
theorem dX7_nextChild_66 : decode cX7_nextChild 66 = .ok (.aload_n 0, 1) := by decide +kernel
theorem dX7_nextChild_67 : decode cX7_nextChild 67 = .ok (.getfield 93, 3) := by decide +kernel
theorem dX7_nextChild_70 : decode cX7_nextChild 70 = .ok (.iload 4, 2) := by decide +kernel
theorem dX7_nextChild_72 : decode cX7_nextChild 72 = .ok (.iaload, 1) := by decide +kernel
theorem dX7_nextChild_73 : decode cX7_nextChild 73 = .ok (.invokestatic 271, 3) := by decide +kernel
theorem dX7_nextChild_76 : decode cX7_nextChild 76 = .ok (.aload_n 0, 1) := by decide +kernel
theorem dX7_nextChild_77 : decode cX7_nextChild 77 = .ok (.getfield 93, 3) := by decide +kernel
theorem dX7_nextChild_80 : decode cX7_nextChild 80 = .ok (.iload_n 3, 1) := by decide +kernel
theorem dX7_nextChild_81 : decode cX7_nextChild 81 = .ok (.iaload, 1) := by decide +kernel
theorem dX7_nextChild_82 : decode cX7_nextChild 82 = .ok (.invokestatic 271, 3) := by decide +kernel
theorem dX7_nextChild_85 : decode cX7_nextChild 85 = .ok (.if_icmp .ge 8, 3) := by decide +kernel
theorem dX7_nextChild_88 : decode cX7_nextChild 88 = .ok (.iload 4, 2) := by decide +kernel
theorem dX7_nextChild_90 : decode cX7_nextChild 90 = .ok (.goto 4, 3) := by decide +kernel
theorem dX7_nextChild_93 : decode cX7_nextChild 93 = .ok (.iload_n 3, 1) := by decide +kernel
theorem dX7_nextChild_94 : decode cX7_nextChild 94 = .ok (.istore_n 3, 1) := by decide +kernel
theorem dX7_nextChild_95 : decode cX7_nextChild 95 = .ok (.iinc 4 1, 3) := by decide +kernel
theorem dX7_nextChild_98 : decode cX7_nextChild 98 = .ok (.goto (-93), 3) := by decide +kernel
theorem dX7_nextChild_101 : decode cX7_nextChild 101 = .ok (.iload_n 3, 1) := by decide +kernel
theorem dX7_nextChild_102 : decode cX7_nextChild 102 = .ok (.ireturn, 1) := by decide +kernel
set_option maxRecDepth 20000 in
theorem ggX7_behind_X7_nextChild : GoodIn wsX7_behind wsX7_nextChild := goodIn_r _ [7, 8, 9, 1, 2, 10, 11, 6, 12, 13, 14, 15, 16, 17, 18, 19, 20, 21, 22, 23, 24, 25, 26, 27, 28, 29, 30, 31, 32, 33, 34, 35, 36, 37, 38, 39, 40, 41, 42, 43, 44, 45, 46, 47, 48, 49, 50, 51, 52, 53, 54, 55, 56, 57, 58, 59, 60, 61] (by decide +kernel) (by decide +kernel)
set_option maxRecDepth 20000 in
theorem gX7_behind_X7_nextChild : GoodIn wsX7_behind (wsV RX7 275 RX7 yX7_nextChild wsX7_nextChild) := goodIn_app (goodIn_of _ (by decide +kernel)) ggX7_behind_X7_nextChild
set_option maxRecDepth 20000 in
theorem ggX7_behind_X7_key : GoodIn wsX7_behind wsX7_key := goodIn_r _ [12] (by decide +kernel) (by decide +kernel)
set_option maxRecDepth 20000 in
theorem gX7_behind_X7_key : GoodIn wsX7_behind (va_wsS RX7 271 yX7_key wsX7_key) := goodIn_app (goodIn_of _ (by decide +kernel)) ggX7_behind_X7_key
theorem dX7_behind_0 : decode cX7_behind 0 = .ok (.aload_n 0, 1) := by decide +kernel
theorem dX7_behind_1 : decode cX7_behind 1 = .ok (.iload_n 1, 1) := by decide +kernel
theorem dX7_behind_2 : decode cX7_behind 2 = .ok (.iconst (-1), 1) := by decide +kernel
theorem dX7_behind_3 : decode cX7_behind 3 = .ok (.invokevirtual 275, 3) := by decide +kernel
theorem dX7_behind_6 : decode cX7_behind 6 = .ok (.istore_n 2, 1) := by decide +kernel
theorem dX7_behind_7 : decode cX7_behind 7 = .ok (.iload_n 1, 1) := by decide +kernel
theorem dX7_behind_8 : decode cX7_behind 8 = .ok (.istore_n 3, 1) := by decide +kernel
theorem dX7_behind_9 : decode cX7_behind 9 = .ok (.iload_n 2, 1) := by decide +kernel
theorem dX7_behind_10 : decode cX7_behind 10 = .ok (.iconst (-1), 1) := by decide +kernel
theorem dX7_behind_11 : decode cX7_behind 11 = .ok (.if_icmp .ne 38, 3) := by decide +kernel
theorem dX7_behind_14 : decode cX7_behind 14 = .ok (.iload_n 3, 1) := by decide +kernel
theorem dX7_behind_15 : decode cX7_behind 15 = .ok (.iconst (-1), 1) := by decide +kernel
theorem dX7_behind_16 : decode cX7_behind 16 = .ok (.if_icmp .eq 33, 3) := by decide +kernel
theorem dX7_behind_19 : decode cX7_behind 19 = .ok (.aload_n 0, 1) := by decide +kernel
theorem dX7_behind_20 : decode cX7_behind 20 = .ok (.aload_n 0, 1) := by decide +kernel
theorem dX7_behind_21 : decode cX7_behind 21 = .ok (.getfield 96, 3) := by decide +kernel
theorem dX7_behind_24 : decode cX7_behind 24 = .ok (.iload_n 3, 1) := by decide +kernel
theorem dX7_behind_25 : decode cX7_behind 25 = .ok (.iaload, 1) := by decide +kernel
theorem dX7_behind_26 : decode cX7_behind 26 = .ok (.aload_n 0, 1) := by decide +kernel
theorem dX7_behind_27 : decode cX7_behind 27 = .ok (.getfield 93, 3) := by decide +kernel
theorem dX7_behind_30 : decode cX7_behind 30 = .ok (.iload_n 3, 1) := by decide +kernel
theorem dX7_behind_31 : decode cX7_behind 31 = .ok (.iaload, 1) := by decide +kernel
theorem dX7_behind_32 : decode cX7_behind 32 = .ok (.invokestatic 271, 3) := by decide +kernel
theorem dX7_behind_35 : decode cX7_behind 35 = .ok (.invokevirtual 275, 3) := by decide +kernel
theorem dX7_behind_38 : decode cX7_behind 38 = .ok (.istore_n 2, 1) := by decide +kernel
theorem dX7_behind_39 : decode cX7_behind 39 = .ok (.aload_n 0, 1) := by decide +kernel
theorem dX7_behind_40 : decode cX7_behind 40 = .ok (.getfield 96, 3) := by decide +kernel
theorem dX7_behind_43 : decode cX7_behind 43 = .ok (.iload_n 3, 1) := by decide +kernel
theorem dX7_behind_44 : decode cX7_behind 44 = .ok (.iaload, 1) := by decide +kernel
theorem dX7_behind_45 : decode cX7_behind 45 = .ok (.istore_n 3, 1) := by decide +kernel
theorem dX7_behind_46 : decode cX7_behind 46 = .ok (.goto (-37), 3) := by decide +kernel
theorem dX7_behind_49 : decode cX7_behind 49 = .ok (.iload_n 2, 1) := by decide +kernel
theorem dX7_behind_50 : decode cX7_behind 50 = .ok (.ireturn, 1) := by decide +kernel
set_option maxRecDepth 20000 in
theorem ggX7_provisionAt_X7_goes : GoodIn wsX7_provisionAt wsX7_goes := goodIn_r _ [5, 6, 151, 152, 153, 154, 155, 156, 157, 158, 159, 160, 161, 162, 163, 164, 165, 166, 167, 168, 169, 170, 171, 172, 173, 174, 175, 176, 177, 178, 179, 180, 181, 182, 183, 184, 185, 186, 187, 188, 189, 190, 191, 192, 193, 194, 195, 196, 197, 198, 199] (by decide +kernel) (by decide +kernel)
set_option maxRecDepth 20000 in
theorem gX7_provisionAt_X7_goes : GoodIn wsX7_provisionAt (wsV RX7 136 RX7 yX7_goes wsX7_goes) := goodIn_app (goodIn_of _ (by decide +kernel)) ggX7_provisionAt_X7_goes
set_option maxRecDepth 20000 in
theorem ggX7_provisionAt_X7_laysView : GoodIn wsX7_provisionAt wsX7_laysView := goodIn_r _ [10, 11, 12, 13, 14, 15, 16, 4, 17, 18, 19, 20, 21, 22, 23, 24, 25, 26, 27, 28, 29, 30, 31, 32, 33, 34, 35, 36, 37, 38, 39, 40, 41, 42, 43, 44, 45, 46, 47, 48, 49, 50, 51, 52, 53, 54, 55, 56, 57, 58, 59, 60, 61, 62, 63, 64, 65, 66, 67, 68, 69, 70, 71, 72, 73, 74, 75, 76, 77, 78, 79, 80, 81, 82, 83, 84, 85, 86, 87, 88, 89, 90, 91, 92, 93, 94, 95, 96, 97, 98, 99, 100, 101, 102, 103, 104, 105, 106, 107, 108, 109, 110, 111, 112, 113, 114, 115, 116, 117, 118, 119, 120, 121, 122, 123, 124, 125, 126, 127, 128, 129, 130, 131, 132, 133, 134, 135, 136, 137, 138, 139, 151, 152, 153, 154, 155, 156, 157, 158, 159, 160, 161, 162, 163, 164, 165, 166, 167, 168, 169, 170, 171, 172, 173, 174, 175, 176, 177, 178, 179, 180, 181, 182, 183, 184, 185, 186, 187, 188, 189, 190, 191, 192, 193, 194, 195, 196, 197, 198, 199] (by decide +kernel) (by decide +kernel)
set_option maxRecDepth 20000 in
theorem gX7_provisionAt_X7_laysView : GoodIn wsX7_provisionAt (wsV RX7 264 RX7 yX7_laysView wsX7_laysView) := goodIn_app (goodIn_of _ (by decide +kernel)) ggX7_provisionAt_X7_laysView
set_option maxRecDepth 20000 in
theorem ggX7_provisionAt_X7_behind : GoodIn wsX7_provisionAt wsX7_behind := goodIn_r _ [143, 67, 68, 144, 145, 146, 4, 147, 77, 18, 148, 149, 150, 151, 152, 153, 154, 155, 156, 157, 158, 159, 160, 161, 162, 163, 164, 165, 166, 167, 168, 169, 170, 171, 172, 173, 174, 175, 176, 177, 178, 179, 180, 181, 182, 183, 184, 185, 186, 187, 188, 189, 190, 191, 192, 193, 194, 195, 196, 197, 198, 199] (by decide +kernel) (by decide +kernel)
set_option maxRecDepth 20000 in
theorem gX7_provisionAt_X7_behind : GoodIn wsX7_provisionAt (wsV RX7 278 RX7 yX7_behind wsX7_behind) := goodIn_app (goodIn_of _ (by decide +kernel)) ggX7_provisionAt_X7_behind
theorem dX7_provisionAt_0 : decode cX7_provisionAt 0 = .ok (.aload_n 0, 1) := by decide +kernel
theorem dX7_provisionAt_1 : decode cX7_provisionAt 1 = .ok (.iload_n 1, 1) := by decide +kernel
theorem dX7_provisionAt_2 : decode cX7_provisionAt 2 = .ok (.ifCond .ge 7, 3) := by decide +kernel
theorem dX7_provisionAt_5 : decode cX7_provisionAt 5 = .ok (.iconst 1, 1) := by decide +kernel
theorem dX7_provisionAt_6 : decode cX7_provisionAt 6 = .ok (.goto 4, 3) := by decide +kernel
theorem dX7_provisionAt_9 : decode cX7_provisionAt 9 = .ok (.iconst 0, 1) := by decide +kernel
theorem dX7_provisionAt_10 : decode cX7_provisionAt 10 = .ok (.invokevirtual 136, 3) := by decide +kernel
theorem dX7_provisionAt_13 : decode cX7_provisionAt 13 = .ok (.ifCond .ne 5, 3) := by decide +kernel
theorem dX7_provisionAt_16 : decode cX7_provisionAt 16 = .ok (.iconst 0, 1) := by decide +kernel
theorem dX7_provisionAt_17 : decode cX7_provisionAt 17 = .ok (.ireturn, 1) := by decide +kernel
theorem dX7_provisionAt_18 : decode cX7_provisionAt 18 = .ok (.aload_n 0, 1) := by decide +kernel
theorem dX7_provisionAt_19 : decode cX7_provisionAt 19 = .ok (.invokevirtual 264, 3) := by decide +kernel
theorem dX7_provisionAt_22 : decode cX7_provisionAt 22 = .ok (.aload_n 0, 1) := by decide +kernel
theorem dX7_provisionAt_23 : decode cX7_provisionAt 23 = .ok (.iconst (-1), 1) := by decide +kernel
theorem dX7_provisionAt_24 : decode cX7_provisionAt 24 = .ok (.invokevirtual 278, 3) := by decide +kernel
theorem dX7_provisionAt_27 : decode cX7_provisionAt 27 = .ok (.istore_n 2, 1) := by decide +kernel
theorem dX7_provisionAt_28 : decode cX7_provisionAt 28 = .ok (.iconst 0, 1) := by decide +kernel
theorem dX7_provisionAt_29 : decode cX7_provisionAt 29 = .ok (.istore_n 3, 1) := by decide +kernel
theorem dX7_provisionAt_30 : decode cX7_provisionAt 30 = .ok (.iload_n 3, 1) := by decide +kernel
theorem dX7_provisionAt_31 : decode cX7_provisionAt 31 = .ok (.iload_n 1, 1) := by decide +kernel
theorem dX7_provisionAt_32 : decode cX7_provisionAt 32 = .ok (.if_icmp .ge 20, 3) := by decide +kernel
theorem dX7_provisionAt_35 : decode cX7_provisionAt 35 = .ok (.iload_n 2, 1) := by decide +kernel
theorem dX7_provisionAt_36 : decode cX7_provisionAt 36 = .ok (.iconst (-1), 1) := by decide +kernel
theorem dX7_provisionAt_37 : decode cX7_provisionAt 37 = .ok (.if_icmp .eq 15, 3) := by decide +kernel
theorem dX7_provisionAt_40 : decode cX7_provisionAt 40 = .ok (.aload_n 0, 1) := by decide +kernel
theorem dX7_provisionAt_41 : decode cX7_provisionAt 41 = .ok (.iload_n 2, 1) := by decide +kernel
theorem dX7_provisionAt_42 : decode cX7_provisionAt 42 = .ok (.invokevirtual 278, 3) := by decide +kernel
theorem dX7_provisionAt_45 : decode cX7_provisionAt 45 = .ok (.istore_n 2, 1) := by decide +kernel
theorem dX7_provisionAt_46 : decode cX7_provisionAt 46 = .ok (.iinc 3 1, 3) := by decide +kernel
theorem dX7_provisionAt_49 : decode cX7_provisionAt 49 = .ok (.goto (-19), 3) := by decide +kernel
theorem dX7_provisionAt_52 : decode cX7_provisionAt 52 = .ok (.iload_n 2, 1) := by decide +kernel
theorem dX7_provisionAt_53 : decode cX7_provisionAt 53 = .ok (.ireturn, 1) := by decide +kernel
set_option maxRecDepth 20000 in
theorem ggX7_asks_X7_laysView : GoodIn wsX7_asks wsX7_laysView := goodIn_r _ [5, 6, 7, 8, 9, 10, 11, 4, 12, 13, 14, 15, 16, 17, 18, 19, 20, 21, 22, 23, 24, 25, 26, 27, 28, 29, 30, 31, 32, 33, 34, 35, 36, 37, 38, 39, 40, 41, 42, 43, 44, 45, 46, 47, 48, 49, 50, 51, 52, 53, 54, 55, 56, 57, 58, 59, 60, 61, 62, 63, 64, 65, 66, 67, 68, 69, 70, 71, 72, 73, 74, 75, 76, 77, 78, 79, 80, 81, 82, 83, 84, 85, 86, 87, 88, 89, 90, 91, 92, 93, 94, 95, 96, 97, 98, 99, 100, 101, 102, 103, 104, 105, 106, 107, 108, 109, 110, 111, 112, 113, 114, 115, 116, 117, 118, 119, 120, 121, 122, 123, 124, 125, 126, 127, 128, 129, 130, 131, 132, 133, 134, 144, 145, 146, 147, 148, 149, 150, 151, 152, 153, 154, 155, 156, 157, 158, 159, 160, 161, 162, 163, 164, 165, 166, 167, 168, 169, 170, 171, 172, 173, 174, 175, 176, 177, 178, 179, 180, 181, 182, 183, 184, 185, 186, 187, 188, 189, 190, 191, 192] (by decide +kernel) (by decide +kernel)
set_option maxRecDepth 20000 in
theorem gX7_asks_X7_laysView : GoodIn wsX7_asks (wsV RX7 264 RX7 yX7_laysView wsX7_laysView) := goodIn_app (goodIn_of _ (by decide +kernel)) ggX7_asks_X7_laysView
set_option maxRecDepth 20000 in
theorem ggX7_asks_X7_isProvision : GoodIn wsX7_asks wsX7_isProvision := goodIn_r _ [138, 72, 46, 47, 4, 48, 144, 145, 146, 147, 148, 149, 150, 151, 152, 153, 154, 155, 156, 157, 158, 159, 160, 161, 162, 163, 164, 165, 166, 167, 168, 169, 170, 171, 172, 173, 174, 175, 176, 177, 178, 179, 180, 181, 182, 183, 184, 185, 186, 187, 188, 189, 190, 191, 192] (by decide +kernel) (by decide +kernel)
set_option maxRecDepth 20000 in
theorem gX7_asks_X7_isProvision : GoodIn wsX7_asks (wsV RX7 161 RX7 yX7_isProvision wsX7_isProvision) := goodIn_app (goodIn_of _ (by decide +kernel)) ggX7_asks_X7_isProvision
set_option maxRecDepth 20000 in
theorem ggX7_asks_X7_goes : GoodIn wsX7_asks wsX7_goes := goodIn_r _ [142, 143, 144, 145, 146, 147, 148, 149, 150, 151, 152, 153, 154, 155, 156, 157, 158, 159, 160, 161, 162, 163, 164, 165, 166, 167, 168, 169, 170, 171, 172, 173, 174, 175, 176, 177, 178, 179, 180, 181, 182, 183, 184, 185, 186, 187, 188, 189, 190, 191, 192] (by decide +kernel) (by decide +kernel)
set_option maxRecDepth 20000 in
theorem gX7_asks_X7_goes : GoodIn wsX7_asks (wsV RX7 136 RX7 yX7_goes wsX7_goes) := goodIn_app (goodIn_of _ (by decide +kernel)) ggX7_asks_X7_goes
theorem dX7_asks_0 : decode cX7_asks 0 = .ok (.aload_n 0, 1) := by decide +kernel
theorem dX7_asks_1 : decode cX7_asks 1 = .ok (.invokevirtual 264, 3) := by decide +kernel
theorem dX7_asks_4 : decode cX7_asks 4 = .ok (.aload_n 0, 1) := by decide +kernel
theorem dX7_asks_5 : decode cX7_asks 5 = .ok (.aload_n 0, 1) := by decide +kernel
theorem dX7_asks_6 : decode cX7_asks 6 = .ok (.iload_n 1, 1) := by decide +kernel
theorem dX7_asks_7 : decode cX7_asks 7 = .ok (.invokevirtual 161, 3) := by decide +kernel
theorem dX7_asks_10 : decode cX7_asks 10 = .ok (.ifCond .eq 7, 3) := by decide +kernel
theorem dX7_asks_13 : decode cX7_asks 13 = .ok (.iconst 0, 1) := by decide +kernel
theorem dX7_asks_14 : decode cX7_asks 14 = .ok (.goto 4, 3) := by decide +kernel
theorem dX7_asks_17 : decode cX7_asks 17 = .ok (.iconst 1, 1) := by decide +kernel
theorem dX7_asks_18 : decode cX7_asks 18 = .ok (.invokevirtual 136, 3) := by decide +kernel
theorem dX7_asks_21 : decode cX7_asks 21 = .ok (.ireturn, 1) := by decide +kernel
set_option maxRecDepth 20000 in
theorem ggX7_label_X7_asks : GoodIn wsX7_label wsX7_asks := goodIn_r _ [7, 8, 9, 10, 6, 11, 12, 13, 14, 15, 16, 17, 18, 1, 19, 20, 21, 22, 23, 24, 25, 26, 27, 28, 29, 30, 31, 32, 33, 34, 35, 36, 37, 38, 39, 40, 41, 42, 43, 44, 45, 46, 47, 48, 49, 50, 51, 52, 53, 54, 55, 56, 57, 58, 59, 60, 61, 62, 63, 64, 65, 66, 67, 2, 68, 69, 70, 71, 72, 73, 74, 75, 76, 77, 78, 79, 80, 81, 82, 83, 84, 85, 86, 87, 88, 89, 90, 91, 92, 93, 94, 95, 96, 97, 98, 99, 100, 101, 102, 103, 104, 105, 106, 107, 108, 109, 110, 111, 112, 113, 114, 115, 116, 117, 118, 119, 120, 121, 122, 123, 124, 125, 126, 127, 128, 129, 130, 131, 132, 133, 134, 135, 136, 137, 138, 139, 140, 141, 142, 143, 144, 145, 146, 147, 148, 149, 150, 151, 152, 153, 154, 155, 156, 157, 158, 159, 160, 161, 162, 163, 164, 165, 166, 167, 168, 169, 170, 171, 172, 173, 174, 175, 176, 177, 178, 179, 180, 181, 182, 183, 184, 185, 186, 187, 188, 189, 190, 191, 192, 193, 194, 195, 196] (by decide +kernel) (by decide +kernel)
set_option maxRecDepth 20000 in
theorem gX7_label_X7_asks : GoodIn wsX7_label (wsV RX7 281 RX7 yX7_asks wsX7_asks) := goodIn_app (goodIn_of _ (by decide +kernel)) ggX7_label_X7_asks
theorem dX7_label_0 : decode cX7_label 0 = .ok (.aload_n 0, 1) := by decide +kernel
theorem dX7_label_1 : decode cX7_label 1 = .ok (.iload_n 1, 1) := by decide +kernel
theorem dX7_label_2 : decode cX7_label 2 = .ok (.invokevirtual 281, 3) := by decide +kernel
theorem dX7_label_5 : decode cX7_label 5 = .ok (.ifCond .ne 7, 3) := by decide +kernel
theorem dX7_label_8 : decode cX7_label 8 = .ok (.iconst 0, 1) := by decide +kernel
theorem dX7_label_9 : decode cX7_label 9 = .ok (.goto 22, 3) := by decide +kernel
theorem dX7_label_12 : decode cX7_label 12 = .ok (.aload_n 0, 1) := by decide +kernel
theorem dX7_label_13 : decode cX7_label 13 = .ok (.getfield 89, 3) := by decide +kernel
theorem dX7_label_16 : decode cX7_label 16 = .ok (.iload_n 1, 1) := by decide +kernel
theorem dX7_label_17 : decode cX7_label 17 = .ok (.baload, 1) := by decide +kernel
theorem dX7_label_18 : decode cX7_label 18 = .ok (.ifCond .eq 12, 3) := by decide +kernel
theorem dX7_label_21 : decode cX7_label 21 = .ok (.aload_n 0, 1) := by decide +kernel
theorem dX7_label_22 : decode cX7_label 22 = .ok (.getfield 93, 3) := by decide +kernel
theorem dX7_label_25 : decode cX7_label 25 = .ok (.iload_n 1, 1) := by decide +kernel
theorem dX7_label_26 : decode cX7_label 26 = .ok (.iaload, 1) := by decide +kernel
theorem dX7_label_27 : decode cX7_label 27 = .ok (.goto 4, 3) := by decide +kernel
theorem dX7_label_30 : decode cX7_label 30 = .ok (.iconst (-1), 1) := by decide +kernel
theorem dX7_label_31 : decode cX7_label 31 = .ok (.ireturn, 1) := by decide +kernel
set_option maxRecDepth 20000 in
theorem ggX7_parent_X7_asks : GoodIn wsX7_parent wsX7_asks := goodIn_r _ [7, 8, 9, 10, 6, 11, 12, 13, 14, 15, 16, 17, 18, 1, 19, 20, 21, 22, 23, 24, 25, 26, 27, 28, 29, 30, 31, 32, 33, 34, 35, 36, 37, 38, 39, 40, 41, 42, 43, 44, 45, 46, 47, 48, 49, 50, 51, 52, 53, 54, 55, 56, 57, 58, 59, 60, 61, 62, 63, 64, 65, 66, 2, 67, 68, 69, 70, 71, 72, 73, 74, 75, 76, 77, 78, 79, 80, 81, 82, 83, 84, 85, 86, 87, 88, 89, 90, 91, 92, 93, 94, 95, 96, 97, 98, 99, 100, 101, 102, 103, 104, 105, 106, 107, 108, 109, 110, 111, 112, 113, 114, 115, 116, 117, 118, 119, 120, 121, 122, 123, 124, 125, 126, 127, 128, 129, 130, 131, 132, 133, 134, 135, 136, 137, 138, 139, 140, 141, 142, 143, 144, 145, 146, 147, 148, 149, 150, 151, 152, 153, 154, 155, 156, 157, 158, 159, 160, 161, 162, 163, 164, 165, 166, 167, 168, 169, 170, 171, 172, 173, 174, 175, 176, 177, 178, 179, 180, 181, 182, 183, 184, 185, 186, 187, 188, 189, 190, 191, 192, 193, 194, 195, 196] (by decide +kernel) (by decide +kernel)
set_option maxRecDepth 20000 in
theorem gX7_parent_X7_asks : GoodIn wsX7_parent (wsV RX7 281 RX7 yX7_asks wsX7_asks) := goodIn_app (goodIn_of _ (by decide +kernel)) ggX7_parent_X7_asks
theorem dX7_parent_0 : decode cX7_parent 0 = .ok (.aload_n 0, 1) := by decide +kernel
theorem dX7_parent_1 : decode cX7_parent 1 = .ok (.iload_n 1, 1) := by decide +kernel
theorem dX7_parent_2 : decode cX7_parent 2 = .ok (.invokevirtual 281, 3) := by decide +kernel
theorem dX7_parent_5 : decode cX7_parent 5 = .ok (.ifCond .ne 7, 3) := by decide +kernel
theorem dX7_parent_8 : decode cX7_parent 8 = .ok (.iconst 0, 1) := by decide +kernel
theorem dX7_parent_9 : decode cX7_parent 9 = .ok (.goto 22, 3) := by decide +kernel
theorem dX7_parent_12 : decode cX7_parent 12 = .ok (.aload_n 0, 1) := by decide +kernel
theorem dX7_parent_13 : decode cX7_parent 13 = .ok (.getfield 89, 3) := by decide +kernel
theorem dX7_parent_16 : decode cX7_parent 16 = .ok (.iload_n 1, 1) := by decide +kernel
theorem dX7_parent_17 : decode cX7_parent 17 = .ok (.baload, 1) := by decide +kernel
theorem dX7_parent_18 : decode cX7_parent 18 = .ok (.ifCond .eq 12, 3) := by decide +kernel
theorem dX7_parent_21 : decode cX7_parent 21 = .ok (.aload_n 0, 1) := by decide +kernel
theorem dX7_parent_22 : decode cX7_parent 22 = .ok (.getfield 96, 3) := by decide +kernel
theorem dX7_parent_25 : decode cX7_parent 25 = .ok (.iload_n 1, 1) := by decide +kernel
theorem dX7_parent_26 : decode cX7_parent 26 = .ok (.iaload, 1) := by decide +kernel
theorem dX7_parent_27 : decode cX7_parent 27 = .ok (.goto 4, 3) := by decide +kernel
theorem dX7_parent_30 : decode cX7_parent 30 = .ok (.iconst (-1), 1) := by decide +kernel
theorem dX7_parent_31 : decode cX7_parent 31 = .ok (.ireturn, 1) := by decide +kernel
set_option maxRecDepth 20000 in
theorem ggX7_words_X7_asks : GoodIn wsX7_words wsX7_asks := goodIn_r _ [7, 8, 9, 10, 6, 11, 12, 13, 14, 15, 16, 17, 18, 1, 2, 19, 20, 21, 22, 23, 24, 25, 26, 27, 28, 29, 30, 31, 32, 33, 34, 35, 36, 37, 38, 39, 40, 41, 42, 43, 44, 45, 46, 47, 48, 49, 50, 51, 52, 53, 54, 55, 56, 57, 58, 59, 60, 61, 62, 63, 64, 65, 66, 67, 68, 69, 70, 71, 72, 73, 74, 75, 76, 77, 78, 79, 80, 81, 82, 83, 84, 85, 86, 87, 88, 89, 90, 91, 92, 93, 94, 95, 96, 97, 98, 99, 100, 101, 102, 103, 104, 105, 106, 107, 108, 109, 110, 111, 112, 113, 114, 115, 116, 117, 118, 119, 120, 121, 122, 123, 124, 125, 126, 127, 128, 129, 130, 131, 132, 133, 134, 135, 136, 137, 138, 139, 140, 141, 142, 143, 144, 145, 146, 147, 148, 149, 150, 151, 152, 153, 154, 155, 156, 157, 158, 159, 160, 161, 162, 163, 164, 165, 166, 167, 168, 169, 170, 171, 172, 173, 174, 175, 176, 177, 178, 179, 180, 181, 182, 183, 184, 185, 186, 187, 188, 189, 190, 191, 192, 193, 194, 195, 196] (by decide +kernel) (by decide +kernel)
set_option maxRecDepth 20000 in
theorem gX7_words_X7_asks : GoodIn wsX7_words (wsV RX7 281 RX7 yX7_asks wsX7_asks) := goodIn_app (goodIn_of _ (by decide +kernel)) ggX7_words_X7_asks
theorem dX7_words_0 : decode cX7_words 0 = .ok (.aload_n 0, 1) := by decide +kernel
theorem dX7_words_1 : decode cX7_words 1 = .ok (.iload_n 1, 1) := by decide +kernel
theorem dX7_words_2 : decode cX7_words 2 = .ok (.invokevirtual 281, 3) := by decide +kernel
theorem dX7_words_5 : decode cX7_words 5 = .ok (.ifCond .ne 7, 3) := by decide +kernel
theorem dX7_words_8 : decode cX7_words 8 = .ok (.iconst 0, 1) := by decide +kernel
theorem dX7_words_9 : decode cX7_words 9 = .ok (.goto 22, 3) := by decide +kernel
theorem dX7_words_12 : decode cX7_words 12 = .ok (.aload_n 0, 1) := by decide +kernel
theorem dX7_words_13 : decode cX7_words 13 = .ok (.getfield 89, 3) := by decide +kernel
theorem dX7_words_16 : decode cX7_words 16 = .ok (.iload_n 1, 1) := by decide +kernel
theorem dX7_words_17 : decode cX7_words 17 = .ok (.baload, 1) := by decide +kernel
theorem dX7_words_18 : decode cX7_words 18 = .ok (.ifCond .eq 12, 3) := by decide +kernel
theorem dX7_words_21 : decode cX7_words 21 = .ok (.aload_n 0, 1) := by decide +kernel
theorem dX7_words_22 : decode cX7_words 22 = .ok (.getfield 99, 3) := by decide +kernel
theorem dX7_words_25 : decode cX7_words 25 = .ok (.iload_n 1, 1) := by decide +kernel
theorem dX7_words_26 : decode cX7_words 26 = .ok (.iaload, 1) := by decide +kernel
theorem dX7_words_27 : decode cX7_words 27 = .ok (.goto 4, 3) := by decide +kernel
theorem dX7_words_30 : decode cX7_words 30 = .ok (.iconst (-1), 1) := by decide +kernel
theorem dX7_words_31 : decode cX7_words 31 = .ok (.ireturn, 1) := by decide +kernel
set_option maxRecDepth 20000 in
theorem ggX7_hasPlace_X7_isIn : GoodIn wsX7_hasPlace wsX7_isIn := goodIn_r _ [6] (by decide +kernel) (by decide +kernel)
set_option maxRecDepth 20000 in
theorem gX7_hasPlace_X7_isIn : GoodIn wsX7_hasPlace (va_wsS RX7 126 yX7_isIn wsX7_isIn) := goodIn_app (goodIn_of _ (by decide +kernel)) ggX7_hasPlace_X7_isIn
theorem dX7_hasPlace_0 : decode cX7_hasPlace 0 = .ok (.aload_n 0, 1) := by decide +kernel
