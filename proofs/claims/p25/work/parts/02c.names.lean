set_option maxRecDepth 20000 in
theorem ggX0_init_X2_init : GoodIn wsX0_init wsX2_init := goodIn_r _ [24, 25, 2, 3, 26, 27, 28, 48, 49] (by decide +kernel) (by decide +kernel)
set_option maxRecDepth 20000 in
theorem gX0_init_X2_init_n35 : GoodIn wsX0_init (wsX2_init) := ggX0_init_X2_init
set_option maxRecDepth 20000 in
theorem ggX0_init_X1_init : GoodIn wsX0_init wsX1_init := goodIn_r _ [30, 31, 2, 3, 32, 33, 34, 50, 51, 52] (by decide +kernel) (by decide +kernel)
set_option maxRecDepth 20000 in
theorem gX0_init_X1_init_n45 : GoodIn wsX0_init (wsX1_init) := ggX0_init_X1_init
theorem dX0_init_0 : decode cX0_init 0 = .ok (.aload_n 0, 1) := by decide +kernel
theorem dX0_init_1 : decode cX0_init 1 = .ok (.invokespecial 3, 3) := by decide +kernel
theorem dX0_init_4 : decode cX0_init 4 = .ok (.aload_n 0, 1) := by decide +kernel
theorem dX0_init_5 : decode cX0_init 5 = .ok (.iconst (-1), 1) := by decide +kernel
theorem dX0_init_6 : decode cX0_init 6 = .ok (.putfield 9, 3) := by decide +kernel
theorem dX0_init_9 : decode cX0_init 9 = .ok (.aload_n 0, 1) := by decide +kernel
theorem dX0_init_10 : decode cX0_init 10 = .ok (.iconst (-1), 1) := by decide +kernel
theorem dX0_init_11 : decode cX0_init 11 = .ok (.putfield 15, 3) := by decide +kernel
theorem dX0_init_14 : decode cX0_init 14 = .ok (.aload_n 0, 1) := by decide +kernel
theorem dX0_init_15 : decode cX0_init 15 = .ok (.iconst (-1), 1) := by decide +kernel
theorem dX0_init_16 : decode cX0_init 16 = .ok (.putfield 18, 3) := by decide +kernel
theorem dX0_init_19 : decode cX0_init 19 = .ok (.aload_n 0, 1) := by decide +kernel
theorem dX0_init_20 : decode cX0_init 20 = .ok (.iconst (-1), 1) := by decide +kernel
theorem dX0_init_21 : decode cX0_init 21 = .ok (.putfield 21, 3) := by decide +kernel
theorem dX0_init_24 : decode cX0_init 24 = .ok (.aload_n 0, 1) := by decide +kernel
theorem dX0_init_25 : decode cX0_init 25 = .ok (.iconst (-1), 1) := by decide +kernel
theorem dX0_init_26 : decode cX0_init 26 = .ok (.putfield 24, 3) := by decide +kernel
theorem dX0_init_29 : decode cX0_init 29 = .ok (.aload_n 0, 1) := by decide +kernel
theorem dX0_init_30 : decode cX0_init 30 = .ok (.iconst (-1), 1) := by decide +kernel
theorem dX0_init_31 : decode cX0_init 31 = .ok (.putfield 27, 3) := by decide +kernel
theorem dX0_init_34 : decode cX0_init 34 = .ok (.aload_n 0, 1) := by decide +kernel
theorem dX0_init_35 : decode cX0_init 35 = .ok (.iconst (-1), 1) := by decide +kernel
theorem dX0_init_36 : decode cX0_init 36 = .ok (.putfield 30, 3) := by decide +kernel
theorem dX0_init_39 : decode cX0_init 39 = .ok (.aload_n 0, 1) := by decide +kernel
theorem dX0_init_40 : decode cX0_init 40 = .ok (.new 33, 3) := by decide +kernel
theorem dX0_init_43 : decode cX0_init 43 = .ok (.dup, 1) := by decide +kernel
theorem dX0_init_44 : decode cX0_init 44 = .ok (.invokespecial 35, 3) := by decide +kernel
theorem dX0_init_47 : decode cX0_init 47 = .ok (.putfield 36, 3) := by decide +kernel
theorem dX0_init_50 : decode cX0_init 50 = .ok (.aload_n 0, 1) := by decide +kernel
theorem dX0_init_51 : decode cX0_init 51 = .ok (.new 33, 3) := by decide +kernel
theorem dX0_init_54 : decode cX0_init 54 = .ok (.dup, 1) := by decide +kernel
theorem dX0_init_55 : decode cX0_init 55 = .ok (.invokespecial 35, 3) := by decide +kernel
theorem dX0_init_58 : decode cX0_init 58 = .ok (.putfield 40, 3) := by decide +kernel
theorem dX0_init_61 : decode cX0_init 61 = .ok (.aload_n 0, 1) := by decide +kernel
theorem dX0_init_62 : decode cX0_init 62 = .ok (.new 43, 3) := by decide +kernel
theorem dX0_init_65 : decode cX0_init 65 = .ok (.dup, 1) := by decide +kernel
theorem dX0_init_66 : decode cX0_init 66 = .ok (.invokespecial 45, 3) := by decide +kernel
theorem dX0_init_69 : decode cX0_init 69 = .ok (.putfield 46, 3) := by decide +kernel
theorem dX0_init_72 : decode cX0_init 72 = .ok (.aload_n 0, 1) := by decide +kernel
theorem dX0_init_73 : decode cX0_init 73 = .ok (.new 43, 3) := by decide +kernel
theorem dX0_init_76 : decode cX0_init 76 = .ok (.dup, 1) := by decide +kernel
theorem dX0_init_77 : decode cX0_init 77 = .ok (.invokespecial 45, 3) := by decide +kernel
theorem dX0_init_80 : decode cX0_init 80 = .ok (.putfield 50, 3) := by decide +kernel
theorem dX0_init_83 : decode cX0_init 83 = .ok (.aload_n 0, 1) := by decide +kernel
theorem dX0_init_84 : decode cX0_init 84 = .ok (.new 43, 3) := by decide +kernel
theorem dX0_init_87 : decode cX0_init 87 = .ok (.dup, 1) := by decide +kernel
theorem dX0_init_88 : decode cX0_init 88 = .ok (.invokespecial 45, 3) := by decide +kernel
theorem dX0_init_91 : decode cX0_init 91 = .ok (.putfield 53, 3) := by decide +kernel
theorem dX0_init_94 : decode cX0_init 94 = .ok (.aload_n 0, 1) := by decide +kernel
theorem dX0_init_95 : decode cX0_init 95 = .ok (.aload_n 1, 1) := by decide +kernel
theorem dX0_init_96 : decode cX0_init 96 = .ok (.putfield 56, 3) := by decide +kernel
theorem dX0_init_99 : decode cX0_init 99 = .ok (.return_, 1) := by decide +kernel
theorem dX0_hasWordsFor_0 : decode cX0_hasWordsFor 0 = .ok (.iload_n 1, 1) := by decide +kernel
theorem dX0_hasWordsFor_1 : decode cX0_hasWordsFor 1 = .ok (.tableswitch 117 1 7 #[43, 59, 75, 117, 117, 117, 101], 43) := by decide +kernel
theorem dX0_hasWordsFor_44 : decode cX0_hasWordsFor 44 = .ok (.aload_n 0, 1) := by decide +kernel
theorem dX0_hasWordsFor_45 : decode cX0_hasWordsFor 45 = .ok (.getfield 40, 3) := by decide +kernel
theorem dX0_hasWordsFor_48 : decode cX0_hasWordsFor 48 = .ok (.getfield 60, 3) := by decide +kernel
theorem dX0_hasWordsFor_51 : decode cX0_hasWordsFor 51 = .ok (.ifCond .le 7, 3) := by decide +kernel
theorem dX0_hasWordsFor_54 : decode cX0_hasWordsFor 54 = .ok (.iconst 1, 1) := by decide +kernel
theorem dX0_hasWordsFor_55 : decode cX0_hasWordsFor 55 = .ok (.goto 4, 3) := by decide +kernel
theorem dX0_hasWordsFor_58 : decode cX0_hasWordsFor 58 = .ok (.iconst 0, 1) := by decide +kernel
theorem dX0_hasWordsFor_59 : decode cX0_hasWordsFor 59 = .ok (.ireturn, 1) := by decide +kernel
theorem dX0_hasWordsFor_60 : decode cX0_hasWordsFor 60 = .ok (.aload_n 0, 1) := by decide +kernel
theorem dX0_hasWordsFor_61 : decode cX0_hasWordsFor 61 = .ok (.getfield 36, 3) := by decide +kernel
theorem dX0_hasWordsFor_64 : decode cX0_hasWordsFor 64 = .ok (.getfield 60, 3) := by decide +kernel
theorem dX0_hasWordsFor_67 : decode cX0_hasWordsFor 67 = .ok (.ifCond .le 7, 3) := by decide +kernel
theorem dX0_hasWordsFor_70 : decode cX0_hasWordsFor 70 = .ok (.iconst 1, 1) := by decide +kernel
theorem dX0_hasWordsFor_71 : decode cX0_hasWordsFor 71 = .ok (.goto 4, 3) := by decide +kernel
theorem dX0_hasWordsFor_74 : decode cX0_hasWordsFor 74 = .ok (.iconst 0, 1) := by decide +kernel
theorem dX0_hasWordsFor_75 : decode cX0_hasWordsFor 75 = .ok (.ireturn, 1) := by decide +kernel
theorem dX0_hasWordsFor_76 : decode cX0_hasWordsFor 76 = .ok (.aload_n 0, 1) := by decide +kernel
theorem dX0_hasWordsFor_77 : decode cX0_hasWordsFor 77 = .ok (.getfield 36, 3) := by decide +kernel
theorem dX0_hasWordsFor_80 : decode cX0_hasWordsFor 80 = .ok (.getfield 60, 3) := by decide +kernel
theorem dX0_hasWordsFor_83 : decode cX0_hasWordsFor 83 = .ok (.ifCond .le 17, 3) := by decide +kernel
theorem dX0_hasWordsFor_86 : decode cX0_hasWordsFor 86 = .ok (.aload_n 0, 1) := by decide +kernel
theorem dX0_hasWordsFor_87 : decode cX0_hasWordsFor 87 = .ok (.getfield 40, 3) := by decide +kernel
theorem dX0_hasWordsFor_90 : decode cX0_hasWordsFor 90 = .ok (.getfield 60, 3) := by decide +kernel
theorem dX0_hasWordsFor_93 : decode cX0_hasWordsFor 93 = .ok (.ifCond .ne 7, 3) := by decide +kernel
theorem dX0_hasWordsFor_96 : decode cX0_hasWordsFor 96 = .ok (.iconst 1, 1) := by decide +kernel
theorem dX0_hasWordsFor_97 : decode cX0_hasWordsFor 97 = .ok (.goto 4, 3) := by decide +kernel
theorem dX0_hasWordsFor_100 : decode cX0_hasWordsFor 100 = .ok (.iconst 0, 1) := by decide +kernel
theorem dX0_hasWordsFor_101 : decode cX0_hasWordsFor 101 = .ok (.ireturn, 1) := by decide +kernel
theorem dX0_hasWordsFor_102 : decode cX0_hasWordsFor 102 = .ok (.aload_n 0, 1) := by decide +kernel
theorem dX0_hasWordsFor_103 : decode cX0_hasWordsFor 103 = .ok (.getfield 36, 3) := by decide +kernel
theorem dX0_hasWordsFor_106 : decode cX0_hasWordsFor 106 = .ok (.getfield 60, 3) := by decide +kernel
theorem dX0_hasWordsFor_109 : decode cX0_hasWordsFor 109 = .ok (.ifCond .ne 7, 3) := by decide +kernel
theorem dX0_hasWordsFor_112 : decode cX0_hasWordsFor 112 = .ok (.iconst 1, 1) := by decide +kernel
theorem dX0_hasWordsFor_113 : decode cX0_hasWordsFor 113 = .ok (.goto 4, 3) := by decide +kernel
theorem dX0_hasWordsFor_116 : decode cX0_hasWordsFor 116 = .ok (.iconst 0, 1) := by decide +kernel
theorem dX0_hasWordsFor_117 : decode cX0_hasWordsFor 117 = .ok (.ireturn, 1) := by decide +kernel
theorem dX0_hasWordsFor_118 : decode cX0_hasWordsFor 118 = .ok (.aload_n 0, 1) := by decide +kernel
theorem dX0_hasWordsFor_119 : decode cX0_hasWordsFor 119 = .ok (.getfield 36, 3) := by decide +kernel
theorem dX0_hasWordsFor_122 : decode cX0_hasWordsFor 122 = .ok (.getfield 60, 3) := by decide +kernel
theorem dX0_hasWordsFor_125 : decode cX0_hasWordsFor 125 = .ok (.ifCond .ne 17, 3) := by decide +kernel
theorem dX0_hasWordsFor_128 : decode cX0_hasWordsFor 128 = .ok (.aload_n 0, 1) := by decide +kernel
theorem dX0_hasWordsFor_129 : decode cX0_hasWordsFor 129 = .ok (.getfield 40, 3) := by decide +kernel
theorem dX0_hasWordsFor_132 : decode cX0_hasWordsFor 132 = .ok (.getfield 60, 3) := by decide +kernel
theorem dX0_hasWordsFor_135 : decode cX0_hasWordsFor 135 = .ok (.ifCond .ne 7, 3) := by decide +kernel
theorem dX0_hasWordsFor_138 : decode cX0_hasWordsFor 138 = .ok (.iconst 1, 1) := by decide +kernel
theorem dX0_hasWordsFor_139 : decode cX0_hasWordsFor 139 = .ok (.goto 4, 3) := by decide +kernel
theorem dX0_hasWordsFor_142 : decode cX0_hasWordsFor 142 = .ok (.iconst 0, 1) := by decide +kernel
theorem dX0_hasWordsFor_143 : decode cX0_hasWordsFor 143 = .ok (.ireturn, 1) := by decide +kernel
theorem dX0_isOf_0 : decode cX0_isOf 0 = .ok (.aload_n 0, 1) := by decide +kernel
theorem dX0_isOf_1 : decode cX0_isOf 1 = .ok (.getfield 21, 3) := by decide +kernel
theorem dX0_isOf_4 : decode cX0_isOf 4 = .ok (.bipush 7, 2) := by decide +kernel
theorem dX0_isOf_6 : decode cX0_isOf 6 = .ok (.if_icmp .eq 15, 3) := by decide +kernel
theorem dX0_isOf_9 : decode cX0_isOf 9 = .ok (.aload_n 0, 1) := by decide +kernel
theorem dX0_isOf_10 : decode cX0_isOf 10 = .ok (.getfield 24, 3) := by decide +kernel
theorem dX0_isOf_13 : decode cX0_isOf 13 = .ok (.iload_n 1, 1) := by decide +kernel
theorem dX0_isOf_14 : decode cX0_isOf 14 = .ok (.if_icmp .ne 7, 3) := by decide +kernel
theorem dX0_isOf_17 : decode cX0_isOf 17 = .ok (.iconst 1, 1) := by decide +kernel
theorem dX0_isOf_18 : decode cX0_isOf 18 = .ok (.goto 4, 3) := by decide +kernel
theorem dX0_isOf_21 : decode cX0_isOf 21 = .ok (.iconst 0, 1) := by decide +kernel
theorem dX0_isOf_22 : decode cX0_isOf 22 = .ok (.ireturn, 1) := by decide +kernel
set_option maxRecDepth 20000 in
theorem ggX0_mayConflictWith_X0_isOf : GoodIn wsX0_mayConflictWith wsX0_isOf := goodIn_r _ [8, 2, 3, 9, 10, 11, 12, 13, 14, 15, 16, 17, 18, 19, 20, 21] (by decide +kernel) (by decide +kernel)
set_option maxRecDepth 20000 in
theorem gX0_mayConflictWith_X0_isOf : GoodIn wsX0_mayConflictWith (wsV RX0 63 RX0 yX0_isOf wsX0_isOf) := goodIn_app (goodIn_of _ (by decide +kernel)) ggX0_mayConflictWith_X0_isOf
theorem dX0_mayConflictWith_0 : decode cX0_mayConflictWith 0 = .ok (.aload_n 0, 1) := by decide +kernel
theorem dX0_mayConflictWith_1 : decode cX0_mayConflictWith 1 = .ok (.getfield 15, 3) := by decide +kernel
theorem dX0_mayConflictWith_4 : decode cX0_mayConflictWith 4 = .ok (.aload_n 1, 1) := by decide +kernel
theorem dX0_mayConflictWith_5 : decode cX0_mayConflictWith 5 = .ok (.getfield 15, 3) := by decide +kernel
theorem dX0_mayConflictWith_8 : decode cX0_mayConflictWith 8 = .ok (.if_icmp .eq 41, 3) := by decide +kernel
theorem dX0_mayConflictWith_11 : decode cX0_mayConflictWith 11 = .ok (.aload_n 0, 1) := by decide +kernel
theorem dX0_mayConflictWith_12 : decode cX0_mayConflictWith 12 = .ok (.getfield 21, 3) := by decide +kernel
theorem dX0_mayConflictWith_15 : decode cX0_mayConflictWith 15 = .ok (.ifCond .eq 34, 3) := by decide +kernel
theorem dX0_mayConflictWith_18 : decode cX0_mayConflictWith 18 = .ok (.aload_n 1, 1) := by decide +kernel
theorem dX0_mayConflictWith_19 : decode cX0_mayConflictWith 19 = .ok (.getfield 21, 3) := by decide +kernel
theorem dX0_mayConflictWith_22 : decode cX0_mayConflictWith 22 = .ok (.ifCond .eq 27, 3) := by decide +kernel
theorem dX0_mayConflictWith_25 : decode cX0_mayConflictWith 25 = .ok (.aload_n 0, 1) := by decide +kernel
theorem dX0_mayConflictWith_26 : decode cX0_mayConflictWith 26 = .ok (.getfield 21, 3) := by decide +kernel
theorem dX0_mayConflictWith_29 : decode cX0_mayConflictWith 29 = .ok (.bipush 7, 2) := by decide +kernel
theorem dX0_mayConflictWith_31 : decode cX0_mayConflictWith 31 = .ok (.if_icmp .eq 18, 3) := by decide +kernel
theorem dX0_mayConflictWith_34 : decode cX0_mayConflictWith 34 = .ok (.aload_n 1, 1) := by decide +kernel
theorem dX0_mayConflictWith_35 : decode cX0_mayConflictWith 35 = .ok (.aload_n 0, 1) := by decide +kernel
theorem dX0_mayConflictWith_36 : decode cX0_mayConflictWith 36 = .ok (.getfield 24, 3) := by decide +kernel
theorem dX0_mayConflictWith_39 : decode cX0_mayConflictWith 39 = .ok (.invokevirtual 63, 3) := by decide +kernel
theorem dX0_mayConflictWith_42 : decode cX0_mayConflictWith 42 = .ok (.ifCond .eq 7, 3) := by decide +kernel
theorem dX0_mayConflictWith_45 : decode cX0_mayConflictWith 45 = .ok (.iconst 1, 1) := by decide +kernel
theorem dX0_mayConflictWith_46 : decode cX0_mayConflictWith 46 = .ok (.goto 4, 3) := by decide +kernel
theorem dX0_mayConflictWith_49 : decode cX0_mayConflictWith 49 = .ok (.iconst 0, 1) := by decide +kernel
theorem dX0_mayConflictWith_50 : decode cX0_mayConflictWith 50 = .ok (.ireturn, 1) := by decide +kernel
theorem dX1_init_0 : decode cX1_init 0 = .ok (.aload_n 0, 1) := by decide +kernel
theorem dX1_init_1 : decode cX1_init 1 = .ok (.invokespecial 3, 3) := by decide +kernel
theorem dX1_init_4 : decode cX1_init 4 = .ok (.aload_n 0, 1) := by decide +kernel
theorem dX1_init_5 : decode cX1_init 5 = .ok (.iconst (-1), 1) := by decide +kernel
theorem dX1_init_6 : decode cX1_init 6 = .ok (.putfield 9, 3) := by decide +kernel
theorem dX1_init_9 : decode cX1_init 9 = .ok (.aload_n 0, 1) := by decide +kernel
theorem dX1_init_10 : decode cX1_init 10 = .ok (.iconst (-1), 1) := by decide +kernel
theorem dX1_init_11 : decode cX1_init 11 = .ok (.putfield 15, 3) := by decide +kernel
theorem dX1_init_14 : decode cX1_init 14 = .ok (.aload_n 0, 1) := by decide +kernel
theorem dX1_init_15 : decode cX1_init 15 = .ok (.iconst (-1), 1) := by decide +kernel
theorem dX1_init_16 : decode cX1_init 16 = .ok (.putfield 18, 3) := by decide +kernel
theorem dX1_init_19 : decode cX1_init 19 = .ok (.return_, 1) := by decide +kernel
theorem dX1_give_0 : decode cX1_give 0 = .ok (.aload_n 0, 1) := by decide +kernel
theorem dX1_give_1 : decode cX1_give 1 = .ok (.iload_n 1, 1) := by decide +kernel
theorem dX1_give_2 : decode cX1_give 2 = .ok (.putfield 9, 3) := by decide +kernel
theorem dX1_give_5 : decode cX1_give 5 = .ok (.aload_n 0, 1) := by decide +kernel
theorem dX1_give_6 : decode cX1_give 6 = .ok (.iload_n 2, 1) := by decide +kernel
theorem dX1_give_7 : decode cX1_give 7 = .ok (.putfield 15, 3) := by decide +kernel
theorem dX1_give_10 : decode cX1_give 10 = .ok (.aload_n 0, 1) := by decide +kernel
theorem dX1_give_11 : decode cX1_give 11 = .ok (.iload_n 3, 1) := by decide +kernel
theorem dX1_give_12 : decode cX1_give 12 = .ok (.putfield 18, 3) := by decide +kernel
theorem dX1_give_15 : decode cX1_give 15 = .ok (.return_, 1) := by decide +kernel
theorem dX1_isGiven_0 : decode cX1_isGiven 0 = .ok (.aload_n 0, 1) := by decide +kernel
theorem dX1_isGiven_1 : decode cX1_isGiven 1 = .ok (.getfield 9, 3) := by decide +kernel
theorem dX1_isGiven_4 : decode cX1_isGiven 4 = .ok (.iconst (-1), 1) := by decide +kernel
theorem dX1_isGiven_5 : decode cX1_isGiven 5 = .ok (.if_icmp .eq 7, 3) := by decide +kernel
theorem dX1_isGiven_8 : decode cX1_isGiven 8 = .ok (.iconst 1, 1) := by decide +kernel
theorem dX1_isGiven_9 : decode cX1_isGiven 9 = .ok (.goto 4, 3) := by decide +kernel
theorem dX1_isGiven_12 : decode cX1_isGiven 12 = .ok (.iconst 0, 1) := by decide +kernel
theorem dX1_isGiven_13 : decode cX1_isGiven 13 = .ok (.ireturn, 1) := by decide +kernel
set_option maxRecDepth 20000 in
theorem ggX1_isKnownOn_X1_isGiven : GoodIn wsX1_isKnownOn wsX1_isGiven := goodIn_r _ [6, 1, 7, 8, 9] (by decide +kernel) (by decide +kernel)
set_option maxRecDepth 20000 in
theorem gX1_isKnownOn_X1_isGiven : GoodIn wsX1_isKnownOn (wsV RX1 21 RX1 yX1_isGiven wsX1_isGiven) := goodIn_app (goodIn_of _ (by decide +kernel)) ggX1_isKnownOn_X1_isGiven
theorem dX1_isKnownOn_0 : decode cX1_isKnownOn 0 = .ok (.aload_n 0, 1) := by decide +kernel
theorem dX1_isKnownOn_1 : decode cX1_isKnownOn 1 = .ok (.invokevirtual 21, 3) := by decide +kernel
theorem dX1_isKnownOn_4 : decode cX1_isKnownOn 4 = .ok (.ifCond .eq 15, 3) := by decide +kernel
theorem dX1_isKnownOn_7 : decode cX1_isKnownOn 7 = .ok (.aload_n 0, 1) := by decide +kernel
theorem dX1_isKnownOn_8 : decode cX1_isKnownOn 8 = .ok (.getfield 9, 3) := by decide +kernel
theorem dX1_isKnownOn_11 : decode cX1_isKnownOn 11 = .ok (.iload_n 1, 1) := by decide +kernel
theorem dX1_isKnownOn_12 : decode cX1_isKnownOn 12 = .ok (.if_icmp .gt 7, 3) := by decide +kernel
theorem dX1_isKnownOn_15 : decode cX1_isKnownOn 15 = .ok (.iconst 1, 1) := by decide +kernel
theorem dX1_isKnownOn_16 : decode cX1_isKnownOn 16 = .ok (.goto 4, 3) := by decide +kernel
theorem dX1_isKnownOn_19 : decode cX1_isKnownOn 19 = .ok (.iconst 0, 1) := by decide +kernel
theorem dX1_isKnownOn_20 : decode cX1_isKnownOn 20 = .ok (.ireturn, 1) := by decide +kernel
set_option maxRecDepth 20000 in
theorem ggX1_covers_X1_isKnownOn : GoodIn wsX1_covers wsX1_isKnownOn := goodIn_r _ [7, 8, 9, 10, 11, 6, 12, 13, 14, 15] (by decide +kernel) (by decide +kernel)
set_option maxRecDepth 20000 in
theorem gX1_covers_X1_isKnownOn : GoodIn wsX1_covers (wsV RX1 25 RX1 yX1_isKnownOn wsX1_isKnownOn) := goodIn_app (goodIn_of _ (by decide +kernel)) ggX1_covers_X1_isKnownOn
theorem dX1_covers_0 : decode cX1_covers 0 = .ok (.aload_n 0, 1) := by decide +kernel
theorem dX1_covers_1 : decode cX1_covers 1 = .ok (.iload_n 2, 1) := by decide +kernel
theorem dX1_covers_2 : decode cX1_covers 2 = .ok (.invokevirtual 25, 3) := by decide +kernel
theorem dX1_covers_5 : decode cX1_covers 5 = .ok (.ifCond .eq 23, 3) := by decide +kernel
theorem dX1_covers_8 : decode cX1_covers 8 = .ok (.aload_n 0, 1) := by decide +kernel
theorem dX1_covers_9 : decode cX1_covers 9 = .ok (.getfield 15, 3) := by decide +kernel
theorem dX1_covers_12 : decode cX1_covers 12 = .ok (.iload_n 1, 1) := by decide +kernel
theorem dX1_covers_13 : decode cX1_covers 13 = .ok (.if_icmp .gt 15, 3) := by decide +kernel
theorem dX1_covers_16 : decode cX1_covers 16 = .ok (.iload_n 1, 1) := by decide +kernel
theorem dX1_covers_17 : decode cX1_covers 17 = .ok (.aload_n 0, 1) := by decide +kernel
theorem dX1_covers_18 : decode cX1_covers 18 = .ok (.getfield 18, 3) := by decide +kernel
theorem dX1_covers_21 : decode cX1_covers 21 = .ok (.if_icmp .gt 7, 3) := by decide +kernel
theorem dX1_covers_24 : decode cX1_covers 24 = .ok (.iconst 1, 1) := by decide +kernel
theorem dX1_covers_25 : decode cX1_covers 25 = .ok (.goto 4, 3) := by decide +kernel
theorem dX1_covers_28 : decode cX1_covers 28 = .ok (.iconst 0, 1) := by decide +kernel
theorem dX1_covers_29 : decode cX1_covers 29 = .ok (.ireturn, 1) := by decide +kernel
theorem dX2_init_0 : decode cX2_init 0 = .ok (.aload_n 0, 1) := by decide +kernel
theorem dX2_init_1 : decode cX2_init 1 = .ok (.invokespecial 3, 3) := by decide +kernel
theorem dX2_init_4 : decode cX2_init 4 = .ok (.aload_n 0, 1) := by decide +kernel
theorem dX2_init_5 : decode cX2_init 5 = .ok (.iconst 4, 1) := by decide +kernel
theorem dX2_init_6 : decode cX2_init 6 = .ok (.newarray .int, 2) := by decide +kernel
theorem dX2_init_8 : decode cX2_init 8 = .ok (.putfield 9, 3) := by decide +kernel
theorem dX2_init_11 : decode cX2_init 11 = .ok (.aload_n 0, 1) := by decide +kernel
theorem dX2_init_12 : decode cX2_init 12 = .ok (.iconst 0, 1) := by decide +kernel
theorem dX2_init_13 : decode cX2_init 13 = .ok (.putfield 15, 3) := by decide +kernel
theorem dX2_init_16 : decode cX2_init 16 = .ok (.return_, 1) := by decide +kernel
theorem dX2_append_0 : decode cX2_append 0 = .ok (.aload_n 0, 1) := by decide +kernel
theorem dX2_append_1 : decode cX2_append 1 = .ok (.getfield 15, 3) := by decide +kernel
theorem dX2_append_4 : decode cX2_append 4 = .ok (.aload_n 0, 1) := by decide +kernel
theorem dX2_append_5 : decode cX2_append 5 = .ok (.getfield 9, 3) := by decide +kernel
theorem dX2_append_8 : decode cX2_append 8 = .ok (.arraylength, 1) := by decide +kernel
theorem dX2_append_9 : decode cX2_append 9 = .ok (.if_icmp .lt 5, 3) := by decide +kernel
theorem dX2_append_12 : decode cX2_append 12 = .ok (.iconst 0, 1) := by decide +kernel
theorem dX2_append_13 : decode cX2_append 13 = .ok (.ireturn, 1) := by decide +kernel
theorem dX2_append_14 : decode cX2_append 14 = .ok (.aload_n 0, 1) := by decide +kernel
theorem dX2_append_15 : decode cX2_append 15 = .ok (.getfield 9, 3) := by decide +kernel
theorem dX2_append_18 : decode cX2_append 18 = .ok (.aload_n 0, 1) := by decide +kernel
theorem dX2_append_19 : decode cX2_append 19 = .ok (.getfield 15, 3) := by decide +kernel
theorem dX2_append_22 : decode cX2_append 22 = .ok (.iload_n 1, 1) := by decide +kernel
theorem dX2_append_23 : decode cX2_append 23 = .ok (.iastore, 1) := by decide +kernel
theorem dX2_append_24 : decode cX2_append 24 = .ok (.aload_n 0, 1) := by decide +kernel
theorem dX2_append_25 : decode cX2_append 25 = .ok (.dup, 1) := by decide +kernel
theorem dX2_append_26 : decode cX2_append 26 = .ok (.getfield 15, 3) := by decide +kernel
theorem dX2_append_29 : decode cX2_append 29 = .ok (.iconst 1, 1) := by decide +kernel
theorem dX2_append_30 : decode cX2_append 30 = .ok (.iadd, 1) := by decide +kernel
theorem dX2_append_31 : decode cX2_append 31 = .ok (.putfield 15, 3) := by decide +kernel
theorem dX2_append_34 : decode cX2_append 34 = .ok (.iconst 1, 1) := by decide +kernel
theorem dX2_append_35 : decode cX2_append 35 = .ok (.ireturn, 1) := by decide +kernel
theorem dX3_init_0 : decode cX3_init 0 = .ok (.aload_n 0, 1) := by decide +kernel
theorem dX3_init_1 : decode cX3_init 1 = .ok (.invokespecial 3, 3) := by decide +kernel
theorem dX3_init_4 : decode cX3_init 4 = .ok (.aload_n 0, 1) := by decide +kernel
theorem dX3_init_5 : decode cX3_init 5 = .ok (.iload_n 1, 1) := by decide +kernel
theorem dX3_init_6 : decode cX3_init 6 = .ok (.putfield 9, 3) := by decide +kernel
theorem dX3_init_9 : decode cX3_init 9 = .ok (.aload_n 0, 1) := by decide +kernel
theorem dX3_init_10 : decode cX3_init 10 = .ok (.iload_n 2, 1) := by decide +kernel
theorem dX3_init_11 : decode cX3_init 11 = .ok (.putfield 15, 3) := by decide +kernel
theorem dX3_init_14 : decode cX3_init 14 = .ok (.aload_n 0, 1) := by decide +kernel
theorem dX3_init_15 : decode cX3_init 15 = .ok (.iload_n 3, 1) := by decide +kernel
theorem dX3_init_16 : decode cX3_init 16 = .ok (.putfield 18, 3) := by decide +kernel
theorem dX3_init_19 : decode cX3_init 19 = .ok (.aload_n 0, 1) := by decide +kernel
theorem dX3_init_20 : decode cX3_init 20 = .ok (.iload 4, 2) := by decide +kernel
theorem dX3_init_22 : decode cX3_init 22 = .ok (.putfield 21, 3) := by decide +kernel
theorem dX3_init_25 : decode cX3_init 25 = .ok (.return_, 1) := by decide +kernel
theorem dX3_reach_0 : decode cX3_reach 0 = .ok (.aload_n 0, 1) := by decide +kernel
theorem dX3_reach_1 : decode cX3_reach 1 = .ok (.getfield 18, 3) := by decide +kernel
theorem dX3_reach_4 : decode cX3_reach 4 = .ok (.iload_n 1, 1) := by decide +kernel
theorem dX3_reach_5 : decode cX3_reach 5 = .ok (.ishr, 1) := by decide +kernel
theorem dX3_reach_6 : decode cX3_reach 6 = .ok (.iconst 1, 1) := by decide +kernel
theorem dX3_reach_7 : decode cX3_reach 7 = .ok (.iand, 1) := by decide +kernel
theorem dX3_reach_8 : decode cX3_reach 8 = .ok (.iconst 1, 1) := by decide +kernel
theorem dX3_reach_9 : decode cX3_reach 9 = .ok (.if_icmp .ne 7, 3) := by decide +kernel
theorem dX3_reach_12 : decode cX3_reach 12 = .ok (.iconst 1, 1) := by decide +kernel
theorem dX3_reach_13 : decode cX3_reach 13 = .ok (.goto 4, 3) := by decide +kernel
theorem dX3_reach_16 : decode cX3_reach 16 = .ok (.iconst 0, 1) := by decide +kernel
theorem dX3_reach_17 : decode cX3_reach 17 = .ok (.ireturn, 1) := by decide +kernel
theorem dX3_endBy_0 : decode cX3_endBy 0 = .ok (.aload_n 0, 1) := by decide +kernel
theorem dX3_endBy_1 : decode cX3_endBy 1 = .ok (.getfield 21, 3) := by decide +kernel
theorem dX3_endBy_4 : decode cX3_endBy 4 = .ok (.iconst (-1), 1) := by decide +kernel
theorem dX3_endBy_5 : decode cX3_endBy 5 = .ok (.if_icmp .eq 15, 3) := by decide +kernel
theorem dX3_endBy_8 : decode cX3_endBy 8 = .ok (.aload_n 0, 1) := by decide +kernel
theorem dX3_endBy_9 : decode cX3_endBy 9 = .ok (.getfield 21, 3) := by decide +kernel
theorem dX3_endBy_12 : decode cX3_endBy 12 = .ok (.iload_n 1, 1) := by decide +kernel
theorem dX3_endBy_13 : decode cX3_endBy 13 = .ok (.if_icmp .gt 7, 3) := by decide +kernel
theorem dX3_endBy_16 : decode cX3_endBy 16 = .ok (.iconst 1, 1) := by decide +kernel
theorem dX3_endBy_17 : decode cX3_endBy 17 = .ok (.goto 4, 3) := by decide +kernel
theorem dX3_endBy_20 : decode cX3_endBy 20 = .ok (.iconst 0, 1) := by decide +kernel
theorem dX3_endBy_21 : decode cX3_endBy 21 = .ok (.ireturn, 1) := by decide +kernel
theorem dX4_init_0 : decode cX4_init 0 = .ok (.aload_n 0, 1) := by decide +kernel
theorem dX4_init_1 : decode cX4_init 1 = .ok (.invokespecial 3, 3) := by decide +kernel
theorem dX4_init_4 : decode cX4_init 4 = .ok (.aload_n 0, 1) := by decide +kernel
theorem dX4_init_5 : decode cX4_init 5 = .ok (.bipush 12, 2) := by decide +kernel
theorem dX4_init_7 : decode cX4_init 7 = .ok (.newarray .int, 2) := by decide +kernel
theorem dX4_init_9 : decode cX4_init 9 = .ok (.putfield 9, 3) := by decide +kernel
theorem dX4_init_12 : decode cX4_init 12 = .ok (.aload_n 0, 1) := by decide +kernel
theorem dX4_init_13 : decode cX4_init 13 = .ok (.bipush 12, 2) := by decide +kernel
theorem dX4_init_15 : decode cX4_init 15 = .ok (.newarray .int, 2) := by decide +kernel
theorem dX4_init_17 : decode cX4_init 17 = .ok (.putfield 15, 3) := by decide +kernel
theorem dX4_init_20 : decode cX4_init 20 = .ok (.aload_n 0, 1) := by decide +kernel
theorem dX4_init_21 : decode cX4_init 21 = .ok (.iconst 0, 1) := by decide +kernel
theorem dX4_init_22 : decode cX4_init 22 = .ok (.putfield 18, 3) := by decide +kernel
theorem dX4_init_25 : decode cX4_init 25 = .ok (.return_, 1) := by decide +kernel
theorem dX4_readAt_0 : decode cX4_readAt 0 = .ok (.iload_n 1, 1) := by decide +kernel
theorem dX4_readAt_1 : decode cX4_readAt 1 = .ok (.ifCond .lt 29, 3) := by decide +kernel
theorem dX4_readAt_4 : decode cX4_readAt 4 = .ok (.iload_n 1, 1) := by decide +kernel
theorem dX4_readAt_5 : decode cX4_readAt 5 = .ok (.aload_n 0, 1) := by decide +kernel
theorem dX4_readAt_6 : decode cX4_readAt 6 = .ok (.getfield 18, 3) := by decide +kernel
theorem dX4_readAt_9 : decode cX4_readAt 9 = .ok (.if_icmp .ge 21, 3) := by decide +kernel
theorem dX4_readAt_12 : decode cX4_readAt 12 = .ok (.iload_n 1, 1) := by decide +kernel
theorem dX4_readAt_13 : decode cX4_readAt 13 = .ok (.aload_n 0, 1) := by decide +kernel
theorem dX4_readAt_14 : decode cX4_readAt 14 = .ok (.getfield 9, 3) := by decide +kernel
theorem dX4_readAt_17 : decode cX4_readAt 17 = .ok (.arraylength, 1) := by decide +kernel
theorem dX4_readAt_18 : decode cX4_readAt 18 = .ok (.if_icmp .ge 12, 3) := by decide +kernel
theorem dX4_readAt_21 : decode cX4_readAt 21 = .ok (.aload_n 0, 1) := by decide +kernel
theorem dX4_readAt_22 : decode cX4_readAt 22 = .ok (.getfield 9, 3) := by decide +kernel
theorem dX4_readAt_25 : decode cX4_readAt 25 = .ok (.iload_n 1, 1) := by decide +kernel
theorem dX4_readAt_26 : decode cX4_readAt 26 = .ok (.iaload, 1) := by decide +kernel
theorem dX4_readAt_27 : decode cX4_readAt 27 = .ok (.goto 4, 3) := by decide +kernel
theorem dX4_readAt_30 : decode cX4_readAt 30 = .ok (.iconst (-1), 1) := by decide +kernel
theorem dX4_readAt_31 : decode cX4_readAt 31 = .ok (.ireturn, 1) := by decide +kernel
theorem dX4_sourceAt_0 : decode cX4_sourceAt 0 = .ok (.iload_n 1, 1) := by decide +kernel
theorem dX4_sourceAt_1 : decode cX4_sourceAt 1 = .ok (.ifCond .lt 29, 3) := by decide +kernel
theorem dX4_sourceAt_4 : decode cX4_sourceAt 4 = .ok (.iload_n 1, 1) := by decide +kernel
theorem dX4_sourceAt_5 : decode cX4_sourceAt 5 = .ok (.aload_n 0, 1) := by decide +kernel
theorem dX4_sourceAt_6 : decode cX4_sourceAt 6 = .ok (.getfield 18, 3) := by decide +kernel
theorem dX4_sourceAt_9 : decode cX4_sourceAt 9 = .ok (.if_icmp .ge 21, 3) := by decide +kernel
theorem dX4_sourceAt_12 : decode cX4_sourceAt 12 = .ok (.iload_n 1, 1) := by decide +kernel
theorem dX4_sourceAt_13 : decode cX4_sourceAt 13 = .ok (.aload_n 0, 1) := by decide +kernel
theorem dX4_sourceAt_14 : decode cX4_sourceAt 14 = .ok (.getfield 15, 3) := by decide +kernel
theorem dX4_sourceAt_17 : decode cX4_sourceAt 17 = .ok (.arraylength, 1) := by decide +kernel
theorem dX4_sourceAt_18 : decode cX4_sourceAt 18 = .ok (.if_icmp .ge 12, 3) := by decide +kernel
theorem dX4_sourceAt_21 : decode cX4_sourceAt 21 = .ok (.aload_n 0, 1) := by decide +kernel
theorem dX4_sourceAt_22 : decode cX4_sourceAt 22 = .ok (.getfield 15, 3) := by decide +kernel
theorem dX4_sourceAt_25 : decode cX4_sourceAt 25 = .ok (.iload_n 1, 1) := by decide +kernel
theorem dX4_sourceAt_26 : decode cX4_sourceAt 26 = .ok (.iaload, 1) := by decide +kernel
theorem dX4_sourceAt_27 : decode cX4_sourceAt 27 = .ok (.goto 4, 3) := by decide +kernel
theorem dX4_sourceAt_30 : decode cX4_sourceAt 30 = .ok (.iconst (-1), 1) := by decide +kernel
theorem dX4_sourceAt_31 : decode cX4_sourceAt 31 = .ok (.ireturn, 1) := by decide +kernel
set_option maxRecDepth 20000 in
theorem ggX4_begin_X4_splice : GoodIn wsX4_begin wsX4_splice := goodIn_r _ [6, 1, 7, 8, 9, 10, 11, 12, 13, 14, 15, 16, 17, 18, 19] (by decide +kernel) (by decide +kernel)
set_option maxRecDepth 20000 in
theorem gX4_begin_X4_splice : GoodIn wsX4_begin (wsV RX4 22 RX4 yX4_splice wsX4_splice) := goodIn_app (goodIn_of _ (by decide +kernel)) ggX4_begin_X4_splice
theorem dX4_begin_0 : decode cX4_begin 0 = .ok (.aload_n 0, 1) := by decide +kernel
theorem dX4_begin_1 : decode cX4_begin 1 = .ok (.iconst 0, 1) := by decide +kernel
theorem dX4_begin_2 : decode cX4_begin 2 = .ok (.putfield 18, 3) := by decide +kernel
theorem dX4_begin_5 : decode cX4_begin 5 = .ok (.aload_n 0, 1) := by decide +kernel
theorem dX4_begin_6 : decode cX4_begin 6 = .ok (.iconst 0, 1) := by decide +kernel
theorem dX4_begin_7 : decode cX4_begin 7 = .ok (.iconst 0, 1) := by decide +kernel
theorem dX4_begin_8 : decode cX4_begin 8 = .ok (.aload_n 1, 1) := by decide +kernel
theorem dX4_begin_9 : decode cX4_begin 9 = .ok (.iload_n 2, 1) := by decide +kernel
theorem dX4_begin_10 : decode cX4_begin 10 = .ok (.invokevirtual 22, 3) := by decide +kernel
theorem dX4_begin_13 : decode cX4_begin 13 = .ok (.ireturn, 1) := by decide +kernel
set_option maxRecDepth 20000 in
theorem ggX4_insert_X4_splice : GoodIn wsX4_insert wsX4_splice := goodIn_r _ [7, 2, 1, 8, 9, 10, 11, 12, 13, 14, 25, 26, 27, 23, 24] (by decide +kernel) (by decide +kernel)
set_option maxRecDepth 20000 in
theorem gX4_insert_X4_splice : GoodIn wsX4_insert (wsV RX4 22 RX4 yX4_splice wsX4_splice) := goodIn_app (goodIn_of _ (by decide +kernel)) ggX4_insert_X4_splice
set_option maxRecDepth 20000 in
theorem ggX4_insert_X4_find : GoodIn wsX4_insert wsX4_find := goodIn_r _ [18, 1, 2, 19, 20, 21, 6, 22, 8, 14, 23, 24, 25, 26, 27] (by decide +kernel) (by decide +kernel)
set_option maxRecDepth 20000 in
theorem gX4_insert_X4_find : GoodIn wsX4_insert (wsV RX4 29 RX4 yX4_find wsX4_find) := goodIn_app (goodIn_of _ (by decide +kernel)) ggX4_insert_X4_find
theorem dX4_insert_0 : decode cX4_insert 0 = .ok (.aload_n 1, 1) := by decide +kernel
theorem dX4_insert_1 : decode cX4_insert 1 = .ok (.getfield 26, 3) := by decide +kernel
theorem dX4_insert_4 : decode cX4_insert 4 = .ok (.ifCond .ne 15, 3) := by decide +kernel
theorem dX4_insert_7 : decode cX4_insert 7 = .ok (.aload_n 0, 1) := by decide +kernel
theorem dX4_insert_8 : decode cX4_insert 8 = .ok (.aload_n 0, 1) := by decide +kernel
theorem dX4_insert_9 : decode cX4_insert 9 = .ok (.getfield 18, 3) := by decide +kernel
theorem dX4_insert_12 : decode cX4_insert 12 = .ok (.iconst 0, 1) := by decide +kernel
theorem dX4_insert_13 : decode cX4_insert 13 = .ok (.aload_n 2, 1) := by decide +kernel
theorem dX4_insert_14 : decode cX4_insert 14 = .ok (.iload_n 3, 1) := by decide +kernel
theorem dX4_insert_15 : decode cX4_insert 15 = .ok (.invokevirtual 22, 3) := by decide +kernel
theorem dX4_insert_18 : decode cX4_insert 18 = .ok (.ireturn, 1) := by decide +kernel
theorem dX4_insert_19 : decode cX4_insert 19 = .ok (.aload_n 0, 1) := by decide +kernel
theorem dX4_insert_20 : decode cX4_insert 20 = .ok (.aload_n 1, 1) := by decide +kernel
theorem dX4_insert_21 : decode cX4_insert 21 = .ok (.iconst 0, 1) := by decide +kernel
theorem dX4_insert_22 : decode cX4_insert 22 = .ok (.invokevirtual 29, 3) := by decide +kernel
theorem dX4_insert_25 : decode cX4_insert 25 = .ok (.istore 4, 2) := by decide +kernel
theorem dX4_insert_27 : decode cX4_insert 27 = .ok (.iload 4, 2) := by decide +kernel
theorem dX4_insert_29 : decode cX4_insert 29 = .ok (.iconst (-1), 1) := by decide +kernel
theorem dX4_insert_30 : decode cX4_insert 30 = .ok (.if_icmp .eq 24, 3) := by decide +kernel
theorem dX4_insert_33 : decode cX4_insert 33 = .ok (.aload_n 0, 1) := by decide +kernel
theorem dX4_insert_34 : decode cX4_insert 34 = .ok (.iload 4, 2) := by decide +kernel
theorem dX4_insert_36 : decode cX4_insert 36 = .ok (.aload_n 1, 1) := by decide +kernel
theorem dX4_insert_37 : decode cX4_insert 37 = .ok (.getfield 26, 3) := by decide +kernel
theorem dX4_insert_40 : decode cX4_insert 40 = .ok (.iadd, 1) := by decide +kernel
theorem dX4_insert_41 : decode cX4_insert 41 = .ok (.iconst 0, 1) := by decide +kernel
theorem dX4_insert_42 : decode cX4_insert 42 = .ok (.aload_n 2, 1) := by decide +kernel
theorem dX4_insert_43 : decode cX4_insert 43 = .ok (.iload_n 3, 1) := by decide +kernel
theorem dX4_insert_44 : decode cX4_insert 44 = .ok (.invokevirtual 22, 3) := by decide +kernel
theorem dX4_insert_47 : decode cX4_insert 47 = .ok (.ifCond .eq 7, 3) := by decide +kernel
theorem dX4_insert_50 : decode cX4_insert 50 = .ok (.iconst 1, 1) := by decide +kernel
theorem dX4_insert_51 : decode cX4_insert 51 = .ok (.goto 4, 3) := by decide +kernel
theorem dX4_insert_54 : decode cX4_insert 54 = .ok (.iconst 0, 1) := by decide +kernel
theorem dX4_insert_55 : decode cX4_insert 55 = .ok (.ireturn, 1) := by decide +kernel
set_option maxRecDepth 20000 in
theorem ggX4_substitute_X4_find : GoodIn wsX4_substitute wsX4_find := goodIn_r _ [7, 1, 2, 8, 9, 10, 6, 11, 12, 13, 23, 24, 25, 26, 27] (by decide +kernel) (by decide +kernel)
set_option maxRecDepth 20000 in
theorem gX4_substitute_X4_find : GoodIn wsX4_substitute (wsV RX4 29 RX4 yX4_find wsX4_find) := goodIn_app (goodIn_of _ (by decide +kernel)) ggX4_substitute_X4_find
set_option maxRecDepth 20000 in
theorem ggX4_substitute_X4_splice : GoodIn wsX4_substitute wsX4_splice := goodIn_r _ [17, 2, 1, 12, 18, 19, 20, 21, 22, 13, 25, 26, 27, 23, 24] (by decide +kernel) (by decide +kernel)
set_option maxRecDepth 20000 in
theorem gX4_substitute_X4_splice : GoodIn wsX4_substitute (wsV RX4 22 RX4 yX4_splice wsX4_splice) := goodIn_app (goodIn_of _ (by decide +kernel)) ggX4_substitute_X4_splice
theorem dX4_substitute_0 : decode cX4_substitute 0 = .ok (.iconst 0, 1) := by decide +kernel
theorem dX4_substitute_1 : decode cX4_substitute 1 = .ok (.istore 4, 2) := by decide +kernel
theorem dX4_substitute_3 : decode cX4_substitute 3 = .ok (.aload_n 0, 1) := by decide +kernel
theorem dX4_substitute_4 : decode cX4_substitute 4 = .ok (.aload_n 1, 1) := by decide +kernel
theorem dX4_substitute_5 : decode cX4_substitute 5 = .ok (.iconst 0, 1) := by decide +kernel
theorem dX4_substitute_6 : decode cX4_substitute 6 = .ok (.invokevirtual 29, 3) := by decide +kernel
theorem dX4_substitute_9 : decode cX4_substitute 9 = .ok (.istore 5, 2) := by decide +kernel
theorem dX4_substitute_11 : decode cX4_substitute 11 = .ok (.iconst 0, 1) := by decide +kernel
theorem dX4_substitute_12 : decode cX4_substitute 12 = .ok (.istore 6, 2) := by decide +kernel
theorem dX4_substitute_14 : decode cX4_substitute 14 = .ok (.iload 6, 2) := by decide +kernel
theorem dX4_substitute_16 : decode cX4_substitute 16 = .ok (.bipush 12, 2) := by decide +kernel
theorem dX4_substitute_18 : decode cX4_substitute 18 = .ok (.if_icmp .ge 32, 3) := by decide +kernel
theorem dX4_substitute_21 : decode cX4_substitute 21 = .ok (.iload 5, 2) := by decide +kernel
theorem dX4_substitute_23 : decode cX4_substitute 23 = .ok (.iconst (-1), 1) := by decide +kernel
theorem dX4_substitute_24 : decode cX4_substitute 24 = .ok (.if_icmp .eq 26, 3) := by decide +kernel
theorem dX4_substitute_27 : decode cX4_substitute 27 = .ok (.iinc 4 1, 3) := by decide +kernel
theorem dX4_substitute_30 : decode cX4_substitute 30 = .ok (.aload_n 0, 1) := by decide +kernel
theorem dX4_substitute_31 : decode cX4_substitute 31 = .ok (.aload_n 1, 1) := by decide +kernel
theorem dX4_substitute_32 : decode cX4_substitute 32 = .ok (.iload 5, 2) := by decide +kernel
theorem dX4_substitute_34 : decode cX4_substitute 34 = .ok (.aload_n 1, 1) := by decide +kernel
theorem dX4_substitute_35 : decode cX4_substitute 35 = .ok (.getfield 26, 3) := by decide +kernel
theorem dX4_substitute_38 : decode cX4_substitute 38 = .ok (.iadd, 1) := by decide +kernel
theorem dX4_substitute_39 : decode cX4_substitute 39 = .ok (.invokevirtual 29, 3) := by decide +kernel
theorem dX4_substitute_42 : decode cX4_substitute 42 = .ok (.istore 5, 2) := by decide +kernel
theorem dX4_substitute_44 : decode cX4_substitute 44 = .ok (.iinc 6 1, 3) := by decide +kernel
theorem dX4_substitute_47 : decode cX4_substitute 47 = .ok (.goto (-33), 3) := by decide +kernel
theorem dX4_substitute_50 : decode cX4_substitute 50 = .ok (.iload 4, 2) := by decide +kernel
theorem dX4_substitute_52 : decode cX4_substitute 52 = .ok (.ifCond .eq 25, 3) := by decide +kernel
theorem dX4_substitute_55 : decode cX4_substitute 55 = .ok (.aload_n 0, 1) := by decide +kernel
theorem dX4_substitute_56 : decode cX4_substitute 56 = .ok (.getfield 18, 3) := by decide +kernel
theorem dX4_substitute_59 : decode cX4_substitute 59 = .ok (.iload 4, 2) := by decide +kernel
theorem dX4_substitute_61 : decode cX4_substitute 61 = .ok (.aload_n 2, 1) := by decide +kernel
theorem dX4_substitute_62 : decode cX4_substitute 62 = .ok (.getfield 26, 3) := by decide +kernel
theorem dX4_substitute_65 : decode cX4_substitute 65 = .ok (.aload_n 1, 1) := by decide +kernel
theorem dX4_substitute_66 : decode cX4_substitute 66 = .ok (.getfield 26, 3) := by decide +kernel
theorem dX4_substitute_69 : decode cX4_substitute 69 = .ok (.isub, 1) := by decide +kernel
theorem dX4_substitute_70 : decode cX4_substitute 70 = .ok (.imul, 1) := by decide +kernel
theorem dX4_substitute_71 : decode cX4_substitute 71 = .ok (.iadd, 1) := by decide +kernel
theorem dX4_substitute_72 : decode cX4_substitute 72 = .ok (.bipush 12, 2) := by decide +kernel
theorem dX4_substitute_74 : decode cX4_substitute 74 = .ok (.if_icmp .le 5, 3) := by decide +kernel
theorem dX4_substitute_77 : decode cX4_substitute 77 = .ok (.iconst 0, 1) := by decide +kernel
theorem dX4_substitute_78 : decode cX4_substitute 78 = .ok (.ireturn, 1) := by decide +kernel
theorem dX4_substitute_79 : decode cX4_substitute 79 = .ok (.iconst 0, 1) := by decide +kernel
theorem dX4_substitute_80 : decode cX4_substitute 80 = .ok (.istore 6, 2) := by decide +kernel
theorem dX4_substitute_82 : decode cX4_substitute 82 = .ok (.iconst 0, 1) := by decide +kernel
theorem dX4_substitute_83 : decode cX4_substitute 83 = .ok (.istore 7, 2) := by decide +kernel
theorem dX4_substitute_85 : decode cX4_substitute 85 = .ok (.iload 7, 2) := by decide +kernel
theorem dX4_substitute_87 : decode cX4_substitute 87 = .ok (.iload 4, 2) := by decide +kernel
theorem dX4_substitute_89 : decode cX4_substitute 89 = .ok (.if_icmp .ge 40, 3) := by decide +kernel
theorem dX4_substitute_92 : decode cX4_substitute 92 = .ok (.aload_n 0, 1) := by decide +kernel
theorem dX4_substitute_93 : decode cX4_substitute 93 = .ok (.aload_n 1, 1) := by decide +kernel
theorem dX4_substitute_94 : decode cX4_substitute 94 = .ok (.iload 6, 2) := by decide +kernel
theorem dX4_substitute_96 : decode cX4_substitute 96 = .ok (.invokevirtual 29, 3) := by decide +kernel
theorem dX4_substitute_99 : decode cX4_substitute 99 = .ok (.istore 5, 2) := by decide +kernel
theorem dX4_substitute_101 : decode cX4_substitute 101 = .ok (.aload_n 0, 1) := by decide +kernel
theorem dX4_substitute_102 : decode cX4_substitute 102 = .ok (.iload 5, 2) := by decide +kernel
theorem dX4_substitute_104 : decode cX4_substitute 104 = .ok (.aload_n 1, 1) := by decide +kernel
theorem dX4_substitute_105 : decode cX4_substitute 105 = .ok (.getfield 26, 3) := by decide +kernel
theorem dX4_substitute_108 : decode cX4_substitute 108 = .ok (.aload_n 2, 1) := by decide +kernel
theorem dX4_substitute_109 : decode cX4_substitute 109 = .ok (.iload_n 3, 1) := by decide +kernel
theorem dX4_substitute_110 : decode cX4_substitute 110 = .ok (.invokevirtual 22, 3) := by decide +kernel
theorem dX4_substitute_113 : decode cX4_substitute 113 = .ok (.pop, 1) := by decide +kernel
theorem dX4_substitute_114 : decode cX4_substitute 114 = .ok (.iload 5, 2) := by decide +kernel
theorem dX4_substitute_116 : decode cX4_substitute 116 = .ok (.aload_n 2, 1) := by decide +kernel
theorem dX4_substitute_117 : decode cX4_substitute 117 = .ok (.getfield 26, 3) := by decide +kernel
theorem dX4_substitute_120 : decode cX4_substitute 120 = .ok (.iadd, 1) := by decide +kernel
theorem dX4_substitute_121 : decode cX4_substitute 121 = .ok (.istore 6, 2) := by decide +kernel
theorem dX4_substitute_123 : decode cX4_substitute 123 = .ok (.iinc 7 1, 3) := by decide +kernel
theorem dX4_substitute_126 : decode cX4_substitute 126 = .ok (.goto (-41), 3) := by decide +kernel
theorem dX4_substitute_129 : decode cX4_substitute 129 = .ok (.iconst 1, 1) := by decide +kernel
theorem dX4_substitute_130 : decode cX4_substitute 130 = .ok (.ireturn, 1) := by decide +kernel
set_option maxRecDepth 20000 in
theorem ggX4_omit_X4_find : GoodIn wsX4_omit wsX4_find := goodIn_r _ [6, 7, 1, 8, 9, 10, 5, 11, 12, 13, 17, 18, 14, 15, 16] (by decide +kernel) (by decide +kernel)
set_option maxRecDepth 20000 in
theorem gX4_omit_X4_find : GoodIn wsX4_omit (wsV RX4 29 RX4 yX4_find wsX4_find) := goodIn_app (goodIn_of _ (by decide +kernel)) ggX4_omit_X4_find
theorem dX4_omit_0 : decode cX4_omit 0 = .ok (.aload_n 0, 1) := by decide +kernel
theorem dX4_omit_1 : decode cX4_omit 1 = .ok (.aload_n 1, 1) := by decide +kernel
theorem dX4_omit_2 : decode cX4_omit 2 = .ok (.iconst 0, 1) := by decide +kernel
theorem dX4_omit_3 : decode cX4_omit 3 = .ok (.invokevirtual 29, 3) := by decide +kernel
theorem dX4_omit_6 : decode cX4_omit 6 = .ok (.istore_n 2, 1) := by decide +kernel
theorem dX4_omit_7 : decode cX4_omit 7 = .ok (.iload_n 2, 1) := by decide +kernel
theorem dX4_omit_8 : decode cX4_omit 8 = .ok (.iconst (-1), 1) := by decide +kernel
theorem dX4_omit_9 : decode cX4_omit 9 = .ok (.if_icmp .ne 5, 3) := by decide +kernel
theorem dX4_omit_12 : decode cX4_omit 12 = .ok (.iconst 0, 1) := by decide +kernel
theorem dX4_omit_13 : decode cX4_omit 13 = .ok (.ireturn, 1) := by decide +kernel
theorem dX4_omit_14 : decode cX4_omit 14 = .ok (.aload_n 0, 1) := by decide +kernel
theorem dX4_omit_15 : decode cX4_omit 15 = .ok (.iload_n 2, 1) := by decide +kernel
theorem dX4_omit_16 : decode cX4_omit 16 = .ok (.putfield 18, 3) := by decide +kernel
theorem dX4_omit_19 : decode cX4_omit 19 = .ok (.iconst 1, 1) := by decide +kernel
theorem dX4_omit_20 : decode cX4_omit 20 = .ok (.ireturn, 1) := by decide +kernel
set_option maxRecDepth 20000 in
theorem ggX4_find_X4_holdsAt : GoodIn wsX4_find wsX4_holdsAt := goodIn_r _ [7, 1, 8, 9, 10, 11, 12, 13, 14] (by decide +kernel) (by decide +kernel)
set_option maxRecDepth 20000 in
theorem gX4_find_X4_holdsAt : GoodIn wsX4_find (wsV RX4 33 RX4 yX4_holdsAt wsX4_holdsAt) := goodIn_app (goodIn_of _ (by decide +kernel)) ggX4_find_X4_holdsAt
theorem dX4_find_0 : decode cX4_find 0 = .ok (.iload_n 2, 1) := by decide +kernel
theorem dX4_find_1 : decode cX4_find 1 = .ok (.istore_n 3, 1) := by decide +kernel
theorem dX4_find_2 : decode cX4_find 2 = .ok (.iload_n 3, 1) := by decide +kernel
theorem dX4_find_3 : decode cX4_find 3 = .ok (.aload_n 1, 1) := by decide +kernel
theorem dX4_find_4 : decode cX4_find 4 = .ok (.getfield 26, 3) := by decide +kernel
theorem dX4_find_7 : decode cX4_find 7 = .ok (.iadd, 1) := by decide +kernel
theorem dX4_find_8 : decode cX4_find 8 = .ok (.aload_n 0, 1) := by decide +kernel
theorem dX4_find_9 : decode cX4_find 9 = .ok (.getfield 18, 3) := by decide +kernel
theorem dX4_find_12 : decode cX4_find 12 = .ok (.if_icmp .gt 20, 3) := by decide +kernel
theorem dX4_find_15 : decode cX4_find 15 = .ok (.aload_n 0, 1) := by decide +kernel
theorem dX4_find_16 : decode cX4_find 16 = .ok (.aload_n 1, 1) := by decide +kernel
theorem dX4_find_17 : decode cX4_find 17 = .ok (.iload_n 3, 1) := by decide +kernel
theorem dX4_find_18 : decode cX4_find 18 = .ok (.invokevirtual 33, 3) := by decide +kernel
theorem dX4_find_21 : decode cX4_find 21 = .ok (.ifCond .eq 5, 3) := by decide +kernel
theorem dX4_find_24 : decode cX4_find 24 = .ok (.iload_n 3, 1) := by decide +kernel
theorem dX4_find_25 : decode cX4_find 25 = .ok (.ireturn, 1) := by decide +kernel
theorem dX4_find_26 : decode cX4_find 26 = .ok (.iinc 3 1, 3) := by decide +kernel
theorem dX4_find_29 : decode cX4_find 29 = .ok (.goto (-27), 3) := by decide +kernel
theorem dX4_find_32 : decode cX4_find 32 = .ok (.iconst (-1), 1) := by decide +kernel
theorem dX4_find_33 : decode cX4_find 33 = .ok (.ireturn, 1) := by decide +kernel
theorem dX4_holdsAt_0 : decode cX4_holdsAt 0 = .ok (.iload_n 2, 1) := by decide +kernel
theorem dX4_holdsAt_1 : decode cX4_holdsAt 1 = .ok (.ifCond .lt 17, 3) := by decide +kernel
theorem dX4_holdsAt_4 : decode cX4_holdsAt 4 = .ok (.iload_n 2, 1) := by decide +kernel
theorem dX4_holdsAt_5 : decode cX4_holdsAt 5 = .ok (.aload_n 1, 1) := by decide +kernel
theorem dX4_holdsAt_6 : decode cX4_holdsAt 6 = .ok (.getfield 26, 3) := by decide +kernel
theorem dX4_holdsAt_9 : decode cX4_holdsAt 9 = .ok (.iadd, 1) := by decide +kernel
theorem dX4_holdsAt_10 : decode cX4_holdsAt 10 = .ok (.aload_n 0, 1) := by decide +kernel
theorem dX4_holdsAt_11 : decode cX4_holdsAt 11 = .ok (.getfield 9, 3) := by decide +kernel
theorem dX4_holdsAt_14 : decode cX4_holdsAt 14 = .ok (.arraylength, 1) := by decide +kernel
theorem dX4_holdsAt_15 : decode cX4_holdsAt 15 = .ok (.if_icmp .le 5, 3) := by decide +kernel
theorem dX4_holdsAt_18 : decode cX4_holdsAt 18 = .ok (.iconst 0, 1) := by decide +kernel
theorem dX4_holdsAt_19 : decode cX4_holdsAt 19 = .ok (.ireturn, 1) := by decide +kernel
theorem dX4_holdsAt_20 : decode cX4_holdsAt 20 = .ok (.iconst 0, 1) := by decide +kernel
theorem dX4_holdsAt_21 : decode cX4_holdsAt 21 = .ok (.istore_n 3, 1) := by decide +kernel
theorem dX4_holdsAt_22 : decode cX4_holdsAt 22 = .ok (.iload_n 3, 1) := by decide +kernel
theorem dX4_holdsAt_23 : decode cX4_holdsAt 23 = .ok (.aload_n 1, 1) := by decide +kernel
theorem dX4_holdsAt_24 : decode cX4_holdsAt 24 = .ok (.getfield 26, 3) := by decide +kernel
theorem dX4_holdsAt_27 : decode cX4_holdsAt 27 = .ok (.if_icmp .ge 28, 3) := by decide +kernel
theorem dX4_holdsAt_30 : decode cX4_holdsAt 30 = .ok (.aload_n 0, 1) := by decide +kernel
theorem dX4_holdsAt_31 : decode cX4_holdsAt 31 = .ok (.getfield 9, 3) := by decide +kernel
theorem dX4_holdsAt_34 : decode cX4_holdsAt 34 = .ok (.iload_n 2, 1) := by decide +kernel
theorem dX4_holdsAt_35 : decode cX4_holdsAt 35 = .ok (.iload_n 3, 1) := by decide +kernel
theorem dX4_holdsAt_36 : decode cX4_holdsAt 36 = .ok (.iadd, 1) := by decide +kernel
theorem dX4_holdsAt_37 : decode cX4_holdsAt 37 = .ok (.iaload, 1) := by decide +kernel
theorem dX4_holdsAt_38 : decode cX4_holdsAt 38 = .ok (.aload_n 1, 1) := by decide +kernel
theorem dX4_holdsAt_39 : decode cX4_holdsAt 39 = .ok (.getfield 37, 3) := by decide +kernel
theorem dX4_holdsAt_42 : decode cX4_holdsAt 42 = .ok (.iload_n 3, 1) := by decide +kernel
theorem dX4_holdsAt_43 : decode cX4_holdsAt 43 = .ok (.iaload, 1) := by decide +kernel
theorem dX4_holdsAt_44 : decode cX4_holdsAt 44 = .ok (.if_icmp .eq 5, 3) := by decide +kernel
theorem dX4_holdsAt_47 : decode cX4_holdsAt 47 = .ok (.iconst 0, 1) := by decide +kernel
theorem dX4_holdsAt_48 : decode cX4_holdsAt 48 = .ok (.ireturn, 1) := by decide +kernel
theorem dX4_holdsAt_49 : decode cX4_holdsAt 49 = .ok (.iinc 3 1, 3) := by decide +kernel
theorem dX4_holdsAt_52 : decode cX4_holdsAt 52 = .ok (.goto (-30), 3) := by decide +kernel
theorem dX4_holdsAt_55 : decode cX4_holdsAt 55 = .ok (.iconst 1, 1) := by decide +kernel
theorem dX4_holdsAt_56 : decode cX4_holdsAt 56 = .ok (.ireturn, 1) := by decide +kernel
theorem dX4_splice_0 : decode cX4_splice 0 = .ok (.aload_n 0, 1) := by decide +kernel
theorem dX4_splice_1 : decode cX4_splice 1 = .ok (.getfield 18, 3) := by decide +kernel
theorem dX4_splice_4 : decode cX4_splice 4 = .ok (.iload_n 1, 1) := by decide +kernel
theorem dX4_splice_5 : decode cX4_splice 5 = .ok (.isub, 1) := by decide +kernel
theorem dX4_splice_6 : decode cX4_splice 6 = .ok (.iload_n 2, 1) := by decide +kernel
theorem dX4_splice_7 : decode cX4_splice 7 = .ok (.isub, 1) := by decide +kernel
theorem dX4_splice_8 : decode cX4_splice 8 = .ok (.istore 5, 2) := by decide +kernel
theorem dX4_splice_10 : decode cX4_splice 10 = .ok (.iload_n 1, 1) := by decide +kernel
theorem dX4_splice_11 : decode cX4_splice 11 = .ok (.aload_n 3, 1) := by decide +kernel
theorem dX4_splice_12 : decode cX4_splice 12 = .ok (.getfield 26, 3) := by decide +kernel
theorem dX4_splice_15 : decode cX4_splice 15 = .ok (.iadd, 1) := by decide +kernel
theorem dX4_splice_16 : decode cX4_splice 16 = .ok (.istore 6, 2) := by decide +kernel
theorem dX4_splice_18 : decode cX4_splice 18 = .ok (.iload_n 1, 1) := by decide +kernel
theorem dX4_splice_19 : decode cX4_splice 19 = .ok (.ifCond .lt 22, 3) := by decide +kernel
theorem dX4_splice_22 : decode cX4_splice 22 = .ok (.iload_n 2, 1) := by decide +kernel
theorem dX4_splice_23 : decode cX4_splice 23 = .ok (.ifCond .lt 18, 3) := by decide +kernel
theorem dX4_splice_26 : decode cX4_splice 26 = .ok (.iload 5, 2) := by decide +kernel
theorem dX4_splice_28 : decode cX4_splice 28 = .ok (.ifCond .lt 13, 3) := by decide +kernel
theorem dX4_splice_31 : decode cX4_splice 31 = .ok (.iload 6, 2) := by decide +kernel
theorem dX4_splice_33 : decode cX4_splice 33 = .ok (.iload 5, 2) := by decide +kernel
theorem dX4_splice_35 : decode cX4_splice 35 = .ok (.iadd, 1) := by decide +kernel
theorem dX4_splice_36 : decode cX4_splice 36 = .ok (.bipush 12, 2) := by decide +kernel
theorem dX4_splice_38 : decode cX4_splice 38 = .ok (.if_icmp .le 5, 3) := by decide +kernel
theorem dX4_splice_41 : decode cX4_splice 41 = .ok (.iconst 0, 1) := by decide +kernel
theorem dX4_splice_42 : decode cX4_splice 42 = .ok (.ireturn, 1) := by decide +kernel
theorem dX4_splice_43 : decode cX4_splice 43 = .ok (.aload_n 0, 1) := by decide +kernel
theorem dX4_splice_44 : decode cX4_splice 44 = .ok (.getfield 9, 3) := by decide +kernel
theorem dX4_splice_47 : decode cX4_splice 47 = .ok (.iload_n 1, 1) := by decide +kernel
theorem dX4_splice_48 : decode cX4_splice 48 = .ok (.iload_n 2, 1) := by decide +kernel
theorem dX4_splice_49 : decode cX4_splice 49 = .ok (.iadd, 1) := by decide +kernel
theorem dX4_splice_50 : decode cX4_splice 50 = .ok (.aload_n 0, 1) := by decide +kernel
theorem dX4_splice_51 : decode cX4_splice 51 = .ok (.getfield 9, 3) := by decide +kernel
theorem dX4_splice_54 : decode cX4_splice 54 = .ok (.iload 6, 2) := by decide +kernel
theorem dX4_splice_56 : decode cX4_splice 56 = .ok (.iload 5, 2) := by decide +kernel
theorem dX4_splice_58 : decode cX4_splice 58 = .ok (.invokestatic 40, 3) := by decide +kernel
theorem dX4_splice_61 : decode cX4_splice 61 = .ok (.aload_n 0, 1) := by decide +kernel
theorem dX4_splice_62 : decode cX4_splice 62 = .ok (.getfield 15, 3) := by decide +kernel
theorem dX4_splice_65 : decode cX4_splice 65 = .ok (.iload_n 1, 1) := by decide +kernel
theorem dX4_splice_66 : decode cX4_splice 66 = .ok (.iload_n 2, 1) := by decide +kernel
theorem dX4_splice_67 : decode cX4_splice 67 = .ok (.iadd, 1) := by decide +kernel
theorem dX4_splice_68 : decode cX4_splice 68 = .ok (.aload_n 0, 1) := by decide +kernel
theorem dX4_splice_69 : decode cX4_splice 69 = .ok (.getfield 15, 3) := by decide +kernel
theorem dX4_splice_72 : decode cX4_splice 72 = .ok (.iload 6, 2) := by decide +kernel
theorem dX4_splice_74 : decode cX4_splice 74 = .ok (.iload 5, 2) := by decide +kernel
theorem dX4_splice_76 : decode cX4_splice 76 = .ok (.invokestatic 40, 3) := by decide +kernel
theorem dX4_splice_79 : decode cX4_splice 79 = .ok (.iconst 0, 1) := by decide +kernel
theorem dX4_splice_80 : decode cX4_splice 80 = .ok (.istore 7, 2) := by decide +kernel
theorem dX4_splice_82 : decode cX4_splice 82 = .ok (.iload 7, 2) := by decide +kernel
theorem dX4_splice_84 : decode cX4_splice 84 = .ok (.aload_n 3, 1) := by decide +kernel
theorem dX4_splice_85 : decode cX4_splice 85 = .ok (.getfield 26, 3) := by decide +kernel
theorem dX4_splice_88 : decode cX4_splice 88 = .ok (.if_icmp .ge 36, 3) := by decide +kernel
theorem dX4_splice_91 : decode cX4_splice 91 = .ok (.aload_n 0, 1) := by decide +kernel
theorem dX4_splice_92 : decode cX4_splice 92 = .ok (.getfield 9, 3) := by decide +kernel
theorem dX4_splice_95 : decode cX4_splice 95 = .ok (.iload_n 1, 1) := by decide +kernel
theorem dX4_splice_96 : decode cX4_splice 96 = .ok (.iload 7, 2) := by decide +kernel
theorem dX4_splice_98 : decode cX4_splice 98 = .ok (.iadd, 1) := by decide +kernel
theorem dX4_splice_99 : decode cX4_splice 99 = .ok (.aload_n 3, 1) := by decide +kernel
theorem dX4_splice_100 : decode cX4_splice 100 = .ok (.getfield 37, 3) := by decide +kernel
theorem dX4_splice_103 : decode cX4_splice 103 = .ok (.iload 7, 2) := by decide +kernel
theorem dX4_splice_105 : decode cX4_splice 105 = .ok (.iaload, 1) := by decide +kernel
theorem dX4_splice_106 : decode cX4_splice 106 = .ok (.iastore, 1) := by decide +kernel
theorem dX4_splice_107 : decode cX4_splice 107 = .ok (.aload_n 0, 1) := by decide +kernel
theorem dX4_splice_108 : decode cX4_splice 108 = .ok (.getfield 15, 3) := by decide +kernel
theorem dX4_splice_111 : decode cX4_splice 111 = .ok (.iload_n 1, 1) := by decide +kernel
theorem dX4_splice_112 : decode cX4_splice 112 = .ok (.iload 7, 2) := by decide +kernel
theorem dX4_splice_114 : decode cX4_splice 114 = .ok (.iadd, 1) := by decide +kernel
theorem dX4_splice_115 : decode cX4_splice 115 = .ok (.iload 4, 2) := by decide +kernel
theorem dX4_splice_117 : decode cX4_splice 117 = .ok (.iastore, 1) := by decide +kernel
theorem dX4_splice_118 : decode cX4_splice 118 = .ok (.iinc 7 1, 3) := by decide +kernel
theorem dX4_splice_121 : decode cX4_splice 121 = .ok (.goto (-39), 3) := by decide +kernel
theorem dX4_splice_124 : decode cX4_splice 124 = .ok (.aload_n 0, 1) := by decide +kernel
theorem dX4_splice_125 : decode cX4_splice 125 = .ok (.iload 6, 2) := by decide +kernel
theorem dX4_splice_127 : decode cX4_splice 127 = .ok (.iload 5, 2) := by decide +kernel
theorem dX4_splice_129 : decode cX4_splice 129 = .ok (.iadd, 1) := by decide +kernel
theorem dX4_splice_130 : decode cX4_splice 130 = .ok (.putfield 18, 3) := by decide +kernel
theorem dX4_splice_133 : decode cX4_splice 133 = .ok (.iconst 1, 1) := by decide +kernel
theorem dX4_splice_134 : decode cX4_splice 134 = .ok (.ireturn, 1) := by decide +kernel
set_option maxRecDepth 20000 in
theorem ggX5_init_Jx4a65c_init_da8c8 : GoodIn wsX5_init wsJx4a65c_init_da8c8 := goodIn_r _ [27, 28, 29, 30, 31, 32, 33, 34, 35, 36, 37, 38, 39, 2, 3, 58, 59, 60] (by decide +kernel) (by decide +kernel)
set_option maxRecDepth 20000 in
theorem gX5_init_Jx4a65c_init_da8c8 : GoodIn wsX5_init (wsJx4a65c_init_da8c8) := ggX5_init_Jx4a65c_init_da8c8
set_option maxRecDepth 20000 in
theorem ggX5_init_X4_init : GoodIn wsX5_init wsX4_init := goodIn_r _ [41, 42, 2, 3, 8, 43, 44, 45, 74, 75, 76] (by decide +kernel) (by decide +kernel)
set_option maxRecDepth 20000 in
theorem gX5_init_X4_init_n43 : GoodIn wsX5_init (wsX4_init) := ggX5_init_X4_init
set_option maxRecDepth 20000 in
theorem ggX5_init_X5_clear : GoodIn wsX5_init wsX5_clear := goodIn_r _ [50, 7, 21, 9, 10, 12, 13, 14, 51, 52, 53, 6, 54, 55, 56, 29, 57, 61, 62, 63, 64, 65, 66, 67, 68, 69, 70, 71, 72, 73, 58, 59, 60] (by decide +kernel) (by decide +kernel)
set_option maxRecDepth 20000 in
theorem gX5_init_X5_clear : GoodIn wsX5_init (wsV RX5 64 RX5 yX5_clear wsX5_clear) := goodIn_app (goodIn_of _ (by decide +kernel)) ggX5_init_X5_clear
theorem dX5_init_0 : decode cX5_init 0 = .ok (.aload_n 0, 1) := by decide +kernel
theorem dX5_init_1 : decode cX5_init 1 = .ok (.invokespecial 3, 3) := by decide +kernel
theorem dX5_init_4 : decode cX5_init 4 = .ok (.aload_n 0, 1) := by decide +kernel
theorem dX5_init_5 : decode cX5_init 5 = .ok (.new 9, 3) := by decide +kernel
theorem dX5_init_8 : decode cX5_init 8 = .ok (.dup, 1) := by decide +kernel
theorem dX5_init_9 : decode cX5_init 9 = .ok (.invokespecial 11, 3) := by decide +kernel
theorem dX5_init_12 : decode cX5_init 12 = .ok (.putfield 12, 3) := by decide +kernel
theorem dX5_init_15 : decode cX5_init 15 = .ok (.aload_n 0, 1) := by decide +kernel
theorem dX5_init_16 : decode cX5_init 16 = .ok (.bipush 40, 2) := by decide +kernel
theorem dX5_init_18 : decode cX5_init 18 = .ok (.newarray .int, 2) := by decide +kernel
theorem dX5_init_20 : decode cX5_init 20 = .ok (.putfield 18, 3) := by decide +kernel
theorem dX5_init_23 : decode cX5_init 23 = .ok (.aload_n 0, 1) := by decide +kernel
theorem dX5_init_24 : decode cX5_init 24 = .ok (.bipush 40, 2) := by decide +kernel
theorem dX5_init_26 : decode cX5_init 26 = .ok (.newarray .int, 2) := by decide +kernel
theorem dX5_init_28 : decode cX5_init 28 = .ok (.putfield 22, 3) := by decide +kernel
theorem dX5_init_31 : decode cX5_init 31 = .ok (.aload_n 0, 1) := by decide +kernel
theorem dX5_init_32 : decode cX5_init 32 = .ok (.bipush 40, 2) := by decide +kernel
theorem dX5_init_34 : decode cX5_init 34 = .ok (.anewarray 25, 3) := by decide +kernel
theorem dX5_init_37 : decode cX5_init 37 = .ok (.putfield 27, 3) := by decide +kernel
theorem dX5_init_40 : decode cX5_init 40 = .ok (.aload_n 0, 1) := by decide +kernel
theorem dX5_init_41 : decode cX5_init 41 = .ok (.bipush 20, 2) := by decide +kernel
theorem dX5_init_43 : decode cX5_init 43 = .ok (.newarray .int, 2) := by decide +kernel
theorem dX5_init_45 : decode cX5_init 45 = .ok (.putfield 31, 3) := by decide +kernel
theorem dX5_init_48 : decode cX5_init 48 = .ok (.aload_n 0, 1) := by decide +kernel
theorem dX5_init_49 : decode cX5_init 49 = .ok (.bipush 20, 2) := by decide +kernel
theorem dX5_init_51 : decode cX5_init 51 = .ok (.newarray .int, 2) := by decide +kernel
theorem dX5_init_53 : decode cX5_init 53 = .ok (.putfield 34, 3) := by decide +kernel
theorem dX5_init_56 : decode cX5_init 56 = .ok (.aload_n 0, 1) := by decide +kernel
theorem dX5_init_57 : decode cX5_init 57 = .ok (.bipush 20, 2) := by decide +kernel
theorem dX5_init_59 : decode cX5_init 59 = .ok (.anewarray 37, 3) := by decide +kernel
theorem dX5_init_62 : decode cX5_init 62 = .ok (.putfield 39, 3) := by decide +kernel
theorem dX5_init_65 : decode cX5_init 65 = .ok (.aload_n 0, 1) := by decide +kernel
theorem dX5_init_66 : decode cX5_init 66 = .ok (.new 37, 3) := by decide +kernel
theorem dX5_init_69 : decode cX5_init 69 = .ok (.dup, 1) := by decide +kernel
theorem dX5_init_70 : decode cX5_init 70 = .ok (.invokespecial 43, 3) := by decide +kernel
theorem dX5_init_73 : decode cX5_init 73 = .ok (.putfield 44, 3) := by decide +kernel
theorem dX5_init_76 : decode cX5_init 76 = .ok (.aload_n 0, 1) := by decide +kernel
theorem dX5_init_77 : decode cX5_init 77 = .ok (.bipush 20, 2) := by decide +kernel
theorem dX5_init_79 : decode cX5_init 79 = .ok (.newarray .int, 2) := by decide +kernel
theorem dX5_init_81 : decode cX5_init 81 = .ok (.putfield 48, 3) := by decide +kernel
theorem dX5_init_84 : decode cX5_init 84 = .ok (.aload_n 0, 1) := by decide +kernel
theorem dX5_init_85 : decode cX5_init 85 = .ok (.iconst 0, 1) := by decide +kernel
theorem dX5_init_86 : decode cX5_init 86 = .ok (.putfield 51, 3) := by decide +kernel
theorem dX5_init_89 : decode cX5_init 89 = .ok (.aload_n 0, 1) := by decide +kernel
theorem dX5_init_90 : decode cX5_init 90 = .ok (.iconst 0, 1) := by decide +kernel
theorem dX5_init_91 : decode cX5_init 91 = .ok (.putfield 55, 3) := by decide +kernel
theorem dX5_init_94 : decode cX5_init 94 = .ok (.aload_n 0, 1) := by decide +kernel
theorem dX5_init_95 : decode cX5_init 95 = .ok (.iconst 0, 1) := by decide +kernel
theorem dX5_init_96 : decode cX5_init 96 = .ok (.putfield 58, 3) := by decide +kernel
theorem dX5_init_99 : decode cX5_init 99 = .ok (.aload_n 0, 1) := by decide +kernel
theorem dX5_init_100 : decode cX5_init 100 = .ok (.iconst 0, 1) := by decide +kernel
theorem dX5_init_101 : decode cX5_init 101 = .ok (.putfield 61, 3) := by decide +kernel
theorem dX5_init_104 : decode cX5_init 104 = .ok (.iconst 0, 1) := by decide +kernel
theorem dX5_init_105 : decode cX5_init 105 = .ok (.istore_n 1, 1) := by decide +kernel
theorem dX5_init_106 : decode cX5_init 106 = .ok (.iload_n 1, 1) := by decide +kernel
theorem dX5_init_107 : decode cX5_init 107 = .ok (.aload_n 0, 1) := by decide +kernel
theorem dX5_init_108 : decode cX5_init 108 = .ok (.getfield 39, 3) := by decide +kernel
theorem dX5_init_111 : decode cX5_init 111 = .ok (.arraylength, 1) := by decide +kernel
theorem dX5_init_112 : decode cX5_init 112 = .ok (.if_icmp .ge 22, 3) := by decide +kernel
theorem dX5_init_115 : decode cX5_init 115 = .ok (.aload_n 0, 1) := by decide +kernel
theorem dX5_init_116 : decode cX5_init 116 = .ok (.getfield 39, 3) := by decide +kernel
theorem dX5_init_119 : decode cX5_init 119 = .ok (.iload_n 1, 1) := by decide +kernel
theorem dX5_init_120 : decode cX5_init 120 = .ok (.new 37, 3) := by decide +kernel
theorem dX5_init_123 : decode cX5_init 123 = .ok (.dup, 1) := by decide +kernel
theorem dX5_init_124 : decode cX5_init 124 = .ok (.invokespecial 43, 3) := by decide +kernel
theorem dX5_init_127 : decode cX5_init 127 = .ok (.aastore, 1) := by decide +kernel
theorem dX5_init_128 : decode cX5_init 128 = .ok (.iinc 1 1, 3) := by decide +kernel
theorem dX5_init_131 : decode cX5_init 131 = .ok (.goto (-25), 3) := by decide +kernel
theorem dX5_init_134 : decode cX5_init 134 = .ok (.aload_n 0, 1) := by decide +kernel
theorem dX5_init_135 : decode cX5_init 135 = .ok (.invokevirtual 64, 3) := by decide +kernel
theorem dX5_init_138 : decode cX5_init 138 = .ok (.return_, 1) := by decide +kernel
theorem dX5_turnTo_0 : decode cX5_turnTo 0 = .ok (.aload_n 0, 1) := by decide +kernel
theorem dX5_turnTo_1 : decode cX5_turnTo 1 = .ok (.iload_n 1, 1) := by decide +kernel
theorem dX5_turnTo_2 : decode cX5_turnTo 2 = .ok (.putfield 55, 3) := by decide +kernel
theorem dX5_turnTo_5 : decode cX5_turnTo 5 = .ok (.aload_n 0, 1) := by decide +kernel
theorem dX5_turnTo_6 : decode cX5_turnTo 6 = .ok (.iload_n 2, 1) := by decide +kernel
theorem dX5_turnTo_7 : decode cX5_turnTo 7 = .ok (.putfield 58, 3) := by decide +kernel
theorem dX5_turnTo_10 : decode cX5_turnTo 10 = .ok (.aload_n 0, 1) := by decide +kernel
theorem dX5_turnTo_11 : decode cX5_turnTo 11 = .ok (.iload_n 3, 1) := by decide +kernel
theorem dX5_turnTo_12 : decode cX5_turnTo 12 = .ok (.putfield 61, 3) := by decide +kernel
theorem dX5_turnTo_15 : decode cX5_turnTo 15 = .ok (.return_, 1) := by decide +kernel
set_option maxRecDepth 20000 in
theorem ggX5_build_X5_clear : GoodIn wsX5_build wsX5_clear := goodIn_r _ [10, 3, 11, 2, 5, 12, 13, 14, 15, 16, 17, 18, 19, 20, 21, 22, 23, 257, 258, 259, 260, 261, 262, 263, 264, 265, 266, 267, 268, 269, 283, 284, 285] (by decide +kernel) (by decide +kernel)
set_option maxRecDepth 20000 in
theorem gX5_build_X5_clear : GoodIn wsX5_build (wsV RX5 64 RX5 yX5_clear wsX5_clear) := goodIn_app (goodIn_of _ (by decide +kernel)) ggX5_build_X5_clear
set_option maxRecDepth 20000 in
theorem ggX5_build_Jx4a65c_size_8abf5 : GoodIn wsX5_build wsJx4a65c_size_8abf5 := goodIn_r _ [27, 23, 283, 284, 285] (by decide +kernel) (by decide +kernel)
set_option maxRecDepth 20000 in
theorem gX5_build_Jx4a65c_size_8abf5 : GoodIn wsX5_build (wsV RX5 67 RJx4a65c yJx4a65c_size_8abf5 wsJx4a65c_size_8abf5) := goodIn_app (goodIn_of _ (by decide +kernel)) ggX5_build_Jx4a65c_size_8abf5
set_option maxRecDepth 20000 in
theorem ggX5_build_Jx4a65c_get_915e3 : GoodIn wsX5_build wsJx4a65c_get_915e3 := goodIn_r _ [31, 23, 32, 33, 34, 35, 36, 37, 38, 39, 40, 41, 42, 18, 43, 22, 283, 284, 285] (by decide +kernel) (by decide +kernel)
set_option maxRecDepth 20000 in
theorem gX5_build_Jx4a65c_get_915e3 : GoodIn wsX5_build (wsV RX5 71 RJx4a65c yJx4a65c_get_915e3 wsJx4a65c_get_915e3) := goodIn_app (goodIn_of _ (by decide +kernel)) ggX5_build_Jx4a65c_get_915e3
set_option maxRecDepth 20000 in
theorem ggX5_build_X5_findBeginning : GoodIn wsX5_build wsX5_findBeginning := goodIn_r _ [47, 48, 49, 50, 51, 52, 53, 54, 55, 56, 57, 58, 59, 60, 61, 62, 63, 64, 65, 66, 67, 9, 68, 2, 270, 271, 272, 273, 274, 275, 276, 277, 278, 279, 280, 281, 282, 257, 258, 259, 260, 261, 262, 263, 264, 265, 266, 267, 268, 269, 286, 287, 288, 289, 290, 291, 292] (by decide +kernel) (by decide +kernel)
set_option maxRecDepth 20000 in
theorem gX5_build_X5_findBeginning : GoodIn wsX5_build (wsV RX5 77 RX5 yX5_findBeginning wsX5_findBeginning) := goodIn_app (goodIn_of _ (by decide +kernel)) ggX5_build_X5_findBeginning
set_option maxRecDepth 20000 in
theorem ggX5_build_X5_isInEffect : GoodIn wsX5_build wsX5_isInEffect := goodIn_r _ [72, 73, 50, 74, 75, 49, 76, 77, 78, 79, 80, 81, 82, 83, 84, 85, 86, 87, 88, 89, 90, 58, 91, 92, 93, 94, 56, 57, 59, 60, 61, 62, 63, 64, 257, 258, 259, 260, 261, 262, 263, 264, 265, 266, 267, 268, 269, 270, 271, 272, 273, 274, 275, 276, 277, 278, 279, 280, 281, 282, 286, 287, 288, 289, 290, 291, 292] (by decide +kernel) (by decide +kernel)
set_option maxRecDepth 20000 in
theorem gX5_build_X5_isInEffect : GoodIn wsX5_build (wsV RX5 81 RX5 yX5_isInEffect wsX5_isInEffect) := goodIn_app (goodIn_of _ (by decide +kernel)) ggX5_build_X5_isInEffect
set_option maxRecDepth 20000 in
theorem ggX5_build_X5_takeTurn : GoodIn wsX5_build wsX5_takeTurn := goodIn_r _ [98, 3, 1, 4, 24, 25, 26, 18, 27, 23, 28, 29, 30, 31, 32, 33, 34, 35, 36, 37, 38, 39, 40, 41, 42, 43, 22, 65, 66, 67, 9, 68, 2, 99, 100, 101, 102, 20, 21, 103, 104, 105, 106, 107, 108, 109, 110, 111, 112, 113, 114, 115, 116, 117, 118, 119, 120, 121, 122, 123, 124, 125, 126, 127, 128, 129, 130, 131, 132, 133, 134, 135, 136, 137, 138, 139, 140, 141, 142, 143, 144, 145, 146, 147, 148, 149, 150, 257, 258, 259, 260, 261, 262, 263, 264, 265, 266, 267, 268, 269, 270, 271, 272, 273, 274, 275, 276, 277, 278, 279, 280, 281, 282, 283, 284, 285] (by decide +kernel) (by decide +kernel)
set_option maxRecDepth 20000 in
theorem gX5_build_X5_takeTurn : GoodIn wsX5_build (wsV RX5 85 RX5 yX5_takeTurn wsX5_takeTurn) := goodIn_app (goodIn_of _ (by decide +kernel)) ggX5_build_X5_takeTurn
set_option maxRecDepth 20000 in
theorem ggX5_build_X5_carryOut : GoodIn wsX5_build wsX5_carryOut := goodIn_r _ [154, 155, 156, 157, 158, 159, 160, 9, 161, 162, 163, 13, 14, 164, 165, 166, 167, 168, 169, 170, 171, 172, 173, 174, 175, 176, 177, 178, 179, 4, 180, 181, 182, 183, 184, 12, 185, 186, 187, 188, 189, 190, 191, 192, 193, 194, 195, 196, 197, 198, 104, 105, 106, 199, 200, 201, 202, 203, 204, 205, 206, 207, 208, 209, 210, 211, 212, 213, 214, 215, 216, 217, 218, 219, 220, 221, 222, 223, 224, 225, 226, 227, 228, 229, 230, 231, 232, 233, 234, 235, 236, 237, 238, 239, 240, 241, 242, 243, 244, 5, 270, 271, 272, 273, 274, 275, 276, 277, 278, 279, 280, 281, 282, 257, 258, 259, 260, 261, 262, 263, 264, 265, 266, 267, 268, 269, 293, 294, 295, 296, 297] (by decide +kernel) (by decide +kernel)
set_option maxRecDepth 20000 in
theorem gX5_build_X5_carryOut : GoodIn wsX5_build (wsV RX5 89 RX5 yX5_carryOut wsX5_carryOut) := goodIn_app (goodIn_of _ (by decide +kernel)) ggX5_build_X5_carryOut
set_option maxRecDepth 20000 in
theorem ggX5_build_X5_listInOrder : GoodIn wsX5_build wsX5_listInOrder := goodIn_r _ [248, 11, 249, 250, 251, 252, 9, 253, 13, 14, 254, 255, 256, 172, 173, 174, 175, 225, 226, 227, 228, 257, 258, 259, 260, 261, 262, 263, 264, 265, 266, 267, 268, 269] (by decide +kernel) (by decide +kernel)
set_option maxRecDepth 20000 in
theorem gX5_build_X5_listInOrder : GoodIn wsX5_build (wsV RX5 96 RX5 yX5_listInOrder wsX5_listInOrder) := goodIn_app (goodIn_of _ (by decide +kernel)) ggX5_build_X5_listInOrder
theorem dX5_build_0 : decode cX5_build 0 = .ok (.aload_n 0, 1) := by decide +kernel
theorem dX5_build_1 : decode cX5_build 1 = .ok (.invokevirtual 64, 3) := by decide +kernel
theorem dX5_build_4 : decode cX5_build 4 = .ok (.iconst 0, 1) := by decide +kernel
theorem dX5_build_5 : decode cX5_build 5 = .ok (.istore_n 2, 1) := by decide +kernel
theorem dX5_build_6 : decode cX5_build 6 = .ok (.iload_n 2, 1) := by decide +kernel
theorem dX5_build_7 : decode cX5_build 7 = .ok (.aload_n 1, 1) := by decide +kernel
theorem dX5_build_8 : decode cX5_build 8 = .ok (.invokevirtual 67, 3) := by decide +kernel
theorem dX5_build_11 : decode cX5_build 11 = .ok (.if_icmp .ge 60, 3) := by decide +kernel
theorem dX5_build_14 : decode cX5_build 14 = .ok (.iload_n 2, 1) := by decide +kernel
theorem dX5_build_15 : decode cX5_build 15 = .ok (.bipush 40, 2) := by decide +kernel
theorem dX5_build_17 : decode cX5_build 17 = .ok (.if_icmp .ge 54, 3) := by decide +kernel
theorem dX5_build_20 : decode cX5_build 20 = .ok (.aload_n 1, 1) := by decide +kernel
theorem dX5_build_21 : decode cX5_build 21 = .ok (.iload_n 2, 1) := by decide +kernel
theorem dX5_build_22 : decode cX5_build 22 = .ok (.invokevirtual 71, 3) := by decide +kernel
theorem dX5_build_25 : decode cX5_build 25 = .ok (.checkcast 75, 3) := by decide +kernel
theorem dX5_build_28 : decode cX5_build 28 = .ok (.astore_n 3, 1) := by decide +kernel
theorem dX5_build_29 : decode cX5_build 29 = .ok (.aload_n 0, 1) := by decide +kernel
theorem dX5_build_30 : decode cX5_build 30 = .ok (.getfield 18, 3) := by decide +kernel
theorem dX5_build_33 : decode cX5_build 33 = .ok (.iload_n 2, 1) := by decide +kernel
theorem dX5_build_34 : decode cX5_build 34 = .ok (.aload_n 0, 1) := by decide +kernel
theorem dX5_build_35 : decode cX5_build 35 = .ok (.aload_n 3, 1) := by decide +kernel
theorem dX5_build_36 : decode cX5_build 36 = .ok (.invokevirtual 77, 3) := by decide +kernel
theorem dX5_build_39 : decode cX5_build 39 = .ok (.iastore, 1) := by decide +kernel
theorem dX5_build_40 : decode cX5_build 40 = .ok (.aload_n 0, 1) := by decide +kernel
theorem dX5_build_41 : decode cX5_build 41 = .ok (.aload_n 3, 1) := by decide +kernel
theorem dX5_build_42 : decode cX5_build 42 = .ok (.aload_n 0, 1) := by decide +kernel
theorem dX5_build_43 : decode cX5_build 43 = .ok (.getfield 18, 3) := by decide +kernel
theorem dX5_build_46 : decode cX5_build 46 = .ok (.iload_n 2, 1) := by decide +kernel
theorem dX5_build_47 : decode cX5_build 47 = .ok (.iaload, 1) := by decide +kernel
theorem dX5_build_48 : decode cX5_build 48 = .ok (.invokevirtual 81, 3) := by decide +kernel
theorem dX5_build_51 : decode cX5_build 51 = .ok (.ifCond .eq 14, 3) := by decide +kernel
theorem dX5_build_54 : decode cX5_build 54 = .ok (.aload_n 0, 1) := by decide +kernel
theorem dX5_build_55 : decode cX5_build 55 = .ok (.aload_n 3, 1) := by decide +kernel
theorem dX5_build_56 : decode cX5_build 56 = .ok (.aload_n 0, 1) := by decide +kernel
theorem dX5_build_57 : decode cX5_build 57 = .ok (.getfield 18, 3) := by decide +kernel
theorem dX5_build_60 : decode cX5_build 60 = .ok (.iload_n 2, 1) := by decide +kernel
theorem dX5_build_61 : decode cX5_build 61 = .ok (.iaload, 1) := by decide +kernel
theorem dX5_build_62 : decode cX5_build 62 = .ok (.invokevirtual 85, 3) := by decide +kernel
theorem dX5_build_65 : decode cX5_build 65 = .ok (.iinc 2 1, 3) := by decide +kernel
theorem dX5_build_68 : decode cX5_build 68 = .ok (.goto (-62), 3) := by decide +kernel
theorem dX5_build_71 : decode cX5_build 71 = .ok (.iconst 0, 1) := by decide +kernel
theorem dX5_build_72 : decode cX5_build 72 = .ok (.istore_n 2, 1) := by decide +kernel
theorem dX5_build_73 : decode cX5_build 73 = .ok (.iload_n 2, 1) := by decide +kernel
theorem dX5_build_74 : decode cX5_build 74 = .ok (.aload_n 0, 1) := by decide +kernel
theorem dX5_build_75 : decode cX5_build 75 = .ok (.getfield 12, 3) := by decide +kernel
theorem dX5_build_78 : decode cX5_build 78 = .ok (.invokevirtual 67, 3) := by decide +kernel
theorem dX5_build_81 : decode cX5_build 81 = .ok (.if_icmp .ge 66, 3) := by decide +kernel
theorem dX5_build_84 : decode cX5_build 84 = .ok (.aload_n 0, 1) := by decide +kernel
theorem dX5_build_85 : decode cX5_build 85 = .ok (.getfield 12, 3) := by decide +kernel
theorem dX5_build_88 : decode cX5_build 88 = .ok (.iload_n 2, 1) := by decide +kernel
theorem dX5_build_89 : decode cX5_build 89 = .ok (.invokevirtual 71, 3) := by decide +kernel
theorem dX5_build_92 : decode cX5_build 92 = .ok (.checkcast 75, 3) := by decide +kernel
theorem dX5_build_95 : decode cX5_build 95 = .ok (.astore_n 3, 1) := by decide +kernel
theorem dX5_build_96 : decode cX5_build 96 = .ok (.aload_n 0, 1) := by decide +kernel
theorem dX5_build_97 : decode cX5_build 97 = .ok (.aload_n 3, 1) := by decide +kernel
theorem dX5_build_98 : decode cX5_build 98 = .ok (.invokevirtual 89, 3) := by decide +kernel
theorem dX5_build_101 : decode cX5_build 101 = .ok (.istore 4, 2) := by decide +kernel
theorem dX5_build_103 : decode cX5_build 103 = .ok (.aload_n 3, 1) := by decide +kernel
theorem dX5_build_104 : decode cX5_build 104 = .ok (.getfield 93, 3) := by decide +kernel
theorem dX5_build_107 : decode cX5_build 107 = .ok (.ifCond .lt 34, 3) := by decide +kernel
theorem dX5_build_110 : decode cX5_build 110 = .ok (.aload_n 3, 1) := by decide +kernel
theorem dX5_build_111 : decode cX5_build 111 = .ok (.getfield 93, 3) := by decide +kernel
theorem dX5_build_114 : decode cX5_build 114 = .ok (.aload_n 0, 1) := by decide +kernel
theorem dX5_build_115 : decode cX5_build 115 = .ok (.getfield 22, 3) := by decide +kernel
theorem dX5_build_118 : decode cX5_build 118 = .ok (.arraylength, 1) := by decide +kernel
theorem dX5_build_119 : decode cX5_build 119 = .ok (.if_icmp .ge 22, 3) := by decide +kernel
theorem dX5_build_122 : decode cX5_build 122 = .ok (.aload_n 0, 1) := by decide +kernel
theorem dX5_build_123 : decode cX5_build 123 = .ok (.getfield 22, 3) := by decide +kernel
theorem dX5_build_126 : decode cX5_build 126 = .ok (.aload_n 3, 1) := by decide +kernel
theorem dX5_build_127 : decode cX5_build 127 = .ok (.getfield 93, 3) := by decide +kernel
theorem dX5_build_130 : decode cX5_build 130 = .ok (.iload 4, 2) := by decide +kernel
theorem dX5_build_132 : decode cX5_build 132 = .ok (.ifCond .eq 7, 3) := by decide +kernel
theorem dX5_build_135 : decode cX5_build 135 = .ok (.iconst 1, 1) := by decide +kernel
theorem dX5_build_136 : decode cX5_build 136 = .ok (.goto 4, 3) := by decide +kernel
theorem dX5_build_139 : decode cX5_build 139 = .ok (.iconst 2, 1) := by decide +kernel
theorem dX5_build_140 : decode cX5_build 140 = .ok (.iastore, 1) := by decide +kernel
theorem dX5_build_141 : decode cX5_build 141 = .ok (.iinc 2 1, 3) := by decide +kernel
theorem dX5_build_144 : decode cX5_build 144 = .ok (.goto (-71), 3) := by decide +kernel
theorem dX5_build_147 : decode cX5_build 147 = .ok (.aload_n 0, 1) := by decide +kernel
theorem dX5_build_148 : decode cX5_build 148 = .ok (.invokevirtual 96, 3) := by decide +kernel
theorem dX5_build_151 : decode cX5_build 151 = .ok (.return_, 1) := by decide +kernel
set_option maxRecDepth 20000 in
theorem ggX5_clear_Jx4a65c_clear_da8c8 : GoodIn wsX5_clear wsJx4a65c_clear_da8c8 := goodIn_r _ [12, 13, 14, 15, 16, 30, 31, 32] (by decide +kernel) (by decide +kernel)
set_option maxRecDepth 20000 in
theorem gX5_clear_Jx4a65c_clear_da8c8 : GoodIn wsX5_clear (wsV RX5 99 RJx4a65c yJx4a65c_clear_da8c8 wsJx4a65c_clear_da8c8) := goodIn_app (goodIn_of _ (by decide +kernel)) ggX5_clear_Jx4a65c_clear_da8c8
theorem dX5_clear_0 : decode cX5_clear 0 = .ok (.aload_n 0, 1) := by decide +kernel
theorem dX5_clear_1 : decode cX5_clear 1 = .ok (.getfield 12, 3) := by decide +kernel
theorem dX5_clear_4 : decode cX5_clear 4 = .ok (.invokevirtual 99, 3) := by decide +kernel
theorem dX5_clear_7 : decode cX5_clear 7 = .ok (.aload_n 0, 1) := by decide +kernel
theorem dX5_clear_8 : decode cX5_clear 8 = .ok (.iconst 0, 1) := by decide +kernel
theorem dX5_clear_9 : decode cX5_clear 9 = .ok (.putfield 51, 3) := by decide +kernel
theorem dX5_clear_12 : decode cX5_clear 12 = .ok (.iconst 0, 1) := by decide +kernel
theorem dX5_clear_13 : decode cX5_clear 13 = .ok (.istore_n 1, 1) := by decide +kernel
theorem dX5_clear_14 : decode cX5_clear 14 = .ok (.iload_n 1, 1) := by decide +kernel
theorem dX5_clear_15 : decode cX5_clear 15 = .ok (.bipush 40, 2) := by decide +kernel
theorem dX5_clear_17 : decode cX5_clear 17 = .ok (.if_icmp .ge 30, 3) := by decide +kernel
theorem dX5_clear_20 : decode cX5_clear 20 = .ok (.aload_n 0, 1) := by decide +kernel
theorem dX5_clear_21 : decode cX5_clear 21 = .ok (.getfield 18, 3) := by decide +kernel
theorem dX5_clear_24 : decode cX5_clear 24 = .ok (.iload_n 1, 1) := by decide +kernel
theorem dX5_clear_25 : decode cX5_clear 25 = .ok (.iconst (-1), 1) := by decide +kernel
theorem dX5_clear_26 : decode cX5_clear 26 = .ok (.iastore, 1) := by decide +kernel
theorem dX5_clear_27 : decode cX5_clear 27 = .ok (.aload_n 0, 1) := by decide +kernel
theorem dX5_clear_28 : decode cX5_clear 28 = .ok (.getfield 22, 3) := by decide +kernel
theorem dX5_clear_31 : decode cX5_clear 31 = .ok (.iload_n 1, 1) := by decide +kernel
theorem dX5_clear_32 : decode cX5_clear 32 = .ok (.iconst 0, 1) := by decide +kernel
theorem dX5_clear_33 : decode cX5_clear 33 = .ok (.iastore, 1) := by decide +kernel
theorem dX5_clear_34 : decode cX5_clear 34 = .ok (.aload_n 0, 1) := by decide +kernel
theorem dX5_clear_35 : decode cX5_clear 35 = .ok (.getfield 27, 3) := by decide +kernel
theorem dX5_clear_38 : decode cX5_clear 38 = .ok (.iload_n 1, 1) := by decide +kernel
theorem dX5_clear_39 : decode cX5_clear 39 = .ok (.aconst_null, 1) := by decide +kernel
theorem dX5_clear_40 : decode cX5_clear 40 = .ok (.aastore, 1) := by decide +kernel
theorem dX5_clear_41 : decode cX5_clear 41 = .ok (.iinc 1 1, 3) := by decide +kernel
theorem dX5_clear_44 : decode cX5_clear 44 = .ok (.goto (-30), 3) := by decide +kernel
theorem dX5_clear_47 : decode cX5_clear 47 = .ok (.iconst 0, 1) := by decide +kernel
theorem dX5_clear_48 : decode cX5_clear 48 = .ok (.istore_n 1, 1) := by decide +kernel
theorem dX5_clear_49 : decode cX5_clear 49 = .ok (.iload_n 1, 1) := by decide +kernel
theorem dX5_clear_50 : decode cX5_clear 50 = .ok (.bipush 20, 2) := by decide +kernel
theorem dX5_clear_52 : decode cX5_clear 52 = .ok (.if_icmp .ge 23, 3) := by decide +kernel
theorem dX5_clear_55 : decode cX5_clear 55 = .ok (.aload_n 0, 1) := by decide +kernel
theorem dX5_clear_56 : decode cX5_clear 56 = .ok (.getfield 31, 3) := by decide +kernel
theorem dX5_clear_59 : decode cX5_clear 59 = .ok (.iload_n 1, 1) := by decide +kernel
theorem dX5_clear_60 : decode cX5_clear 60 = .ok (.iconst (-1), 1) := by decide +kernel
theorem dX5_clear_61 : decode cX5_clear 61 = .ok (.iastore, 1) := by decide +kernel
theorem dX5_clear_62 : decode cX5_clear 62 = .ok (.aload_n 0, 1) := by decide +kernel
theorem dX5_clear_63 : decode cX5_clear 63 = .ok (.getfield 34, 3) := by decide +kernel
theorem dX5_clear_66 : decode cX5_clear 66 = .ok (.iload_n 1, 1) := by decide +kernel
theorem dX5_clear_67 : decode cX5_clear 67 = .ok (.iconst (-1), 1) := by decide +kernel
theorem dX5_clear_68 : decode cX5_clear 68 = .ok (.iastore, 1) := by decide +kernel
theorem dX5_clear_69 : decode cX5_clear 69 = .ok (.iinc 1 1, 3) := by decide +kernel
theorem dX5_clear_72 : decode cX5_clear 72 = .ok (.goto (-23), 3) := by decide +kernel
theorem dX5_clear_75 : decode cX5_clear 75 = .ok (.return_, 1) := by decide +kernel
set_option maxRecDepth 20000 in
theorem ggX5_findBeginning_X1_isKnownOn : GoodIn wsX5_findBeginning wsX1_isKnownOn := goodIn_r _ [12, 13, 14, 15, 16, 11, 17, 54, 55, 56] (by decide +kernel) (by decide +kernel)
set_option maxRecDepth 20000 in
theorem gX5_findBeginning_X1_isKnownOn : GoodIn wsX5_findBeginning (wsV RX5 119 RX1 yX1_isKnownOn wsX1_isKnownOn) := goodIn_app (goodIn_of _ (by decide +kernel)) ggX5_findBeginning_X1_isKnownOn
set_option maxRecDepth 20000 in
theorem ggX5_findBeginning_X5_beginningOf : GoodIn wsX5_findBeginning wsX5_beginningOf := goodIn_r _ [22, 23, 37, 38, 39, 40, 41, 42, 43, 44, 45, 46, 47, 48, 49] (by decide +kernel) (by decide +kernel)
set_option maxRecDepth 20000 in
theorem gX5_findBeginning_X5_beginningOf : GoodIn wsX5_findBeginning (wsV RX5 128 RX5 yX5_beginningOf wsX5_beginningOf) := goodIn_app (goodIn_of _ (by decide +kernel)) ggX5_findBeginning_X5_beginningOf
theorem dX5_findBeginning_0 : decode cX5_findBeginning 0 = .ok (.aload_n 1, 1) := by decide +kernel
theorem dX5_findBeginning_1 : decode cX5_findBeginning 1 = .ok (.getfield 100, 3) := by decide +kernel
theorem dX5_findBeginning_4 : decode cX5_findBeginning 4 = .ok (.aload_n 0, 1) := by decide +kernel
theorem dX5_findBeginning_5 : decode cX5_findBeginning 5 = .ok (.getfield 58, 3) := by decide +kernel
theorem dX5_findBeginning_8 : decode cX5_findBeginning 8 = .ok (.if_icmp .le 5, 3) := by decide +kernel
theorem dX5_findBeginning_11 : decode cX5_findBeginning 11 = .ok (.iconst (-1), 1) := by decide +kernel
theorem dX5_findBeginning_12 : decode cX5_findBeginning 12 = .ok (.ireturn, 1) := by decide +kernel
theorem dX5_findBeginning_13 : decode cX5_findBeginning 13 = .ok (.aload_n 1, 1) := by decide +kernel
theorem dX5_findBeginning_14 : decode cX5_findBeginning 14 = .ok (.getfield 103, 3) := by decide +kernel
theorem dX5_findBeginning_17 : decode cX5_findBeginning 17 = .ok (.getfield 107, 3) := by decide +kernel
theorem dX5_findBeginning_20 : decode cX5_findBeginning 20 = .ok (.lookupswitch 62 #[(0, 28), (1, 36)], 28) := by decide +kernel
theorem dX5_findBeginning_48 : decode cX5_findBeginning 48 = .ok (.aload_n 1, 1) := by decide +kernel
theorem dX5_findBeginning_49 : decode cX5_findBeginning 49 = .ok (.getfield 103, 3) := by decide +kernel
theorem dX5_findBeginning_52 : decode cX5_findBeginning 52 = .ok (.getfield 112, 3) := by decide +kernel
theorem dX5_findBeginning_55 : decode cX5_findBeginning 55 = .ok (.ireturn, 1) := by decide +kernel
theorem dX5_findBeginning_56 : decode cX5_findBeginning 56 = .ok (.aload_n 1, 1) := by decide +kernel
theorem dX5_findBeginning_57 : decode cX5_findBeginning 57 = .ok (.getfield 115, 3) := by decide +kernel
theorem dX5_findBeginning_60 : decode cX5_findBeginning 60 = .ok (.aload_n 0, 1) := by decide +kernel
theorem dX5_findBeginning_61 : decode cX5_findBeginning 61 = .ok (.getfield 58, 3) := by decide +kernel
theorem dX5_findBeginning_64 : decode cX5_findBeginning 64 = .ok (.invokevirtual 119, 3) := by decide +kernel
theorem dX5_findBeginning_67 : decode cX5_findBeginning 67 = .ok (.ifCond .eq 13, 3) := by decide +kernel
theorem dX5_findBeginning_70 : decode cX5_findBeginning 70 = .ok (.aload_n 1, 1) := by decide +kernel
theorem dX5_findBeginning_71 : decode cX5_findBeginning 71 = .ok (.getfield 115, 3) := by decide +kernel
theorem dX5_findBeginning_74 : decode cX5_findBeginning 74 = .ok (.getfield 125, 3) := by decide +kernel
theorem dX5_findBeginning_77 : decode cX5_findBeginning 77 = .ok (.goto 4, 3) := by decide +kernel
theorem dX5_findBeginning_80 : decode cX5_findBeginning 80 = .ok (.iconst (-1), 1) := by decide +kernel
theorem dX5_findBeginning_81 : decode cX5_findBeginning 81 = .ok (.ireturn, 1) := by decide +kernel
theorem dX5_findBeginning_82 : decode cX5_findBeginning 82 = .ok (.aload_n 0, 1) := by decide +kernel
theorem dX5_findBeginning_83 : decode cX5_findBeginning 83 = .ok (.aload_n 1, 1) := by decide +kernel
theorem dX5_findBeginning_84 : decode cX5_findBeginning 84 = .ok (.getfield 103, 3) := by decide +kernel
theorem dX5_findBeginning_87 : decode cX5_findBeginning 87 = .ok (.getfield 112, 3) := by decide +kernel
theorem dX5_findBeginning_90 : decode cX5_findBeginning 90 = .ok (.invokevirtual 128, 3) := by decide +kernel
theorem dX5_findBeginning_93 : decode cX5_findBeginning 93 = .ok (.ireturn, 1) := by decide +kernel
set_option maxRecDepth 20000 in
theorem ggX5_isInEffect_X3_reach : GoodIn wsX5_isInEffect wsX3_reach := goodIn_r _ [11, 12, 60, 61, 62, 63] (by decide +kernel) (by decide +kernel)
set_option maxRecDepth 20000 in
theorem gX5_isInEffect_X3_reach : GoodIn wsX5_isInEffect (wsV RX5 132 RX3 yX3_reach wsX3_reach) := goodIn_app (goodIn_of _ (by decide +kernel)) ggX5_isInEffect_X3_reach
set_option maxRecDepth 20000 in
theorem ggX5_isInEffect_X3_endBy : GoodIn wsX5_isInEffect wsX3_endBy := goodIn_r _ [16, 17, 60, 61, 62, 63] (by decide +kernel) (by decide +kernel)
set_option maxRecDepth 20000 in
theorem gX5_isInEffect_X3_endBy : GoodIn wsX5_isInEffect (wsV RX5 135 RX3 yX3_endBy wsX3_endBy) := goodIn_app (goodIn_of _ (by decide +kernel)) ggX5_isInEffect_X3_endBy
set_option maxRecDepth 20000 in
theorem ggX5_isInEffect_X1_covers : GoodIn wsX5_isInEffect wsX1_covers := goodIn_r _ [22, 23, 24, 25, 26, 27, 21, 28, 29, 30, 31, 32, 33, 64, 65, 66] (by decide +kernel) (by decide +kernel)
set_option maxRecDepth 20000 in
theorem gX5_isInEffect_X1_covers : GoodIn wsX5_isInEffect (wsV RX5 141 RX1 yX1_covers wsX1_covers) := goodIn_app (goodIn_of _ (by decide +kernel)) ggX5_isInEffect_X1_covers
theorem dX5_isInEffect_0 : decode cX5_isInEffect 0 = .ok (.iload_n 2, 1) := by decide +kernel
theorem dX5_isInEffect_1 : decode cX5_isInEffect 1 = .ok (.iconst (-1), 1) := by decide +kernel
theorem dX5_isInEffect_2 : decode cX5_isInEffect 2 = .ok (.if_icmp .eq 79, 3) := by decide +kernel
theorem dX5_isInEffect_5 : decode cX5_isInEffect 5 = .ok (.iload_n 2, 1) := by decide +kernel
theorem dX5_isInEffect_6 : decode cX5_isInEffect 6 = .ok (.aload_n 0, 1) := by decide +kernel
theorem dX5_isInEffect_7 : decode cX5_isInEffect 7 = .ok (.getfield 55, 3) := by decide +kernel
theorem dX5_isInEffect_10 : decode cX5_isInEffect 10 = .ok (.if_icmp .gt 71, 3) := by decide +kernel
theorem dX5_isInEffect_13 : decode cX5_isInEffect 13 = .ok (.aload_n 1, 1) := by decide +kernel
theorem dX5_isInEffect_14 : decode cX5_isInEffect 14 = .ok (.getfield 103, 3) := by decide +kernel
theorem dX5_isInEffect_17 : decode cX5_isInEffect 17 = .ok (.aload_n 0, 1) := by decide +kernel
theorem dX5_isInEffect_18 : decode cX5_isInEffect 18 = .ok (.getfield 61, 3) := by decide +kernel
theorem dX5_isInEffect_21 : decode cX5_isInEffect 21 = .ok (.invokevirtual 132, 3) := by decide +kernel
theorem dX5_isInEffect_24 : decode cX5_isInEffect 24 = .ok (.ifCond .eq 57, 3) := by decide +kernel
theorem dX5_isInEffect_27 : decode cX5_isInEffect 27 = .ok (.aload_n 1, 1) := by decide +kernel
theorem dX5_isInEffect_28 : decode cX5_isInEffect 28 = .ok (.getfield 103, 3) := by decide +kernel
theorem dX5_isInEffect_31 : decode cX5_isInEffect 31 = .ok (.aload_n 0, 1) := by decide +kernel
theorem dX5_isInEffect_32 : decode cX5_isInEffect 32 = .ok (.getfield 55, 3) := by decide +kernel
theorem dX5_isInEffect_35 : decode cX5_isInEffect 35 = .ok (.invokevirtual 135, 3) := by decide +kernel
theorem dX5_isInEffect_38 : decode cX5_isInEffect 38 = .ok (.ifCond .ne 43, 3) := by decide +kernel
theorem dX5_isInEffect_41 : decode cX5_isInEffect 41 = .ok (.aload_n 1, 1) := by decide +kernel
theorem dX5_isInEffect_42 : decode cX5_isInEffect 42 = .ok (.getfield 138, 3) := by decide +kernel
theorem dX5_isInEffect_45 : decode cX5_isInEffect 45 = .ok (.aload_n 0, 1) := by decide +kernel
theorem dX5_isInEffect_46 : decode cX5_isInEffect 46 = .ok (.getfield 55, 3) := by decide +kernel
theorem dX5_isInEffect_49 : decode cX5_isInEffect 49 = .ok (.aload_n 0, 1) := by decide +kernel
theorem dX5_isInEffect_50 : decode cX5_isInEffect 50 = .ok (.getfield 58, 3) := by decide +kernel
theorem dX5_isInEffect_53 : decode cX5_isInEffect 53 = .ok (.invokevirtual 141, 3) := by decide +kernel
theorem dX5_isInEffect_56 : decode cX5_isInEffect 56 = .ok (.ifCond .ne 25, 3) := by decide +kernel
theorem dX5_isInEffect_59 : decode cX5_isInEffect 59 = .ok (.aload_n 1, 1) := by decide +kernel
theorem dX5_isInEffect_60 : decode cX5_isInEffect 60 = .ok (.getfield 145, 3) := by decide +kernel
theorem dX5_isInEffect_63 : decode cX5_isInEffect 63 = .ok (.aload_n 0, 1) := by decide +kernel
theorem dX5_isInEffect_64 : decode cX5_isInEffect 64 = .ok (.getfield 55, 3) := by decide +kernel
theorem dX5_isInEffect_67 : decode cX5_isInEffect 67 = .ok (.aload_n 0, 1) := by decide +kernel
theorem dX5_isInEffect_68 : decode cX5_isInEffect 68 = .ok (.getfield 58, 3) := by decide +kernel
theorem dX5_isInEffect_71 : decode cX5_isInEffect 71 = .ok (.invokevirtual 141, 3) := by decide +kernel
theorem dX5_isInEffect_74 : decode cX5_isInEffect 74 = .ok (.ifCond .ne 7, 3) := by decide +kernel
theorem dX5_isInEffect_77 : decode cX5_isInEffect 77 = .ok (.iconst 1, 1) := by decide +kernel
theorem dX5_isInEffect_78 : decode cX5_isInEffect 78 = .ok (.goto 4, 3) := by decide +kernel
theorem dX5_isInEffect_81 : decode cX5_isInEffect 81 = .ok (.iconst 0, 1) := by decide +kernel
theorem dX5_isInEffect_82 : decode cX5_isInEffect 82 = .ok (.ireturn, 1) := by decide +kernel
set_option maxRecDepth 20000 in
theorem ggX5_takeTurn_Jx4a65c_size_8abf5 : GoodIn wsX5_takeTurn wsJx4a65c_size_8abf5 := goodIn_r _ [8, 9, 113, 114, 115] (by decide +kernel) (by decide +kernel)
set_option maxRecDepth 20000 in
theorem gX5_takeTurn_Jx4a65c_size_8abf5 : GoodIn wsX5_takeTurn (wsV RX5 67 RJx4a65c yJx4a65c_size_8abf5 wsJx4a65c_size_8abf5) := goodIn_app (goodIn_of _ (by decide +kernel)) ggX5_takeTurn_Jx4a65c_size_8abf5
set_option maxRecDepth 20000 in
theorem ggX5_takeTurn_Jx4a65c_get_915e3 : GoodIn wsX5_takeTurn wsJx4a65c_get_915e3 := goodIn_r _ [13, 9, 14, 15, 16, 17, 18, 19, 20, 21, 22, 23, 24, 7, 25, 26, 113, 114, 115] (by decide +kernel) (by decide +kernel)
set_option maxRecDepth 20000 in
theorem gX5_takeTurn_Jx4a65c_get_915e3 : GoodIn wsX5_takeTurn (wsV RX5 71 RJx4a65c yJx4a65c_get_915e3 wsJx4a65c_get_915e3) := goodIn_app (goodIn_of _ (by decide +kernel)) ggX5_takeTurn_Jx4a65c_get_915e3
set_option maxRecDepth 20000 in
theorem ggX5_takeTurn_X5_beginningOf : GoodIn wsX5_takeTurn wsX5_beginningOf := goodIn_r _ [31, 32, 87, 88, 89, 90, 91, 92, 93, 94, 95, 96, 97, 98, 99] (by decide +kernel) (by decide +kernel)
set_option maxRecDepth 20000 in
theorem gX5_takeTurn_X5_beginningOf : GoodIn wsX5_takeTurn (wsV RX5 128 RX5 yX5_beginningOf wsX5_beginningOf) := goodIn_app (goodIn_of _ (by decide +kernel)) ggX5_takeTurn_X5_beginningOf
set_option maxRecDepth 20000 in
theorem ggX5_takeTurn_Jx4a65c_add_7a177 : GoodIn wsX5_takeTurn wsJx4a65c_add_7a177 := goodIn_r _ [36, 37, 38, 9, 26, 39, 40, 41, 42, 43, 44, 45, 7, 46, 47, 48, 49, 50, 51, 52, 53, 54, 55, 56, 57, 58, 59, 60, 61, 62, 63, 64, 65, 66, 67, 68, 69, 70, 71, 72, 73, 74, 75, 76, 77, 78, 79, 80, 81, 82, 83, 84, 85, 86, 113, 114, 115] (by decide +kernel) (by decide +kernel)
set_option maxRecDepth 20000 in
theorem gX5_takeTurn_Jx4a65c_add_7a177 : GoodIn wsX5_takeTurn (wsV RX5 148 RJx4a65c yJx4a65c_add_7a177 wsJx4a65c_add_7a177) := goodIn_app (goodIn_of _ (by decide +kernel)) ggX5_takeTurn_Jx4a65c_add_7a177
theorem dX5_takeTurn_0 : decode cX5_takeTurn 0 = .ok (.aload_n 0, 1) := by decide +kernel
theorem dX5_takeTurn_1 : decode cX5_takeTurn 1 = .ok (.getfield 12, 3) := by decide +kernel
theorem dX5_takeTurn_4 : decode cX5_takeTurn 4 = .ok (.invokevirtual 67, 3) := by decide +kernel
theorem dX5_takeTurn_7 : decode cX5_takeTurn 7 = .ok (.istore_n 3, 1) := by decide +kernel
theorem dX5_takeTurn_8 : decode cX5_takeTurn 8 = .ok (.iload_n 3, 1) := by decide +kernel
theorem dX5_takeTurn_9 : decode cX5_takeTurn 9 = .ok (.ifCond .le 33, 3) := by decide +kernel
theorem dX5_takeTurn_12 : decode cX5_takeTurn 12 = .ok (.aload_n 0, 1) := by decide +kernel
theorem dX5_takeTurn_13 : decode cX5_takeTurn 13 = .ok (.aload_n 0, 1) := by decide +kernel
theorem dX5_takeTurn_14 : decode cX5_takeTurn 14 = .ok (.getfield 12, 3) := by decide +kernel
theorem dX5_takeTurn_17 : decode cX5_takeTurn 17 = .ok (.iload_n 3, 1) := by decide +kernel
theorem dX5_takeTurn_18 : decode cX5_takeTurn 18 = .ok (.iconst 1, 1) := by decide +kernel
theorem dX5_takeTurn_19 : decode cX5_takeTurn 19 = .ok (.isub, 1) := by decide +kernel
theorem dX5_takeTurn_20 : decode cX5_takeTurn 20 = .ok (.invokevirtual 71, 3) := by decide +kernel
theorem dX5_takeTurn_23 : decode cX5_takeTurn 23 = .ok (.checkcast 75, 3) := by decide +kernel
theorem dX5_takeTurn_26 : decode cX5_takeTurn 26 = .ok (.getfield 93, 3) := by decide +kernel
theorem dX5_takeTurn_29 : decode cX5_takeTurn 29 = .ok (.invokevirtual 128, 3) := by decide +kernel
theorem dX5_takeTurn_32 : decode cX5_takeTurn 32 = .ok (.iload_n 2, 1) := by decide +kernel
theorem dX5_takeTurn_33 : decode cX5_takeTurn 33 = .ok (.if_icmp .le 9, 3) := by decide +kernel
theorem dX5_takeTurn_36 : decode cX5_takeTurn 36 = .ok (.iinc 3 (-1), 3) := by decide +kernel
theorem dX5_takeTurn_39 : decode cX5_takeTurn 39 = .ok (.goto (-31), 3) := by decide +kernel
theorem dX5_takeTurn_42 : decode cX5_takeTurn 42 = .ok (.aload_n 0, 1) := by decide +kernel
theorem dX5_takeTurn_43 : decode cX5_takeTurn 43 = .ok (.getfield 12, 3) := by decide +kernel
theorem dX5_takeTurn_46 : decode cX5_takeTurn 46 = .ok (.iload_n 3, 1) := by decide +kernel
theorem dX5_takeTurn_47 : decode cX5_takeTurn 47 = .ok (.aload_n 1, 1) := by decide +kernel
theorem dX5_takeTurn_48 : decode cX5_takeTurn 48 = .ok (.invokevirtual 148, 3) := by decide +kernel
theorem dX5_takeTurn_51 : decode cX5_takeTurn 51 = .ok (.return_, 1) := by decide +kernel
set_option maxRecDepth 20000 in
theorem ggX5_carryOut_X5_setUp : GoodIn wsX5_carryOut wsX5_setUp := goodIn_r _ [8, 2, 9, 10, 11, 12, 3, 13, 14, 15, 7, 16, 17, 18, 19, 20, 21, 22, 23, 24, 25, 26, 27, 28, 1, 29, 30, 31, 32, 33, 34, 35, 36, 37, 38, 39, 40, 41, 42, 43, 44, 45, 46, 47, 48, 49, 50, 51, 52, 53, 54, 55, 56, 57, 58, 59, 60, 61, 62, 63, 64, 65, 66, 67, 68, 69, 70, 71, 72, 73, 74, 100, 101, 102, 103, 104, 105, 106, 107, 108, 109, 110, 111, 112, 113, 114, 115, 116, 117, 118, 119, 120, 121, 122, 123, 124, 125, 126, 127, 128, 129, 130] (by decide +kernel) (by decide +kernel)
set_option maxRecDepth 20000 in
theorem gX5_carryOut_X5_setUp : GoodIn wsX5_carryOut (wsV RX5 155 RX5 yX5_setUp wsX5_setUp) := goodIn_app (goodIn_of _ (by decide +kernel)) ggX5_carryOut_X5_setUp
set_option maxRecDepth 20000 in
theorem ggX5_carryOut_X5_renumber : GoodIn wsX5_carryOut wsX5_renumber := goodIn_r _ [78, 2, 10, 11, 17, 18, 19, 7, 20, 21, 22, 23, 24, 79, 80, 81, 82, 12, 13, 14, 15, 16, 100, 101, 102, 103, 104, 105, 106, 107, 108, 109, 110, 111, 112, 113, 114, 115, 116, 117, 118, 119, 120, 121, 122, 123, 124, 125] (by decide +kernel) (by decide +kernel)
set_option maxRecDepth 20000 in
theorem gX5_carryOut_X5_renumber : GoodIn wsX5_carryOut (wsV RX5 158 RX5 yX5_renumber wsX5_renumber) := goodIn_app (goodIn_of _ (by decide +kernel)) ggX5_carryOut_X5_renumber
set_option maxRecDepth 20000 in
theorem ggX5_carryOut_X5_shift : GoodIn wsX5_carryOut wsX5_shift := goodIn_r _ [86, 2, 9, 12, 17, 18, 19, 7, 20, 21, 22, 23, 24, 11, 87, 88, 89, 90, 79, 80, 81, 82, 13, 14, 15, 16, 100, 101, 102, 103, 104, 105, 106, 107, 108, 109, 110, 111, 112, 113, 114, 115, 116, 117, 118, 119, 120, 121, 122, 123, 124, 125] (by decide +kernel) (by decide +kernel)
set_option maxRecDepth 20000 in
theorem gX5_carryOut_X5_shift : GoodIn wsX5_carryOut (wsV RX5 161 RX5 yX5_shift wsX5_shift) := goodIn_app (goodIn_of _ (by decide +kernel)) ggX5_carryOut_X5_shift
set_option maxRecDepth 20000 in
theorem ggX5_carryOut_X5_remove : GoodIn wsX5_carryOut wsX5_remove := goodIn_r _ [94, 11, 17, 18, 19, 7, 20, 21, 22, 23, 24, 87, 88, 89, 90, 79, 80, 81, 82, 12, 113, 114, 115, 116, 117, 118, 119, 120, 121, 122, 123, 124, 125] (by decide +kernel) (by decide +kernel)
set_option maxRecDepth 20000 in
theorem gX5_carryOut_X5_remove : GoodIn wsX5_carryOut (wsV RX5 167 RX5 yX5_remove wsX5_remove) := goodIn_app (goodIn_of _ (by decide +kernel)) ggX5_carryOut_X5_remove
set_option maxRecDepth 20000 in
theorem ggX5_carryOut_X5_retell : GoodIn wsX5_carryOut wsX5_retell := goodIn_r _ [98, 2, 99, 35, 36, 100, 101, 102, 103, 104, 105, 106, 107, 108, 109, 110, 111, 112, 113, 114, 115, 116, 117, 118, 119, 120, 121, 122, 123, 124, 125] (by decide +kernel) (by decide +kernel)
set_option maxRecDepth 20000 in
theorem gX5_carryOut_X5_retell : GoodIn wsX5_carryOut (wsV RX5 170 RX5 yX5_retell wsX5_retell) := goodIn_app (goodIn_of _ (by decide +kernel)) ggX5_carryOut_X5_retell
set_option maxRecDepth 20000 in
theorem ggX5_carryOut_X5_isThere : GoodIn wsX5_carryOut wsX5_isThere := goodIn_r _ [20, 21, 22, 23, 7, 24, 11, 113, 114, 115, 116, 117, 118, 119, 120, 121, 122, 123, 124, 125] (by decide +kernel) (by decide +kernel)
set_option maxRecDepth 20000 in
theorem gX5_carryOut_X5_isThere : GoodIn wsX5_carryOut (wsV RX5 173 RX5 yX5_isThere wsX5_isThere) := goodIn_app (goodIn_of _ (by decide +kernel)) ggX5_carryOut_X5_isThere
set_option maxRecDepth 20000 in
theorem ggX5_carryOut_X5_reword : GoodIn wsX5_carryOut wsX5_reword := goodIn_r _ [28, 1, 29, 30, 31, 32, 33, 7, 34, 35, 36, 37, 38, 39, 40, 41, 42, 43, 44, 45, 46, 47, 48, 49, 50, 51, 52, 53, 54, 55, 56, 57, 58, 59, 60, 61, 62, 63, 64, 65, 66, 67, 68, 69, 70, 71, 72, 73, 74, 100, 101, 102, 103, 104, 105, 106, 107, 108, 109, 110, 111, 112, 113, 114, 115, 116, 117, 118, 119, 120, 121, 122, 123, 124, 125, 126, 127, 128, 129, 130] (by decide +kernel) (by decide +kernel)
set_option maxRecDepth 20000 in
theorem gX5_carryOut_X5_reword : GoodIn wsX5_carryOut (wsV RX5 176 RX5 yX5_reword wsX5_reword) := goodIn_app (goodIn_of _ (by decide +kernel)) ggX5_carryOut_X5_reword
theorem dX5_carryOut_0 : decode cX5_carryOut 0 = .ok (.aload_n 1, 1) := by decide +kernel
theorem dX5_carryOut_1 : decode cX5_carryOut 1 = .ok (.getfield 152, 3) := by decide +kernel
theorem dX5_carryOut_4 : decode cX5_carryOut 4 = .ok (.tableswitch 81 0 7 #[48, 81, 81, 81, 54, 60, 66, 75], 48) := by decide +kernel
theorem dX5_carryOut_52 : decode cX5_carryOut 52 = .ok (.aload_n 0, 1) := by decide +kernel
theorem dX5_carryOut_53 : decode cX5_carryOut 53 = .ok (.aload_n 1, 1) := by decide +kernel
theorem dX5_carryOut_54 : decode cX5_carryOut 54 = .ok (.invokevirtual 155, 3) := by decide +kernel
theorem dX5_carryOut_57 : decode cX5_carryOut 57 = .ok (.ireturn, 1) := by decide +kernel
theorem dX5_carryOut_58 : decode cX5_carryOut 58 = .ok (.aload_n 0, 1) := by decide +kernel
theorem dX5_carryOut_59 : decode cX5_carryOut 59 = .ok (.aload_n 1, 1) := by decide +kernel
theorem dX5_carryOut_60 : decode cX5_carryOut 60 = .ok (.invokevirtual 158, 3) := by decide +kernel
theorem dX5_carryOut_63 : decode cX5_carryOut 63 = .ok (.ireturn, 1) := by decide +kernel
theorem dX5_carryOut_64 : decode cX5_carryOut 64 = .ok (.aload_n 0, 1) := by decide +kernel
theorem dX5_carryOut_65 : decode cX5_carryOut 65 = .ok (.aload_n 1, 1) := by decide +kernel
theorem dX5_carryOut_66 : decode cX5_carryOut 66 = .ok (.invokevirtual 161, 3) := by decide +kernel
theorem dX5_carryOut_69 : decode cX5_carryOut 69 = .ok (.ireturn, 1) := by decide +kernel
theorem dX5_carryOut_70 : decode cX5_carryOut 70 = .ok (.aload_n 0, 1) := by decide +kernel
theorem dX5_carryOut_71 : decode cX5_carryOut 71 = .ok (.aload_n 1, 1) := by decide +kernel
theorem dX5_carryOut_72 : decode cX5_carryOut 72 = .ok (.getfield 164, 3) := by decide +kernel
theorem dX5_carryOut_75 : decode cX5_carryOut 75 = .ok (.invokevirtual 167, 3) := by decide +kernel
theorem dX5_carryOut_78 : decode cX5_carryOut 78 = .ok (.ireturn, 1) := by decide +kernel
theorem dX5_carryOut_79 : decode cX5_carryOut 79 = .ok (.aload_n 0, 1) := by decide +kernel
theorem dX5_carryOut_80 : decode cX5_carryOut 80 = .ok (.aload_n 1, 1) := by decide +kernel
theorem dX5_carryOut_81 : decode cX5_carryOut 81 = .ok (.invokevirtual 170, 3) := by decide +kernel
theorem dX5_carryOut_84 : decode cX5_carryOut 84 = .ok (.ireturn, 1) := by decide +kernel
theorem dX5_carryOut_85 : decode cX5_carryOut 85 = .ok (.aload_n 0, 1) := by decide +kernel
theorem dX5_carryOut_86 : decode cX5_carryOut 86 = .ok (.aload_n 1, 1) := by decide +kernel
theorem dX5_carryOut_87 : decode cX5_carryOut 87 = .ok (.getfield 164, 3) := by decide +kernel
theorem dX5_carryOut_90 : decode cX5_carryOut 90 = .ok (.invokevirtual 173, 3) := by decide +kernel
theorem dX5_carryOut_93 : decode cX5_carryOut 93 = .ok (.ifCond .eq 24, 3) := by decide +kernel
theorem dX5_carryOut_96 : decode cX5_carryOut 96 = .ok (.aload_n 0, 1) := by decide +kernel
theorem dX5_carryOut_97 : decode cX5_carryOut 97 = .ok (.aload_n 1, 1) := by decide +kernel
theorem dX5_carryOut_98 : decode cX5_carryOut 98 = .ok (.aload_n 0, 1) := by decide +kernel
theorem dX5_carryOut_99 : decode cX5_carryOut 99 = .ok (.getfield 39, 3) := by decide +kernel
theorem dX5_carryOut_102 : decode cX5_carryOut 102 = .ok (.aload_n 1, 1) := by decide +kernel
theorem dX5_carryOut_103 : decode cX5_carryOut 103 = .ok (.getfield 164, 3) := by decide +kernel
theorem dX5_carryOut_106 : decode cX5_carryOut 106 = .ok (.aaload, 1) := by decide +kernel
theorem dX5_carryOut_107 : decode cX5_carryOut 107 = .ok (.invokevirtual 176, 3) := by decide +kernel
