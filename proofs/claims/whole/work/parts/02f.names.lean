theorem dX7_act_31 : decode cX7_act 31 = .ok (.aload_n 0, 1) := by decide +kernel
theorem dX7_act_32 : decode cX7_act 32 = .ok (.getfield 133, 3) := by decide +kernel
theorem dX7_act_35 : decode cX7_act 35 = .ok (.iastore, 1) := by decide +kernel
theorem dX7_act_36 : decode cX7_act 36 = .ok (.aload_n 0, 1) := by decide +kernel
theorem dX7_act_37 : decode cX7_act 37 = .ok (.dup, 1) := by decide +kernel
theorem dX7_act_38 : decode cX7_act 38 = .ok (.getfield 140, 3) := by decide +kernel
theorem dX7_act_41 : decode cX7_act 41 = .ok (.iconst 1, 1) := by decide +kernel
theorem dX7_act_42 : decode cX7_act 42 = .ok (.iadd, 1) := by decide +kernel
theorem dX7_act_43 : decode cX7_act 43 = .ok (.putfield 140, 3) := by decide +kernel
theorem dX7_act_46 : decode cX7_act 46 = .ok (.aload_n 0, 1) := by decide +kernel
theorem dX7_act_47 : decode cX7_act 47 = .ok (.getfield 140, 3) := by decide +kernel
theorem dX7_act_50 : decode cX7_act 50 = .ok (.iconst 1, 1) := by decide +kernel
theorem dX7_act_51 : decode cX7_act 51 = .ok (.isub, 1) := by decide +kernel
theorem dX7_act_52 : decode cX7_act 52 = .ok (.ireturn, 1) := by decide +kernel
set_option maxRecDepth 20000 in
theorem ggX7_terms_X7_isIn : GoodIn wsX7_terms wsX7_isIn := goodIn_r _ [8] (by decide +kernel) (by decide +kernel)
set_option maxRecDepth 20000 in
theorem gX7_terms_X7_isIn : GoodIn wsX7_terms (va_wsS RX7 126 yX7_isIn wsX7_isIn) := goodIn_app (goodIn_of _ (by decide +kernel)) ggX7_terms_X7_isIn
set_option maxRecDepth 20000 in
theorem ggX7_terms_X7_isDay : GoodIn wsX7_terms wsX7_isDay := goodIn_r _ [11, 5, 6, 7, 8] (by decide +kernel) (by decide +kernel)
set_option maxRecDepth 20000 in
theorem gX7_terms_X7_isDay : GoodIn wsX7_terms (va_wsS RX7 143 yX7_isDay wsX7_isDay) := goodIn_app (goodIn_of _ (by decide +kernel)) ggX7_terms_X7_isDay
set_option maxRecDepth 20000 in
theorem ggX7_terms_X7_isInstruction : GoodIn wsX7_terms wsX7_isInstruction := goodIn_r _ [15, 16, 5, 6, 7, 8, 22, 23, 24, 25, 26, 27, 28, 29, 30, 31, 32, 33, 34, 35, 36, 37, 38, 39, 40, 41, 42, 43, 44, 45, 46, 47, 48, 49, 50, 51, 52, 53, 54, 55, 56, 57, 58, 59, 60, 61, 62, 63, 64, 65, 66, 67, 68, 69, 70] (by decide +kernel) (by decide +kernel)
set_option maxRecDepth 20000 in
theorem gX7_terms_X7_isInstruction : GoodIn wsX7_terms (wsV RX7 146 RX7 yX7_isInstruction wsX7_isInstruction) := goodIn_app (goodIn_of _ (by decide +kernel)) ggX7_terms_X7_isInstruction
set_option maxRecDepth 20000 in
theorem ggX7_terms_X7_goes : GoodIn wsX7_terms wsX7_goes := goodIn_r _ [20, 21, 22, 23, 24, 25, 26, 27, 28, 29, 30, 31, 32, 33, 34, 35, 36, 37, 38, 39, 40, 41, 42, 43, 44, 45, 46, 47, 48, 49, 50, 51, 52, 53, 54, 55, 56, 57, 58, 59, 60, 61, 62, 63, 64, 65, 66, 67, 68, 69, 70] (by decide +kernel) (by decide +kernel)
set_option maxRecDepth 20000 in
theorem gX7_terms_X7_goes : GoodIn wsX7_terms (wsV RX7 136 RX7 yX7_goes wsX7_goes) := goodIn_app (goodIn_of _ (by decide +kernel)) ggX7_terms_X7_goes
theorem dX7_terms_0 : decode cX7_terms 0 = .ok (.iload_n 1, 1) := by decide +kernel
theorem dX7_terms_1 : decode cX7_terms 1 = .ok (.iconst 0, 1) := by decide +kernel
theorem dX7_terms_2 : decode cX7_terms 2 = .ok (.iconst 2, 1) := by decide +kernel
theorem dX7_terms_3 : decode cX7_terms 3 = .ok (.invokestatic 126, 3) := by decide +kernel
theorem dX7_terms_6 : decode cX7_terms 6 = .ok (.ifCond .eq 42, 3) := by decide +kernel
theorem dX7_terms_9 : decode cX7_terms 9 = .ok (.iload_n 1, 1) := by decide +kernel
theorem dX7_terms_10 : decode cX7_terms 10 = .ok (.ifCond .ne 10, 3) := by decide +kernel
theorem dX7_terms_13 : decode cX7_terms 13 = .ok (.iload_n 2, 1) := by decide +kernel
theorem dX7_terms_14 : decode cX7_terms 14 = .ok (.invokestatic 143, 3) := by decide +kernel
theorem dX7_terms_17 : decode cX7_terms 17 = .ok (.ifCond .eq 31, 3) := by decide +kernel
theorem dX7_terms_20 : decode cX7_terms 20 = .ok (.iload_n 3, 1) := by decide +kernel
theorem dX7_terms_21 : decode cX7_terms 21 = .ok (.iconst 1, 1) := by decide +kernel
theorem dX7_terms_22 : decode cX7_terms 22 = .ok (.bipush 7, 2) := by decide +kernel
theorem dX7_terms_24 : decode cX7_terms 24 = .ok (.invokestatic 126, 3) := by decide +kernel
theorem dX7_terms_27 : decode cX7_terms 27 = .ok (.ifCond .eq 21, 3) := by decide +kernel
theorem dX7_terms_30 : decode cX7_terms 30 = .ok (.iload 4, 2) := by decide +kernel
theorem dX7_terms_32 : decode cX7_terms 32 = .ok (.iconst (-1), 1) := by decide +kernel
theorem dX7_terms_33 : decode cX7_terms 33 = .ok (.if_icmp .eq 11, 3) := by decide +kernel
theorem dX7_terms_36 : decode cX7_terms 36 = .ok (.iload 4, 2) := by decide +kernel
theorem dX7_terms_38 : decode cX7_terms 38 = .ok (.invokestatic 143, 3) := by decide +kernel
theorem dX7_terms_41 : decode cX7_terms 41 = .ok (.ifCond .eq 7, 3) := by decide +kernel
theorem dX7_terms_44 : decode cX7_terms 44 = .ok (.iconst 1, 1) := by decide +kernel
theorem dX7_terms_45 : decode cX7_terms 45 = .ok (.goto 4, 3) := by decide +kernel
theorem dX7_terms_48 : decode cX7_terms 48 = .ok (.iconst 0, 1) := by decide +kernel
theorem dX7_terms_49 : decode cX7_terms 49 = .ok (.istore 5, 2) := by decide +kernel
theorem dX7_terms_51 : decode cX7_terms 51 = .ok (.aload_n 0, 1) := by decide +kernel
theorem dX7_terms_52 : decode cX7_terms 52 = .ok (.iload_n 1, 1) := by decide +kernel
theorem dX7_terms_53 : decode cX7_terms 53 = .ok (.iconst 2, 1) := by decide +kernel
theorem dX7_terms_54 : decode cX7_terms 54 = .ok (.if_icmp .ne 15, 3) := by decide +kernel
theorem dX7_terms_57 : decode cX7_terms 57 = .ok (.aload_n 0, 1) := by decide +kernel
theorem dX7_terms_58 : decode cX7_terms 58 = .ok (.iload_n 2, 1) := by decide +kernel
theorem dX7_terms_59 : decode cX7_terms 59 = .ok (.invokevirtual 146, 3) := by decide +kernel
theorem dX7_terms_62 : decode cX7_terms 62 = .ok (.ifCond .ne 7, 3) := by decide +kernel
theorem dX7_terms_65 : decode cX7_terms 65 = .ok (.iconst 1, 1) := by decide +kernel
theorem dX7_terms_66 : decode cX7_terms 66 = .ok (.goto 13, 3) := by decide +kernel
theorem dX7_terms_69 : decode cX7_terms 69 = .ok (.iload 5, 2) := by decide +kernel
theorem dX7_terms_71 : decode cX7_terms 71 = .ok (.ifCond .eq 7, 3) := by decide +kernel
theorem dX7_terms_74 : decode cX7_terms 74 = .ok (.iconst 0, 1) := by decide +kernel
theorem dX7_terms_75 : decode cX7_terms 75 = .ok (.goto 4, 3) := by decide +kernel
theorem dX7_terms_78 : decode cX7_terms 78 = .ok (.iconst 2, 1) := by decide +kernel
theorem dX7_terms_79 : decode cX7_terms 79 = .ok (.invokevirtual 136, 3) := by decide +kernel
theorem dX7_terms_82 : decode cX7_terms 82 = .ok (.ifCond .eq 24, 3) := by decide +kernel
theorem dX7_terms_85 : decode cX7_terms 85 = .ok (.aload_n 0, 1) := by decide +kernel
theorem dX7_terms_86 : decode cX7_terms 86 = .ok (.iload_n 1, 1) := by decide +kernel
theorem dX7_terms_87 : decode cX7_terms 87 = .ok (.putfield 149, 3) := by decide +kernel
theorem dX7_terms_90 : decode cX7_terms 90 = .ok (.aload_n 0, 1) := by decide +kernel
theorem dX7_terms_91 : decode cX7_terms 91 = .ok (.iload_n 2, 1) := by decide +kernel
theorem dX7_terms_92 : decode cX7_terms 92 = .ok (.putfield 152, 3) := by decide +kernel
theorem dX7_terms_95 : decode cX7_terms 95 = .ok (.aload_n 0, 1) := by decide +kernel
theorem dX7_terms_96 : decode cX7_terms 96 = .ok (.iload_n 3, 1) := by decide +kernel
theorem dX7_terms_97 : decode cX7_terms 97 = .ok (.putfield 13, 3) := by decide +kernel
theorem dX7_terms_100 : decode cX7_terms 100 = .ok (.aload_n 0, 1) := by decide +kernel
theorem dX7_terms_101 : decode cX7_terms 101 = .ok (.iload 4, 2) := by decide +kernel
theorem dX7_terms_103 : decode cX7_terms 103 = .ok (.putfield 17, 3) := by decide +kernel
theorem dX7_terms_106 : decode cX7_terms 106 = .ok (.return_, 1) := by decide +kernel
set_option maxRecDepth 20000 in
theorem ggX7_word_X7_isIn : GoodIn wsX7_word wsX7_isIn := goodIn_r _ [8] (by decide +kernel) (by decide +kernel)
set_option maxRecDepth 20000 in
theorem gX7_word_X7_isIn : GoodIn wsX7_word (va_wsS RX7 126 yX7_isIn wsX7_isIn) := goodIn_app (goodIn_of _ (by decide +kernel)) ggX7_word_X7_isIn
set_option maxRecDepth 20000 in
theorem ggX7_word_X7_goes : GoodIn wsX7_word wsX7_goes := goodIn_r _ [12, 13, 14, 15, 16, 17, 18, 19, 20, 21, 22, 23, 24, 25, 26, 27, 28, 29, 30, 31, 32, 33, 34, 35, 36, 37, 38, 39, 40, 41, 42, 43, 44, 45, 46, 47, 48, 49, 50, 51, 52, 53, 54, 55, 56, 57, 58, 59, 60, 61, 62] (by decide +kernel) (by decide +kernel)
set_option maxRecDepth 20000 in
theorem gX7_word_X7_goes : GoodIn wsX7_word (wsV RX7 136 RX7 yX7_goes wsX7_goes) := goodIn_app (goodIn_of _ (by decide +kernel)) ggX7_word_X7_goes
theorem dX7_word_0 : decode cX7_word 0 = .ok (.aload_n 0, 1) := by decide +kernel
theorem dX7_word_1 : decode cX7_word 1 = .ok (.iload_n 1, 1) := by decide +kernel
theorem dX7_word_2 : decode cX7_word 2 = .ok (.iconst 0, 1) := by decide +kernel
theorem dX7_word_3 : decode cX7_word 3 = .ok (.sipush 139, 3) := by decide +kernel
theorem dX7_word_6 : decode cX7_word 6 = .ok (.invokestatic 126, 3) := by decide +kernel
theorem dX7_word_9 : decode cX7_word 9 = .ok (.ifCond .ne 7, 3) := by decide +kernel
theorem dX7_word_12 : decode cX7_word 12 = .ok (.iconst 1, 1) := by decide +kernel
theorem dX7_word_13 : decode cX7_word 13 = .ok (.goto 27, 3) := by decide +kernel
theorem dX7_word_16 : decode cX7_word 16 = .ok (.iload_n 2, 1) := by decide +kernel
theorem dX7_word_17 : decode cX7_word 17 = .ok (.ifCond .eq 10, 3) := by decide +kernel
theorem dX7_word_20 : decode cX7_word 20 = .ok (.aload_n 0, 1) := by decide +kernel
theorem dX7_word_21 : decode cX7_word 21 = .ok (.getfield 155, 3) := by decide +kernel
theorem dX7_word_24 : decode cX7_word 24 = .ok (.goto 7, 3) := by decide +kernel
theorem dX7_word_27 : decode cX7_word 27 = .ok (.aload_n 0, 1) := by decide +kernel
theorem dX7_word_28 : decode cX7_word 28 = .ok (.getfield 158, 3) := by decide +kernel
theorem dX7_word_31 : decode cX7_word 31 = .ok (.iconst 4, 1) := by decide +kernel
theorem dX7_word_32 : decode cX7_word 32 = .ok (.if_icmp .ne 7, 3) := by decide +kernel
theorem dX7_word_35 : decode cX7_word 35 = .ok (.iconst 2, 1) := by decide +kernel
theorem dX7_word_36 : decode cX7_word 36 = .ok (.goto 4, 3) := by decide +kernel
theorem dX7_word_39 : decode cX7_word 39 = .ok (.iconst 0, 1) := by decide +kernel
theorem dX7_word_40 : decode cX7_word 40 = .ok (.invokevirtual 136, 3) := by decide +kernel
theorem dX7_word_43 : decode cX7_word 43 = .ok (.ifCond .ne 5, 3) := by decide +kernel
theorem dX7_word_46 : decode cX7_word 46 = .ok (.iconst 0, 1) := by decide +kernel
theorem dX7_word_47 : decode cX7_word 47 = .ok (.ireturn, 1) := by decide +kernel
theorem dX7_word_48 : decode cX7_word 48 = .ok (.iload_n 2, 1) := by decide +kernel
theorem dX7_word_49 : decode cX7_word 49 = .ok (.ifCond .eq 28, 3) := by decide +kernel
theorem dX7_word_52 : decode cX7_word 52 = .ok (.aload_n 0, 1) := by decide +kernel
theorem dX7_word_53 : decode cX7_word 53 = .ok (.getfield 23, 3) := by decide +kernel
theorem dX7_word_56 : decode cX7_word 56 = .ok (.aload_n 0, 1) := by decide +kernel
theorem dX7_word_57 : decode cX7_word 57 = .ok (.getfield 155, 3) := by decide +kernel
theorem dX7_word_60 : decode cX7_word 60 = .ok (.iload_n 1, 1) := by decide +kernel
theorem dX7_word_61 : decode cX7_word 61 = .ok (.iastore, 1) := by decide +kernel
theorem dX7_word_62 : decode cX7_word 62 = .ok (.aload_n 0, 1) := by decide +kernel
theorem dX7_word_63 : decode cX7_word 63 = .ok (.dup, 1) := by decide +kernel
theorem dX7_word_64 : decode cX7_word 64 = .ok (.getfield 155, 3) := by decide +kernel
theorem dX7_word_67 : decode cX7_word 67 = .ok (.iconst 1, 1) := by decide +kernel
theorem dX7_word_68 : decode cX7_word 68 = .ok (.iadd, 1) := by decide +kernel
theorem dX7_word_69 : decode cX7_word 69 = .ok (.putfield 155, 3) := by decide +kernel
theorem dX7_word_72 : decode cX7_word 72 = .ok (.aload_n 0, 1) := by decide +kernel
theorem dX7_word_73 : decode cX7_word 73 = .ok (.getfield 155, 3) := by decide +kernel
theorem dX7_word_76 : decode cX7_word 76 = .ok (.ireturn, 1) := by decide +kernel
theorem dX7_word_77 : decode cX7_word 77 = .ok (.aload_n 0, 1) := by decide +kernel
theorem dX7_word_78 : decode cX7_word 78 = .ok (.getfield 20, 3) := by decide +kernel
theorem dX7_word_81 : decode cX7_word 81 = .ok (.aload_n 0, 1) := by decide +kernel
theorem dX7_word_82 : decode cX7_word 82 = .ok (.getfield 158, 3) := by decide +kernel
theorem dX7_word_85 : decode cX7_word 85 = .ok (.iload_n 1, 1) := by decide +kernel
theorem dX7_word_86 : decode cX7_word 86 = .ok (.iastore, 1) := by decide +kernel
theorem dX7_word_87 : decode cX7_word 87 = .ok (.aload_n 0, 1) := by decide +kernel
theorem dX7_word_88 : decode cX7_word 88 = .ok (.dup, 1) := by decide +kernel
theorem dX7_word_89 : decode cX7_word 89 = .ok (.getfield 158, 3) := by decide +kernel
theorem dX7_word_92 : decode cX7_word 92 = .ok (.iconst 1, 1) := by decide +kernel
theorem dX7_word_93 : decode cX7_word 93 = .ok (.iadd, 1) := by decide +kernel
theorem dX7_word_94 : decode cX7_word 94 = .ok (.putfield 158, 3) := by decide +kernel
theorem dX7_word_97 : decode cX7_word 97 = .ok (.aload_n 0, 1) := by decide +kernel
theorem dX7_word_98 : decode cX7_word 98 = .ok (.getfield 158, 3) := by decide +kernel
theorem dX7_word_101 : decode cX7_word 101 = .ok (.ireturn, 1) := by decide +kernel
set_option maxRecDepth 20000 in
theorem ggX7_isLabel_X7_isIn : GoodIn wsX7_isLabel wsX7_isIn := goodIn_r _ [4] (by decide +kernel) (by decide +kernel)
set_option maxRecDepth 20000 in
theorem gX7_isLabel_X7_isIn : GoodIn wsX7_isLabel (va_wsS RX7 126 yX7_isIn wsX7_isIn) := goodIn_app (goodIn_of _ (by decide +kernel)) ggX7_isLabel_X7_isIn
theorem dX7_isLabel_0 : decode cX7_isLabel 0 = .ok (.iload_n 0, 1) := by decide +kernel
theorem dX7_isLabel_1 : decode cX7_isLabel 1 = .ok (.iconst 1, 1) := by decide +kernel
theorem dX7_isLabel_2 : decode cX7_isLabel 2 = .ok (.bipush 99, 2) := by decide +kernel
theorem dX7_isLabel_4 : decode cX7_isLabel 4 = .ok (.invokestatic 126, 3) := by decide +kernel
theorem dX7_isLabel_7 : decode cX7_isLabel 7 = .ok (.ifCond .eq 31, 3) := by decide +kernel
theorem dX7_isLabel_10 : decode cX7_isLabel 10 = .ok (.iload_n 1, 1) := by decide +kernel
theorem dX7_isLabel_11 : decode cX7_isLabel 11 = .ok (.iconst 0, 1) := by decide +kernel
theorem dX7_isLabel_12 : decode cX7_isLabel 12 = .ok (.sipush 728, 3) := by decide +kernel
theorem dX7_isLabel_15 : decode cX7_isLabel 15 = .ok (.invokestatic 126, 3) := by decide +kernel
theorem dX7_isLabel_18 : decode cX7_isLabel 18 = .ok (.ifCond .eq 20, 3) := by decide +kernel
theorem dX7_isLabel_21 : decode cX7_isLabel 21 = .ok (.iload_n 1, 1) := by decide +kernel
theorem dX7_isLabel_22 : decode cX7_isLabel 22 = .ok (.bipush 27, 2) := by decide +kernel
theorem dX7_isLabel_24 : decode cX7_isLabel 24 = .ok (.if_icmp .lt 10, 3) := by decide +kernel
theorem dX7_isLabel_27 : decode cX7_isLabel 27 = .ok (.iload_n 1, 1) := by decide +kernel
theorem dX7_isLabel_28 : decode cX7_isLabel 28 = .ok (.bipush 27, 2) := by decide +kernel
theorem dX7_isLabel_30 : decode cX7_isLabel 30 = .ok (.irem, 1) := by decide +kernel
theorem dX7_isLabel_31 : decode cX7_isLabel 31 = .ok (.ifCond .le 7, 3) := by decide +kernel
theorem dX7_isLabel_34 : decode cX7_isLabel 34 = .ok (.iconst 1, 1) := by decide +kernel
theorem dX7_isLabel_35 : decode cX7_isLabel 35 = .ok (.goto 4, 3) := by decide +kernel
theorem dX7_isLabel_38 : decode cX7_isLabel 38 = .ok (.iconst 0, 1) := by decide +kernel
theorem dX7_isLabel_39 : decode cX7_isLabel 39 = .ok (.ireturn, 1) := by decide +kernel
theorem dX7_isShut_0 : decode cX7_isShut 0 = .ok (.aload_n 0, 1) := by decide +kernel
theorem dX7_isShut_1 : decode cX7_isShut 1 = .ok (.getfield 140, 3) := by decide +kernel
theorem dX7_isShut_4 : decode cX7_isShut 4 = .ok (.ifCond .eq 30, 3) := by decide +kernel
theorem dX7_isShut_7 : decode cX7_isShut 7 = .ok (.aload_n 0, 1) := by decide +kernel
theorem dX7_isShut_8 : decode cX7_isShut 8 = .ok (.getfield 7, 3) := by decide +kernel
theorem dX7_isShut_11 : decode cX7_isShut 11 = .ok (.aload_n 0, 1) := by decide +kernel
theorem dX7_isShut_12 : decode cX7_isShut 12 = .ok (.getfield 140, 3) := by decide +kernel
theorem dX7_isShut_15 : decode cX7_isShut 15 = .ok (.iconst 1, 1) := by decide +kernel
theorem dX7_isShut_16 : decode cX7_isShut 16 = .ok (.isub, 1) := by decide +kernel
theorem dX7_isShut_17 : decode cX7_isShut 17 = .ok (.iaload, 1) := by decide +kernel
theorem dX7_isShut_18 : decode cX7_isShut 18 = .ok (.aload_n 0, 1) := by decide +kernel
theorem dX7_isShut_19 : decode cX7_isShut 19 = .ok (.getfield 133, 3) := by decide +kernel
theorem dX7_isShut_22 : decode cX7_isShut 22 = .ok (.if_icmp .ne 12, 3) := by decide +kernel
theorem dX7_isShut_25 : decode cX7_isShut 25 = .ok (.aload_n 0, 1) := by decide +kernel
theorem dX7_isShut_26 : decode cX7_isShut 26 = .ok (.getfield 123, 3) := by decide +kernel
theorem dX7_isShut_29 : decode cX7_isShut 29 = .ok (.bipush 40, 2) := by decide +kernel
theorem dX7_isShut_31 : decode cX7_isShut 31 = .ok (.if_icmp .ne 7, 3) := by decide +kernel
theorem dX7_isShut_34 : decode cX7_isShut 34 = .ok (.iconst 1, 1) := by decide +kernel
theorem dX7_isShut_35 : decode cX7_isShut 35 = .ok (.goto 4, 3) := by decide +kernel
theorem dX7_isShut_38 : decode cX7_isShut 38 = .ok (.iconst 0, 1) := by decide +kernel
theorem dX7_isShut_39 : decode cX7_isShut 39 = .ok (.ireturn, 1) := by decide +kernel
theorem dX7_lays_0 : decode cX7_lays 0 = .ok (.aload_n 0, 1) := by decide +kernel
theorem dX7_lays_1 : decode cX7_lays 1 = .ok (.getfield 123, 3) := by decide +kernel
theorem dX7_lays_4 : decode cX7_lays 4 = .ok (.istore 5, 2) := by decide +kernel
theorem dX7_lays_6 : decode cX7_lays 6 = .ok (.aload_n 0, 1) := by decide +kernel
theorem dX7_lays_7 : decode cX7_lays 7 = .ok (.getfield 26, 3) := by decide +kernel
theorem dX7_lays_10 : decode cX7_lays 10 = .ok (.iload 5, 2) := by decide +kernel
theorem dX7_lays_12 : decode cX7_lays 12 = .ok (.iload_n 1, 1) := by decide +kernel
theorem dX7_lays_13 : decode cX7_lays 13 = .ok (.iastore, 1) := by decide +kernel
theorem dX7_lays_14 : decode cX7_lays 14 = .ok (.aload_n 0, 1) := by decide +kernel
theorem dX7_lays_15 : decode cX7_lays 15 = .ok (.getfield 29, 3) := by decide +kernel
theorem dX7_lays_18 : decode cX7_lays 18 = .ok (.iload 5, 2) := by decide +kernel
theorem dX7_lays_20 : decode cX7_lays 20 = .ok (.aload_n 0, 1) := by decide +kernel
theorem dX7_lays_21 : decode cX7_lays 21 = .ok (.getfield 140, 3) := by decide +kernel
theorem dX7_lays_24 : decode cX7_lays 24 = .ok (.iconst 1, 1) := by decide +kernel
theorem dX7_lays_25 : decode cX7_lays 25 = .ok (.isub, 1) := by decide +kernel
theorem dX7_lays_26 : decode cX7_lays 26 = .ok (.iastore, 1) := by decide +kernel
theorem dX7_lays_27 : decode cX7_lays 27 = .ok (.aload_n 0, 1) := by decide +kernel
theorem dX7_lays_28 : decode cX7_lays 28 = .ok (.getfield 32, 3) := by decide +kernel
theorem dX7_lays_31 : decode cX7_lays 31 = .ok (.iload 5, 2) := by decide +kernel
theorem dX7_lays_33 : decode cX7_lays 33 = .ok (.iload_n 2, 1) := by decide +kernel
theorem dX7_lays_34 : decode cX7_lays 34 = .ok (.iastore, 1) := by decide +kernel
theorem dX7_lays_35 : decode cX7_lays 35 = .ok (.aload_n 0, 1) := by decide +kernel
theorem dX7_lays_36 : decode cX7_lays 36 = .ok (.getfield 35, 3) := by decide +kernel
theorem dX7_lays_39 : decode cX7_lays 39 = .ok (.iload 5, 2) := by decide +kernel
theorem dX7_lays_41 : decode cX7_lays 41 = .ok (.iload_n 3, 1) := by decide +kernel
theorem dX7_lays_42 : decode cX7_lays 42 = .ok (.iastore, 1) := by decide +kernel
theorem dX7_lays_43 : decode cX7_lays 43 = .ok (.aload_n 0, 1) := by decide +kernel
theorem dX7_lays_44 : decode cX7_lays 44 = .ok (.getfield 38, 3) := by decide +kernel
theorem dX7_lays_47 : decode cX7_lays 47 = .ok (.iload 5, 2) := by decide +kernel
theorem dX7_lays_49 : decode cX7_lays 49 = .ok (.iload 4, 2) := by decide +kernel
theorem dX7_lays_51 : decode cX7_lays 51 = .ok (.iastore, 1) := by decide +kernel
theorem dX7_lays_52 : decode cX7_lays 52 = .ok (.aload_n 0, 1) := by decide +kernel
theorem dX7_lays_53 : decode cX7_lays 53 = .ok (.getfield 41, 3) := by decide +kernel
theorem dX7_lays_56 : decode cX7_lays 56 = .ok (.iload 5, 2) := by decide +kernel
theorem dX7_lays_58 : decode cX7_lays 58 = .ok (.aload_n 0, 1) := by decide +kernel
theorem dX7_lays_59 : decode cX7_lays 59 = .ok (.getfield 158, 3) := by decide +kernel
theorem dX7_lays_62 : decode cX7_lays 62 = .ok (.iastore, 1) := by decide +kernel
theorem dX7_lays_63 : decode cX7_lays 63 = .ok (.aload_n 0, 1) := by decide +kernel
theorem dX7_lays_64 : decode cX7_lays 64 = .ok (.getfield 47, 3) := by decide +kernel
theorem dX7_lays_67 : decode cX7_lays 67 = .ok (.iload 5, 2) := by decide +kernel
theorem dX7_lays_69 : decode cX7_lays 69 = .ok (.aload_n 0, 1) := by decide +kernel
theorem dX7_lays_70 : decode cX7_lays 70 = .ok (.getfield 155, 3) := by decide +kernel
theorem dX7_lays_73 : decode cX7_lays 73 = .ok (.iastore, 1) := by decide +kernel
theorem dX7_lays_74 : decode cX7_lays 74 = .ok (.iconst 0, 1) := by decide +kernel
theorem dX7_lays_75 : decode cX7_lays 75 = .ok (.istore 6, 2) := by decide +kernel
theorem dX7_lays_77 : decode cX7_lays 77 = .ok (.iload 6, 2) := by decide +kernel
theorem dX7_lays_79 : decode cX7_lays 79 = .ok (.iconst 4, 1) := by decide +kernel
theorem dX7_lays_80 : decode cX7_lays 80 = .ok (.if_icmp .ge 47, 3) := by decide +kernel
theorem dX7_lays_83 : decode cX7_lays 83 = .ok (.aload_n 0, 1) := by decide +kernel
theorem dX7_lays_84 : decode cX7_lays 84 = .ok (.getfield 44, 3) := by decide +kernel
theorem dX7_lays_87 : decode cX7_lays 87 = .ok (.iconst 4, 1) := by decide +kernel
theorem dX7_lays_88 : decode cX7_lays 88 = .ok (.iload 5, 2) := by decide +kernel
theorem dX7_lays_90 : decode cX7_lays 90 = .ok (.imul, 1) := by decide +kernel
theorem dX7_lays_91 : decode cX7_lays 91 = .ok (.iload 6, 2) := by decide +kernel
theorem dX7_lays_93 : decode cX7_lays 93 = .ok (.iadd, 1) := by decide +kernel
theorem dX7_lays_94 : decode cX7_lays 94 = .ok (.aload_n 0, 1) := by decide +kernel
theorem dX7_lays_95 : decode cX7_lays 95 = .ok (.getfield 20, 3) := by decide +kernel
theorem dX7_lays_98 : decode cX7_lays 98 = .ok (.iload 6, 2) := by decide +kernel
theorem dX7_lays_100 : decode cX7_lays 100 = .ok (.iaload, 1) := by decide +kernel
theorem dX7_lays_101 : decode cX7_lays 101 = .ok (.iastore, 1) := by decide +kernel
theorem dX7_lays_102 : decode cX7_lays 102 = .ok (.aload_n 0, 1) := by decide +kernel
theorem dX7_lays_103 : decode cX7_lays 103 = .ok (.getfield 50, 3) := by decide +kernel
theorem dX7_lays_106 : decode cX7_lays 106 = .ok (.iconst 4, 1) := by decide +kernel
theorem dX7_lays_107 : decode cX7_lays 107 = .ok (.iload 5, 2) := by decide +kernel
theorem dX7_lays_109 : decode cX7_lays 109 = .ok (.imul, 1) := by decide +kernel
theorem dX7_lays_110 : decode cX7_lays 110 = .ok (.iload 6, 2) := by decide +kernel
theorem dX7_lays_112 : decode cX7_lays 112 = .ok (.iadd, 1) := by decide +kernel
theorem dX7_lays_113 : decode cX7_lays 113 = .ok (.aload_n 0, 1) := by decide +kernel
theorem dX7_lays_114 : decode cX7_lays 114 = .ok (.getfield 23, 3) := by decide +kernel
theorem dX7_lays_117 : decode cX7_lays 117 = .ok (.iload 6, 2) := by decide +kernel
theorem dX7_lays_119 : decode cX7_lays 119 = .ok (.iaload, 1) := by decide +kernel
theorem dX7_lays_120 : decode cX7_lays 120 = .ok (.iastore, 1) := by decide +kernel
theorem dX7_lays_121 : decode cX7_lays 121 = .ok (.iinc 6 1, 3) := by decide +kernel
theorem dX7_lays_124 : decode cX7_lays 124 = .ok (.goto (-47), 3) := by decide +kernel
theorem dX7_lays_127 : decode cX7_lays 127 = .ok (.aload_n 0, 1) := by decide +kernel
theorem dX7_lays_128 : decode cX7_lays 128 = .ok (.getfield 53, 3) := by decide +kernel
theorem dX7_lays_131 : decode cX7_lays 131 = .ok (.iload 5, 2) := by decide +kernel
theorem dX7_lays_133 : decode cX7_lays 133 = .ok (.aload_n 0, 1) := by decide +kernel
theorem dX7_lays_134 : decode cX7_lays 134 = .ok (.getfield 149, 3) := by decide +kernel
theorem dX7_lays_137 : decode cX7_lays 137 = .ok (.iastore, 1) := by decide +kernel
theorem dX7_lays_138 : decode cX7_lays 138 = .ok (.aload_n 0, 1) := by decide +kernel
theorem dX7_lays_139 : decode cX7_lays 139 = .ok (.getfield 56, 3) := by decide +kernel
theorem dX7_lays_142 : decode cX7_lays 142 = .ok (.iload 5, 2) := by decide +kernel
theorem dX7_lays_144 : decode cX7_lays 144 = .ok (.aload_n 0, 1) := by decide +kernel
theorem dX7_lays_145 : decode cX7_lays 145 = .ok (.getfield 152, 3) := by decide +kernel
theorem dX7_lays_148 : decode cX7_lays 148 = .ok (.iastore, 1) := by decide +kernel
theorem dX7_lays_149 : decode cX7_lays 149 = .ok (.aload_n 0, 1) := by decide +kernel
theorem dX7_lays_150 : decode cX7_lays 150 = .ok (.getfield 59, 3) := by decide +kernel
theorem dX7_lays_153 : decode cX7_lays 153 = .ok (.iload 5, 2) := by decide +kernel
theorem dX7_lays_155 : decode cX7_lays 155 = .ok (.aload_n 0, 1) := by decide +kernel
theorem dX7_lays_156 : decode cX7_lays 156 = .ok (.getfield 13, 3) := by decide +kernel
theorem dX7_lays_159 : decode cX7_lays 159 = .ok (.iastore, 1) := by decide +kernel
theorem dX7_lays_160 : decode cX7_lays 160 = .ok (.aload_n 0, 1) := by decide +kernel
theorem dX7_lays_161 : decode cX7_lays 161 = .ok (.getfield 62, 3) := by decide +kernel
theorem dX7_lays_164 : decode cX7_lays 164 = .ok (.iload 5, 2) := by decide +kernel
theorem dX7_lays_166 : decode cX7_lays 166 = .ok (.aload_n 0, 1) := by decide +kernel
theorem dX7_lays_167 : decode cX7_lays 167 = .ok (.getfield 17, 3) := by decide +kernel
theorem dX7_lays_170 : decode cX7_lays 170 = .ok (.iastore, 1) := by decide +kernel
theorem dX7_lays_171 : decode cX7_lays 171 = .ok (.aload_n 0, 1) := by decide +kernel
theorem dX7_lays_172 : decode cX7_lays 172 = .ok (.getfield 65, 3) := by decide +kernel
theorem dX7_lays_175 : decode cX7_lays 175 = .ok (.iload 5, 2) := by decide +kernel
theorem dX7_lays_177 : decode cX7_lays 177 = .ok (.iconst (-1), 1) := by decide +kernel
theorem dX7_lays_178 : decode cX7_lays 178 = .ok (.iastore, 1) := by decide +kernel
theorem dX7_lays_179 : decode cX7_lays 179 = .ok (.aload_n 0, 1) := by decide +kernel
theorem dX7_lays_180 : decode cX7_lays 180 = .ok (.getfield 71, 3) := by decide +kernel
theorem dX7_lays_183 : decode cX7_lays 183 = .ok (.iload 5, 2) := by decide +kernel
theorem dX7_lays_185 : decode cX7_lays 185 = .ok (.iconst (-1), 1) := by decide +kernel
theorem dX7_lays_186 : decode cX7_lays 186 = .ok (.iastore, 1) := by decide +kernel
theorem dX7_lays_187 : decode cX7_lays 187 = .ok (.aload_n 0, 1) := by decide +kernel
theorem dX7_lays_188 : decode cX7_lays 188 = .ok (.getfield 77, 3) := by decide +kernel
theorem dX7_lays_191 : decode cX7_lays 191 = .ok (.iload 5, 2) := by decide +kernel
theorem dX7_lays_193 : decode cX7_lays 193 = .ok (.iconst (-1), 1) := by decide +kernel
theorem dX7_lays_194 : decode cX7_lays 194 = .ok (.iastore, 1) := by decide +kernel
theorem dX7_lays_195 : decode cX7_lays 195 = .ok (.aload_n 0, 1) := by decide +kernel
theorem dX7_lays_196 : decode cX7_lays 196 = .ok (.iconst 0, 1) := by decide +kernel
theorem dX7_lays_197 : decode cX7_lays 197 = .ok (.putfield 158, 3) := by decide +kernel
theorem dX7_lays_200 : decode cX7_lays 200 = .ok (.aload_n 0, 1) := by decide +kernel
theorem dX7_lays_201 : decode cX7_lays 201 = .ok (.iconst 0, 1) := by decide +kernel
theorem dX7_lays_202 : decode cX7_lays 202 = .ok (.putfield 155, 3) := by decide +kernel
theorem dX7_lays_205 : decode cX7_lays 205 = .ok (.aload_n 0, 1) := by decide +kernel
theorem dX7_lays_206 : decode cX7_lays 206 = .ok (.dup, 1) := by decide +kernel
theorem dX7_lays_207 : decode cX7_lays 207 = .ok (.getfield 123, 3) := by decide +kernel
theorem dX7_lays_210 : decode cX7_lays 210 = .ok (.iconst 1, 1) := by decide +kernel
theorem dX7_lays_211 : decode cX7_lays 211 = .ok (.iadd, 1) := by decide +kernel
theorem dX7_lays_212 : decode cX7_lays 212 = .ok (.putfield 123, 3) := by decide +kernel
theorem dX7_lays_215 : decode cX7_lays 215 = .ok (.iload 5, 2) := by decide +kernel
theorem dX7_lays_217 : decode cX7_lays 217 = .ok (.ireturn, 1) := by decide +kernel
set_option maxRecDepth 20000 in
theorem ggX7_enact_X7_isProvision : GoodIn wsX7_enact wsX7_isProvision := goodIn_r _ [7, 1, 8, 9, 6, 10, 54, 55, 56, 57, 58, 59, 60, 61, 62, 63, 64, 65, 66, 67, 68, 69, 70, 71, 72, 73, 74, 75, 76, 77, 78, 79, 80, 81, 82, 83, 84, 85, 86, 87, 88, 89, 90, 91, 92, 93, 94, 95, 96, 97, 98, 99, 100, 101, 102] (by decide +kernel) (by decide +kernel)
set_option maxRecDepth 20000 in
theorem gX7_enact_X7_isProvision : GoodIn wsX7_enact (wsV RX7 161 RX7 yX7_isProvision wsX7_isProvision) := goodIn_app (goodIn_of _ (by decide +kernel)) ggX7_enact_X7_isProvision
set_option maxRecDepth 20000 in
theorem ggX7_enact_X7_isLabel : GoodIn wsX7_enact wsX7_isLabel := goodIn_r _ [13, 8, 9, 6, 10] (by decide +kernel) (by decide +kernel)
set_option maxRecDepth 20000 in
theorem gX7_enact_X7_isLabel : GoodIn wsX7_enact (va_wsS RX7 164 yX7_isLabel wsX7_isLabel) := goodIn_app (goodIn_of _ (by decide +kernel)) ggX7_enact_X7_isLabel
set_option maxRecDepth 20000 in
theorem ggX7_enact_X7_isShut : GoodIn wsX7_enact wsX7_isShut := goodIn_r _ [17, 18, 19, 20, 21, 54, 55, 56, 57, 58, 59, 60, 61, 62, 63, 64, 65, 66, 67, 68, 69, 70, 71, 72, 73, 74, 75, 76, 77, 78, 79, 80, 81, 82, 83, 84, 85, 86, 87, 88, 89, 90, 91, 92, 93, 94, 95, 96, 97, 98, 99, 100, 101, 102] (by decide +kernel) (by decide +kernel)
set_option maxRecDepth 20000 in
theorem gX7_enact_X7_isShut : GoodIn wsX7_enact (wsV RX7 168 RX7 yX7_isShut wsX7_isShut) := goodIn_app (goodIn_of _ (by decide +kernel)) ggX7_enact_X7_isShut
set_option maxRecDepth 20000 in
theorem ggX7_enact_X7_goes : GoodIn wsX7_enact wsX7_goes := goodIn_r _ [25, 26, 54, 55, 56, 57, 58, 59, 60, 61, 62, 63, 64, 65, 66, 67, 68, 69, 70, 71, 72, 73, 74, 75, 76, 77, 78, 79, 80, 81, 82, 83, 84, 85, 86, 87, 88, 89, 90, 91, 92, 93, 94, 95, 96, 97, 98, 99, 100, 101, 102] (by decide +kernel) (by decide +kernel)
set_option maxRecDepth 20000 in
theorem gX7_enact_X7_goes : GoodIn wsX7_enact (wsV RX7 136 RX7 yX7_goes wsX7_goes) := goodIn_app (goodIn_of _ (by decide +kernel)) ggX7_enact_X7_goes
set_option maxRecDepth 20000 in
theorem ggX7_enact_X7_lays : GoodIn wsX7_enact wsX7_lays := goodIn_r _ [30, 21, 31, 32, 18, 33, 34, 35, 36, 2, 37, 38, 39, 40, 41, 42, 43, 44, 45, 46, 47, 48, 49, 50, 51, 52, 53, 54, 55, 56, 57, 58, 59, 60, 61, 62, 63, 64, 65, 66, 67, 68, 69, 70, 71, 72, 73, 74, 75, 76, 77, 78, 79, 80, 81, 82, 83, 84, 85, 86, 87, 88, 89, 90, 91, 92, 93, 94, 95, 96, 97, 98, 99, 100, 101, 102] (by decide +kernel) (by decide +kernel)
set_option maxRecDepth 20000 in
theorem gX7_enact_X7_lays : GoodIn wsX7_enact (wsV RX7 172 RX7 yX7_lays wsX7_lays) := goodIn_app (goodIn_of _ (by decide +kernel)) ggX7_enact_X7_lays
theorem dX7_enact_0 : decode cX7_enact 0 = .ok (.aload_n 0, 1) := by decide +kernel
theorem dX7_enact_1 : decode cX7_enact 1 = .ok (.iload_n 1, 1) := by decide +kernel
theorem dX7_enact_2 : decode cX7_enact 2 = .ok (.iconst (-1), 1) := by decide +kernel
theorem dX7_enact_3 : decode cX7_enact 3 = .ok (.if_icmp .eq 15, 3) := by decide +kernel
theorem dX7_enact_6 : decode cX7_enact 6 = .ok (.aload_n 0, 1) := by decide +kernel
theorem dX7_enact_7 : decode cX7_enact 7 = .ok (.iload_n 1, 1) := by decide +kernel
theorem dX7_enact_8 : decode cX7_enact 8 = .ok (.invokevirtual 161, 3) := by decide +kernel
theorem dX7_enact_11 : decode cX7_enact 11 = .ok (.ifCond .ne 7, 3) := by decide +kernel
theorem dX7_enact_14 : decode cX7_enact 14 = .ok (.iconst 1, 1) := by decide +kernel
theorem dX7_enact_15 : decode cX7_enact 15 = .ok (.goto 43, 3) := by decide +kernel
theorem dX7_enact_18 : decode cX7_enact 18 = .ok (.iload_n 2, 1) := by decide +kernel
theorem dX7_enact_19 : decode cX7_enact 19 = .ok (.iload_n 3, 1) := by decide +kernel
theorem dX7_enact_20 : decode cX7_enact 20 = .ok (.invokestatic 164, 3) := by decide +kernel
theorem dX7_enact_23 : decode cX7_enact 23 = .ok (.ifCond .ne 7, 3) := by decide +kernel
theorem dX7_enact_26 : decode cX7_enact 26 = .ok (.iconst 2, 1) := by decide +kernel
theorem dX7_enact_27 : decode cX7_enact 27 = .ok (.goto 31, 3) := by decide +kernel
theorem dX7_enact_30 : decode cX7_enact 30 = .ok (.aload_n 0, 1) := by decide +kernel
theorem dX7_enact_31 : decode cX7_enact 31 = .ok (.invokevirtual 168, 3) := by decide +kernel
theorem dX7_enact_34 : decode cX7_enact 34 = .ok (.ifCond .ne 19, 3) := by decide +kernel
theorem dX7_enact_37 : decode cX7_enact 37 = .ok (.aload_n 0, 1) := by decide +kernel
theorem dX7_enact_38 : decode cX7_enact 38 = .ok (.getfield 130, 3) := by decide +kernel
theorem dX7_enact_41 : decode cX7_enact 41 = .ok (.bipush 20, 2) := by decide +kernel
theorem dX7_enact_43 : decode cX7_enact 43 = .ok (.if_icmp .eq 10, 3) := by decide +kernel
theorem dX7_enact_46 : decode cX7_enact 46 = .ok (.aload_n 0, 1) := by decide +kernel
theorem dX7_enact_47 : decode cX7_enact 47 = .ok (.getfield 158, 3) := by decide +kernel
theorem dX7_enact_50 : decode cX7_enact 50 = .ok (.ifCond .le 7, 3) := by decide +kernel
theorem dX7_enact_53 : decode cX7_enact 53 = .ok (.iconst 3, 1) := by decide +kernel
theorem dX7_enact_54 : decode cX7_enact 54 = .ok (.goto 4, 3) := by decide +kernel
theorem dX7_enact_57 : decode cX7_enact 57 = .ok (.iconst 0, 1) := by decide +kernel
theorem dX7_enact_58 : decode cX7_enact 58 = .ok (.invokevirtual 136, 3) := by decide +kernel
theorem dX7_enact_61 : decode cX7_enact 61 = .ok (.ifCond .ne 5, 3) := by decide +kernel
theorem dX7_enact_64 : decode cX7_enact 64 = .ok (.iconst 0, 1) := by decide +kernel
theorem dX7_enact_65 : decode cX7_enact 65 = .ok (.ireturn, 1) := by decide +kernel
theorem dX7_enact_66 : decode cX7_enact 66 = .ok (.aload_n 0, 1) := by decide +kernel
theorem dX7_enact_67 : decode cX7_enact 67 = .ok (.iconst 0, 1) := by decide +kernel
theorem dX7_enact_68 : decode cX7_enact 68 = .ok (.aload_n 0, 1) := by decide +kernel
theorem dX7_enact_69 : decode cX7_enact 69 = .ok (.getfield 130, 3) := by decide +kernel
theorem dX7_enact_72 : decode cX7_enact 72 = .ok (.iload_n 1, 1) := by decide +kernel
theorem dX7_enact_73 : decode cX7_enact 73 = .ok (.sipush 1000, 3) := by decide +kernel
theorem dX7_enact_76 : decode cX7_enact 76 = .ok (.iload_n 2, 1) := by decide +kernel
theorem dX7_enact_77 : decode cX7_enact 77 = .ok (.imul, 1) := by decide +kernel
theorem dX7_enact_78 : decode cX7_enact 78 = .ok (.iload_n 3, 1) := by decide +kernel
theorem dX7_enact_79 : decode cX7_enact 79 = .ok (.iadd, 1) := by decide +kernel
theorem dX7_enact_80 : decode cX7_enact 80 = .ok (.invokevirtual 172, 3) := by decide +kernel
theorem dX7_enact_83 : decode cX7_enact 83 = .ok (.istore 4, 2) := by decide +kernel
theorem dX7_enact_85 : decode cX7_enact 85 = .ok (.aload_n 0, 1) := by decide +kernel
theorem dX7_enact_86 : decode cX7_enact 86 = .ok (.dup, 1) := by decide +kernel
theorem dX7_enact_87 : decode cX7_enact 87 = .ok (.getfield 130, 3) := by decide +kernel
theorem dX7_enact_90 : decode cX7_enact 90 = .ok (.iconst 1, 1) := by decide +kernel
theorem dX7_enact_91 : decode cX7_enact 91 = .ok (.iadd, 1) := by decide +kernel
theorem dX7_enact_92 : decode cX7_enact 92 = .ok (.putfield 130, 3) := by decide +kernel
theorem dX7_enact_95 : decode cX7_enact 95 = .ok (.aload_n 0, 1) := by decide +kernel
theorem dX7_enact_96 : decode cX7_enact 96 = .ok (.getfield 130, 3) := by decide +kernel
theorem dX7_enact_99 : decode cX7_enact 99 = .ok (.iconst 1, 1) := by decide +kernel
theorem dX7_enact_100 : decode cX7_enact 100 = .ok (.isub, 1) := by decide +kernel
theorem dX7_enact_101 : decode cX7_enact 101 = .ok (.ireturn, 1) := by decide +kernel
set_option maxRecDepth 20000 in
theorem ggX7_instruct_X7_isInstruction : GoodIn wsX7_instruct wsX7_isInstruction := goodIn_r _ [7, 8, 9, 10, 6, 11, 58, 59, 60, 61, 62, 63, 64, 65, 66, 67, 68, 69, 70, 71, 72, 73, 74, 75, 76, 77, 78, 79, 80, 81, 82, 83, 84, 85, 86, 87, 88, 89, 90, 91, 92, 93, 94, 95, 96, 97, 98, 99, 100, 101, 102, 103, 104, 105, 106] (by decide +kernel) (by decide +kernel)
set_option maxRecDepth 20000 in
theorem gX7_instruct_X7_isInstruction : GoodIn wsX7_instruct (wsV RX7 146 RX7 yX7_isInstruction wsX7_isInstruction) := goodIn_app (goodIn_of _ (by decide +kernel)) ggX7_instruct_X7_isInstruction
set_option maxRecDepth 20000 in
theorem ggX7_instruct_X7_isProvision : GoodIn wsX7_instruct wsX7_isProvision := goodIn_r _ [15, 16, 9, 10, 6, 11, 58, 59, 60, 61, 62, 63, 64, 65, 66, 67, 68, 69, 70, 71, 72, 73, 74, 75, 76, 77, 78, 79, 80, 81, 82, 83, 84, 85, 86, 87, 88, 89, 90, 91, 92, 93, 94, 95, 96, 97, 98, 99, 100, 101, 102, 103, 104, 105, 106] (by decide +kernel) (by decide +kernel)
set_option maxRecDepth 20000 in
theorem gX7_instruct_X7_isProvision : GoodIn wsX7_instruct (wsV RX7 161 RX7 yX7_isProvision wsX7_isProvision) := goodIn_app (goodIn_of _ (by decide +kernel)) ggX7_instruct_X7_isProvision
set_option maxRecDepth 20000 in
theorem ggX7_instruct_X7_isIn : GoodIn wsX7_instruct wsX7_isIn := goodIn_r _ [11] (by decide +kernel) (by decide +kernel)
set_option maxRecDepth 20000 in
theorem gX7_instruct_X7_isIn : GoodIn wsX7_instruct (va_wsS RX7 126 yX7_isIn wsX7_isIn) := goodIn_app (goodIn_of _ (by decide +kernel)) ggX7_instruct_X7_isIn
set_option maxRecDepth 20000 in
theorem ggX7_instruct_X7_isLabel : GoodIn wsX7_instruct wsX7_isLabel := goodIn_r _ [19, 9, 10, 6, 11] (by decide +kernel) (by decide +kernel)
set_option maxRecDepth 20000 in
theorem gX7_instruct_X7_isLabel : GoodIn wsX7_instruct (va_wsS RX7 164 yX7_isLabel wsX7_isLabel) := goodIn_app (goodIn_of _ (by decide +kernel)) ggX7_instruct_X7_isLabel
set_option maxRecDepth 20000 in
theorem ggX7_instruct_X7_isShut : GoodIn wsX7_instruct wsX7_isShut := goodIn_r _ [23, 24, 25, 26, 8, 58, 59, 60, 61, 62, 63, 64, 65, 66, 67, 68, 69, 70, 71, 72, 73, 74, 75, 76, 77, 78, 79, 80, 81, 82, 83, 84, 85, 86, 87, 88, 89, 90, 91, 92, 93, 94, 95, 96, 97, 98, 99, 100, 101, 102, 103, 104, 105, 106] (by decide +kernel) (by decide +kernel)
set_option maxRecDepth 20000 in
theorem gX7_instruct_X7_isShut : GoodIn wsX7_instruct (wsV RX7 168 RX7 yX7_isShut wsX7_isShut) := goodIn_app (goodIn_of _ (by decide +kernel)) ggX7_instruct_X7_isShut
set_option maxRecDepth 20000 in
theorem ggX7_instruct_X7_goes : GoodIn wsX7_instruct wsX7_goes := goodIn_r _ [30, 31, 58, 59, 60, 61, 62, 63, 64, 65, 66, 67, 68, 69, 70, 71, 72, 73, 74, 75, 76, 77, 78, 79, 80, 81, 82, 83, 84, 85, 86, 87, 88, 89, 90, 91, 92, 93, 94, 95, 96, 97, 98, 99, 100, 101, 102, 103, 104, 105, 106] (by decide +kernel) (by decide +kernel)
set_option maxRecDepth 20000 in
theorem gX7_instruct_X7_goes : GoodIn wsX7_instruct (wsV RX7 136 RX7 yX7_goes wsX7_goes) := goodIn_app (goodIn_of _ (by decide +kernel)) ggX7_instruct_X7_goes
set_option maxRecDepth 20000 in
theorem ggX7_instruct_X7_lays : GoodIn wsX7_instruct wsX7_lays := goodIn_r _ [35, 8, 36, 37, 24, 38, 39, 40, 41, 1, 42, 2, 43, 44, 45, 46, 47, 48, 49, 50, 51, 52, 53, 54, 55, 56, 57, 58, 59, 60, 61, 62, 63, 64, 65, 66, 67, 68, 69, 70, 71, 72, 73, 74, 75, 76, 77, 78, 79, 80, 81, 82, 83, 84, 85, 86, 87, 88, 89, 90, 91, 92, 93, 94, 95, 96, 97, 98, 99, 100, 101, 102, 103, 104, 105, 106] (by decide +kernel) (by decide +kernel)
set_option maxRecDepth 20000 in
theorem gX7_instruct_X7_lays : GoodIn wsX7_instruct (wsV RX7 172 RX7 yX7_lays wsX7_lays) := goodIn_app (goodIn_of _ (by decide +kernel)) ggX7_instruct_X7_lays
theorem dX7_instruct_0 : decode cX7_instruct 0 = .ok (.iload_n 1, 1) := by decide +kernel
theorem dX7_instruct_1 : decode cX7_instruct 1 = .ok (.bipush 7, 2) := by decide +kernel
theorem dX7_instruct_3 : decode cX7_instruct 3 = .ok (.if_icmp .ne 14, 3) := by decide +kernel
theorem dX7_instruct_6 : decode cX7_instruct 6 = .ok (.aload_n 0, 1) := by decide +kernel
theorem dX7_instruct_7 : decode cX7_instruct 7 = .ok (.iload_n 2, 1) := by decide +kernel
theorem dX7_instruct_8 : decode cX7_instruct 8 = .ok (.invokevirtual 146, 3) := by decide +kernel
theorem dX7_instruct_11 : decode cX7_instruct 11 = .ok (.ifCond .ne 14, 3) := by decide +kernel
theorem dX7_instruct_14 : decode cX7_instruct 14 = .ok (.goto 29, 3) := by decide +kernel
theorem dX7_instruct_17 : decode cX7_instruct 17 = .ok (.aload_n 0, 1) := by decide +kernel
theorem dX7_instruct_18 : decode cX7_instruct 18 = .ok (.iload_n 2, 1) := by decide +kernel
theorem dX7_instruct_19 : decode cX7_instruct 19 = .ok (.invokevirtual 161, 3) := by decide +kernel
theorem dX7_instruct_22 : decode cX7_instruct 22 = .ok (.ifCond .eq 21, 3) := by decide +kernel
theorem dX7_instruct_25 : decode cX7_instruct 25 = .ok (.iload_n 1, 1) := by decide +kernel
theorem dX7_instruct_26 : decode cX7_instruct 26 = .ok (.iconst 5, 1) := by decide +kernel
theorem dX7_instruct_27 : decode cX7_instruct 27 = .ok (.if_icmp .ne 20, 3) := by decide +kernel
theorem dX7_instruct_30 : decode cX7_instruct 30 = .ok (.iload_n 3, 1) := by decide +kernel
theorem dX7_instruct_31 : decode cX7_instruct 31 = .ok (.iconst (-1), 1) := by decide +kernel
theorem dX7_instruct_32 : decode cX7_instruct 32 = .ok (.if_icmp .eq 15, 3) := by decide +kernel
theorem dX7_instruct_35 : decode cX7_instruct 35 = .ok (.aload_n 0, 1) := by decide +kernel
theorem dX7_instruct_36 : decode cX7_instruct 36 = .ok (.iload_n 3, 1) := by decide +kernel
theorem dX7_instruct_37 : decode cX7_instruct 37 = .ok (.invokevirtual 161, 3) := by decide +kernel
theorem dX7_instruct_40 : decode cX7_instruct 40 = .ok (.ifCond .ne 7, 3) := by decide +kernel
theorem dX7_instruct_43 : decode cX7_instruct 43 = .ok (.iconst 1, 1) := by decide +kernel
theorem dX7_instruct_44 : decode cX7_instruct 44 = .ok (.goto 4, 3) := by decide +kernel
theorem dX7_instruct_47 : decode cX7_instruct 47 = .ok (.iconst 0, 1) := by decide +kernel
theorem dX7_instruct_48 : decode cX7_instruct 48 = .ok (.istore 5, 2) := by decide +kernel
theorem dX7_instruct_50 : decode cX7_instruct 50 = .ok (.iload_n 1, 1) := by decide +kernel
theorem dX7_instruct_51 : decode cX7_instruct 51 = .ok (.iconst 1, 1) := by decide +kernel
theorem dX7_instruct_52 : decode cX7_instruct 52 = .ok (.bipush 7, 2) := by decide +kernel
theorem dX7_instruct_54 : decode cX7_instruct 54 = .ok (.invokestatic 126, 3) := by decide +kernel
theorem dX7_instruct_57 : decode cX7_instruct 57 = .ok (.ifCond .eq 21, 3) := by decide +kernel
theorem dX7_instruct_60 : decode cX7_instruct 60 = .ok (.iload_n 1, 1) := by decide +kernel
theorem dX7_instruct_61 : decode cX7_instruct 61 = .ok (.iconst 4, 1) := by decide +kernel
theorem dX7_instruct_62 : decode cX7_instruct 62 = .ok (.if_icmp .ne 12, 3) := by decide +kernel
theorem dX7_instruct_65 : decode cX7_instruct 65 = .ok (.iload_n 3, 1) := by decide +kernel
theorem dX7_instruct_66 : decode cX7_instruct 66 = .ok (.iload 4, 2) := by decide +kernel
theorem dX7_instruct_68 : decode cX7_instruct 68 = .ok (.invokestatic 164, 3) := by decide +kernel
theorem dX7_instruct_71 : decode cX7_instruct 71 = .ok (.ifCond .eq 7, 3) := by decide +kernel
theorem dX7_instruct_74 : decode cX7_instruct 74 = .ok (.iconst 1, 1) := by decide +kernel
theorem dX7_instruct_75 : decode cX7_instruct 75 = .ok (.goto 4, 3) := by decide +kernel
theorem dX7_instruct_78 : decode cX7_instruct 78 = .ok (.iconst 0, 1) := by decide +kernel
theorem dX7_instruct_79 : decode cX7_instruct 79 = .ok (.istore 6, 2) := by decide +kernel
theorem dX7_instruct_81 : decode cX7_instruct 81 = .ok (.iload_n 1, 1) := by decide +kernel
theorem dX7_instruct_82 : decode cX7_instruct 82 = .ok (.iconst 2, 1) := by decide +kernel
theorem dX7_instruct_83 : decode cX7_instruct 83 = .ok (.if_icmp .eq 8, 3) := by decide +kernel
theorem dX7_instruct_86 : decode cX7_instruct 86 = .ok (.iload_n 1, 1) := by decide +kernel
theorem dX7_instruct_87 : decode cX7_instruct 87 = .ok (.iconst 3, 1) := by decide +kernel
theorem dX7_instruct_88 : decode cX7_instruct 88 = .ok (.if_icmp .ne 10, 3) := by decide +kernel
theorem dX7_instruct_91 : decode cX7_instruct 91 = .ok (.aload_n 0, 1) := by decide +kernel
theorem dX7_instruct_92 : decode cX7_instruct 92 = .ok (.getfield 158, 3) := by decide +kernel
theorem dX7_instruct_95 : decode cX7_instruct 95 = .ok (.ifCond .eq 15, 3) := by decide +kernel
theorem dX7_instruct_98 : decode cX7_instruct 98 = .ok (.iload_n 1, 1) := by decide +kernel
theorem dX7_instruct_99 : decode cX7_instruct 99 = .ok (.iconst 1, 1) := by decide +kernel
theorem dX7_instruct_100 : decode cX7_instruct 100 = .ok (.if_icmp .ne 14, 3) := by decide +kernel
theorem dX7_instruct_103 : decode cX7_instruct 103 = .ok (.aload_n 0, 1) := by decide +kernel
theorem dX7_instruct_104 : decode cX7_instruct 104 = .ok (.getfield 155, 3) := by decide +kernel
theorem dX7_instruct_107 : decode cX7_instruct 107 = .ok (.ifCond .ne 7, 3) := by decide +kernel
theorem dX7_instruct_110 : decode cX7_instruct 110 = .ok (.iconst 1, 1) := by decide +kernel
theorem dX7_instruct_111 : decode cX7_instruct 111 = .ok (.goto 4, 3) := by decide +kernel
theorem dX7_instruct_114 : decode cX7_instruct 114 = .ok (.iconst 0, 1) := by decide +kernel
theorem dX7_instruct_115 : decode cX7_instruct 115 = .ok (.istore 7, 2) := by decide +kernel
theorem dX7_instruct_117 : decode cX7_instruct 117 = .ok (.iload_n 1, 1) := by decide +kernel
theorem dX7_instruct_118 : decode cX7_instruct 118 = .ok (.iconst 3, 1) := by decide +kernel
theorem dX7_instruct_119 : decode cX7_instruct 119 = .ok (.if_icmp .le 10, 3) := by decide +kernel
theorem dX7_instruct_122 : decode cX7_instruct 122 = .ok (.aload_n 0, 1) := by decide +kernel
theorem dX7_instruct_123 : decode cX7_instruct 123 = .ok (.getfield 158, 3) := by decide +kernel
theorem dX7_instruct_126 : decode cX7_instruct 126 = .ok (.ifCond .gt 21, 3) := by decide +kernel
theorem dX7_instruct_129 : decode cX7_instruct 129 = .ok (.iload_n 1, 1) := by decide +kernel
theorem dX7_instruct_130 : decode cX7_instruct 130 = .ok (.iconst 2, 1) := by decide +kernel
theorem dX7_instruct_131 : decode cX7_instruct 131 = .ok (.if_icmp .le 20, 3) := by decide +kernel
theorem dX7_instruct_134 : decode cX7_instruct 134 = .ok (.iload_n 1, 1) := by decide +kernel
theorem dX7_instruct_135 : decode cX7_instruct 135 = .ok (.bipush 7, 2) := by decide +kernel
theorem dX7_instruct_137 : decode cX7_instruct 137 = .ok (.if_icmp .eq 14, 3) := by decide +kernel
theorem dX7_instruct_140 : decode cX7_instruct 140 = .ok (.aload_n 0, 1) := by decide +kernel
theorem dX7_instruct_141 : decode cX7_instruct 141 = .ok (.getfield 155, 3) := by decide +kernel
theorem dX7_instruct_144 : decode cX7_instruct 144 = .ok (.ifCond .le 7, 3) := by decide +kernel
theorem dX7_instruct_147 : decode cX7_instruct 147 = .ok (.iconst 1, 1) := by decide +kernel
theorem dX7_instruct_148 : decode cX7_instruct 148 = .ok (.goto 4, 3) := by decide +kernel
theorem dX7_instruct_151 : decode cX7_instruct 151 = .ok (.iconst 0, 1) := by decide +kernel
theorem dX7_instruct_152 : decode cX7_instruct 152 = .ok (.istore 8, 2) := by decide +kernel
theorem dX7_instruct_154 : decode cX7_instruct 154 = .ok (.aload_n 0, 1) := by decide +kernel
theorem dX7_instruct_155 : decode cX7_instruct 155 = .ok (.iload 5, 2) := by decide +kernel
theorem dX7_instruct_157 : decode cX7_instruct 157 = .ok (.ifCond .eq 7, 3) := by decide +kernel
theorem dX7_instruct_160 : decode cX7_instruct 160 = .ok (.iconst 1, 1) := by decide +kernel
theorem dX7_instruct_161 : decode cX7_instruct 161 = .ok (.goto 34, 3) := by decide +kernel
theorem dX7_instruct_164 : decode cX7_instruct 164 = .ok (.iload 6, 2) := by decide +kernel
theorem dX7_instruct_166 : decode cX7_instruct 166 = .ok (.ifCond .ne 7, 3) := by decide +kernel
theorem dX7_instruct_169 : decode cX7_instruct 169 = .ok (.iconst 2, 1) := by decide +kernel
theorem dX7_instruct_170 : decode cX7_instruct 170 = .ok (.goto 25, 3) := by decide +kernel
theorem dX7_instruct_173 : decode cX7_instruct 173 = .ok (.aload_n 0, 1) := by decide +kernel
theorem dX7_instruct_174 : decode cX7_instruct 174 = .ok (.invokevirtual 168, 3) := by decide +kernel
theorem dX7_instruct_177 : decode cX7_instruct 177 = .ok (.ifCond .ne 13, 3) := by decide +kernel
theorem dX7_instruct_180 : decode cX7_instruct 180 = .ok (.iload 7, 2) := by decide +kernel
theorem dX7_instruct_182 : decode cX7_instruct 182 = .ok (.ifCond .ne 8, 3) := by decide +kernel
theorem dX7_instruct_185 : decode cX7_instruct 185 = .ok (.iload 8, 2) := by decide +kernel
theorem dX7_instruct_187 : decode cX7_instruct 187 = .ok (.ifCond .eq 7, 3) := by decide +kernel
theorem dX7_instruct_190 : decode cX7_instruct 190 = .ok (.iconst 3, 1) := by decide +kernel
theorem dX7_instruct_191 : decode cX7_instruct 191 = .ok (.goto 4, 3) := by decide +kernel
theorem dX7_instruct_194 : decode cX7_instruct 194 = .ok (.iconst 0, 1) := by decide +kernel
theorem dX7_instruct_195 : decode cX7_instruct 195 = .ok (.invokevirtual 136, 3) := by decide +kernel
theorem dX7_instruct_198 : decode cX7_instruct 198 = .ok (.ifCond .ne 5, 3) := by decide +kernel
theorem dX7_instruct_201 : decode cX7_instruct 201 = .ok (.iconst 0, 1) := by decide +kernel
theorem dX7_instruct_202 : decode cX7_instruct 202 = .ok (.ireturn, 1) := by decide +kernel
theorem dX7_instruct_203 : decode cX7_instruct 203 = .ok (.aload_n 0, 1) := by decide +kernel
theorem dX7_instruct_204 : decode cX7_instruct 204 = .ok (.iload_n 1, 1) := by decide +kernel
theorem dX7_instruct_205 : decode cX7_instruct 205 = .ok (.iload_n 2, 1) := by decide +kernel
theorem dX7_instruct_206 : decode cX7_instruct 206 = .ok (.iload_n 3, 1) := by decide +kernel
theorem dX7_instruct_207 : decode cX7_instruct 207 = .ok (.iload_n 1, 1) := by decide +kernel
theorem dX7_instruct_208 : decode cX7_instruct 208 = .ok (.iconst 4, 1) := by decide +kernel
theorem dX7_instruct_209 : decode cX7_instruct 209 = .ok (.if_icmp .ne 14, 3) := by decide +kernel
theorem dX7_instruct_212 : decode cX7_instruct 212 = .ok (.sipush 1000, 3) := by decide +kernel
theorem dX7_instruct_215 : decode cX7_instruct 215 = .ok (.iload_n 3, 1) := by decide +kernel
theorem dX7_instruct_216 : decode cX7_instruct 216 = .ok (.imul, 1) := by decide +kernel
theorem dX7_instruct_217 : decode cX7_instruct 217 = .ok (.iload 4, 2) := by decide +kernel
theorem dX7_instruct_219 : decode cX7_instruct 219 = .ok (.iadd, 1) := by decide +kernel
theorem dX7_instruct_220 : decode cX7_instruct 220 = .ok (.goto 4, 3) := by decide +kernel
theorem dX7_instruct_223 : decode cX7_instruct 223 = .ok (.iconst 0, 1) := by decide +kernel
theorem dX7_instruct_224 : decode cX7_instruct 224 = .ok (.invokevirtual 172, 3) := by decide +kernel
theorem dX7_instruct_227 : decode cX7_instruct 227 = .ok (.ireturn, 1) := by decide +kernel
set_option maxRecDepth 20000 in
theorem ggX7_asksDay_X7_isInstruction : GoodIn wsX7_asksDay wsX7_isInstruction := goodIn_r _ [5, 6, 7, 8, 4, 9, 15, 16, 17, 18, 19, 20, 21, 22, 23, 24, 25, 26, 27, 28, 29, 30, 31, 32, 33, 34, 35, 36, 37, 38, 39, 40, 41, 42, 43, 44, 45, 46, 47, 48, 49, 50, 51, 52, 53, 54, 55, 56, 57, 58, 59, 60, 61, 62, 63] (by decide +kernel) (by decide +kernel)
set_option maxRecDepth 20000 in
theorem gX7_asksDay_X7_isInstruction : GoodIn wsX7_asksDay (wsV RX7 146 RX7 yX7_isInstruction wsX7_isInstruction) := goodIn_app (goodIn_of _ (by decide +kernel)) ggX7_asksDay_X7_isInstruction
set_option maxRecDepth 20000 in
theorem ggX7_asksDay_X7_goes : GoodIn wsX7_asksDay wsX7_goes := goodIn_r _ [13, 14, 15, 16, 17, 18, 19, 20, 21, 22, 23, 24, 25, 26, 27, 28, 29, 30, 31, 32, 33, 34, 35, 36, 37, 38, 39, 40, 41, 42, 43, 44, 45, 46, 47, 48, 49, 50, 51, 52, 53, 54, 55, 56, 57, 58, 59, 60, 61, 62, 63] (by decide +kernel) (by decide +kernel)
set_option maxRecDepth 20000 in
theorem gX7_asksDay_X7_goes : GoodIn wsX7_asksDay (wsV RX7 136 RX7 yX7_goes wsX7_goes) := goodIn_app (goodIn_of _ (by decide +kernel)) ggX7_asksDay_X7_goes
theorem dX7_asksDay_0 : decode cX7_asksDay 0 = .ok (.aload_n 0, 1) := by decide +kernel
theorem dX7_asksDay_1 : decode cX7_asksDay 1 = .ok (.aload_n 0, 1) := by decide +kernel
theorem dX7_asksDay_2 : decode cX7_asksDay 2 = .ok (.iload_n 1, 1) := by decide +kernel
theorem dX7_asksDay_3 : decode cX7_asksDay 3 = .ok (.invokevirtual 146, 3) := by decide +kernel
theorem dX7_asksDay_6 : decode cX7_asksDay 6 = .ok (.ifCond .ne 7, 3) := by decide +kernel
theorem dX7_asksDay_9 : decode cX7_asksDay 9 = .ok (.iconst 1, 1) := by decide +kernel
theorem dX7_asksDay_10 : decode cX7_asksDay 10 = .ok (.goto 20, 3) := by decide +kernel
theorem dX7_asksDay_13 : decode cX7_asksDay 13 = .ok (.iload_n 2, 1) := by decide +kernel
theorem dX7_asksDay_14 : decode cX7_asksDay 14 = .ok (.ifCond .ne 7, 3) := by decide +kernel
theorem dX7_asksDay_17 : decode cX7_asksDay 17 = .ok (.iconst 2, 1) := by decide +kernel
theorem dX7_asksDay_18 : decode cX7_asksDay 18 = .ok (.goto 12, 3) := by decide +kernel
theorem dX7_asksDay_21 : decode cX7_asksDay 21 = .ok (.iload_n 3, 1) := by decide +kernel
theorem dX7_asksDay_22 : decode cX7_asksDay 22 = .ok (.ifCond .eq 7, 3) := by decide +kernel
theorem dX7_asksDay_25 : decode cX7_asksDay 25 = .ok (.iconst 0, 1) := by decide +kernel
theorem dX7_asksDay_26 : decode cX7_asksDay 26 = .ok (.goto 4, 3) := by decide +kernel
theorem dX7_asksDay_29 : decode cX7_asksDay 29 = .ok (.iconst 3, 1) := by decide +kernel
theorem dX7_asksDay_30 : decode cX7_asksDay 30 = .ok (.invokevirtual 136, 3) := by decide +kernel
theorem dX7_asksDay_33 : decode cX7_asksDay 33 = .ok (.ireturn, 1) := by decide +kernel
set_option maxRecDepth 20000 in
theorem ggX7_order_X7_isInstruction : GoodIn wsX7_order wsX7_isInstruction := goodIn_r _ [9, 10, 11, 12, 8, 13, 26, 27, 28, 29, 30, 31, 32, 33, 34, 35, 36, 37, 38, 39, 40, 41, 42, 43, 44, 45, 46, 47, 48, 49, 50, 51, 52, 53, 54, 55, 56, 57, 58, 59, 60, 61, 62, 63, 64, 65, 66, 67, 68, 69, 70, 71, 72, 73, 74] (by decide +kernel) (by decide +kernel)
set_option maxRecDepth 20000 in
theorem gX7_order_X7_isInstruction : GoodIn wsX7_order (wsV RX7 146 RX7 yX7_isInstruction wsX7_isInstruction) := goodIn_app (goodIn_of _ (by decide +kernel)) ggX7_order_X7_isInstruction
set_option maxRecDepth 20000 in
theorem ggX7_order_X7_isDay : GoodIn wsX7_order wsX7_isDay := goodIn_r _ [16, 11, 12, 8, 13] (by decide +kernel) (by decide +kernel)
set_option maxRecDepth 20000 in
theorem gX7_order_X7_isDay : GoodIn wsX7_order (va_wsS RX7 143 yX7_isDay wsX7_isDay) := goodIn_app (goodIn_of _ (by decide +kernel)) ggX7_order_X7_isDay
set_option maxRecDepth 20000 in
theorem ggX7_order_X7_asksDay : GoodIn wsX7_order wsX7_asksDay := goodIn_r _ [20, 5, 6, 7, 8, 9, 10, 11, 12, 13, 21, 22, 23, 24, 25, 26, 27, 28, 29, 30, 31, 32, 33, 34, 35, 36, 37, 38, 39, 40, 41, 42, 43, 44, 45, 46, 47, 48, 49, 50, 51, 52, 53, 54, 55, 56, 57, 58, 59, 60, 61, 62, 63, 64, 65, 66, 67, 68, 69, 70, 71, 72, 73, 74] (by decide +kernel) (by decide +kernel)
set_option maxRecDepth 20000 in
theorem gX7_order_X7_asksDay : GoodIn wsX7_order (wsV RX7 176 RX7 yX7_asksDay wsX7_asksDay) := goodIn_app (goodIn_of _ (by decide +kernel)) ggX7_order_X7_asksDay
theorem dX7_order_0 : decode cX7_order 0 = .ok (.aload_n 0, 1) := by decide +kernel
theorem dX7_order_1 : decode cX7_order 1 = .ok (.iload_n 1, 1) := by decide +kernel
theorem dX7_order_2 : decode cX7_order 2 = .ok (.invokevirtual 146, 3) := by decide +kernel
theorem dX7_order_5 : decode cX7_order 5 = .ok (.ifCond .eq 27, 3) := by decide +kernel
theorem dX7_order_8 : decode cX7_order 8 = .ok (.aload_n 0, 1) := by decide +kernel
theorem dX7_order_9 : decode cX7_order 9 = .ok (.getfield 53, 3) := by decide +kernel
theorem dX7_order_12 : decode cX7_order 12 = .ok (.iload_n 1, 1) := by decide +kernel
theorem dX7_order_13 : decode cX7_order 13 = .ok (.iaload, 1) := by decide +kernel
theorem dX7_order_14 : decode cX7_order 14 = .ok (.iconst 1, 1) := by decide +kernel
theorem dX7_order_15 : decode cX7_order 15 = .ok (.if_icmp .ne 17, 3) := by decide +kernel
theorem dX7_order_18 : decode cX7_order 18 = .ok (.aload_n 0, 1) := by decide +kernel
theorem dX7_order_19 : decode cX7_order 19 = .ok (.getfield 65, 3) := by decide +kernel
theorem dX7_order_22 : decode cX7_order 22 = .ok (.iload_n 1, 1) := by decide +kernel
theorem dX7_order_23 : decode cX7_order 23 = .ok (.iaload, 1) := by decide +kernel
theorem dX7_order_24 : decode cX7_order 24 = .ok (.iconst (-1), 1) := by decide +kernel
theorem dX7_order_25 : decode cX7_order 25 = .ok (.if_icmp .ne 7, 3) := by decide +kernel
theorem dX7_order_28 : decode cX7_order 28 = .ok (.iconst 1, 1) := by decide +kernel
theorem dX7_order_29 : decode cX7_order 29 = .ok (.goto 4, 3) := by decide +kernel
theorem dX7_order_32 : decode cX7_order 32 = .ok (.iconst 0, 1) := by decide +kernel
theorem dX7_order_33 : decode cX7_order 33 = .ok (.istore_n 3, 1) := by decide +kernel
theorem dX7_order_34 : decode cX7_order 34 = .ok (.aload_n 0, 1) := by decide +kernel
theorem dX7_order_35 : decode cX7_order 35 = .ok (.iload_n 1, 1) := by decide +kernel
theorem dX7_order_36 : decode cX7_order 36 = .ok (.iload_n 2, 1) := by decide +kernel
theorem dX7_order_37 : decode cX7_order 37 = .ok (.invokestatic 143, 3) := by decide +kernel
theorem dX7_order_40 : decode cX7_order 40 = .ok (.iload_n 3, 1) := by decide +kernel
theorem dX7_order_41 : decode cX7_order 41 = .ok (.invokevirtual 176, 3) := by decide +kernel
theorem dX7_order_44 : decode cX7_order 44 = .ok (.ifCond .eq 20, 3) := by decide +kernel
theorem dX7_order_47 : decode cX7_order 47 = .ok (.aload_n 0, 1) := by decide +kernel
theorem dX7_order_48 : decode cX7_order 48 = .ok (.getfield 65, 3) := by decide +kernel
theorem dX7_order_51 : decode cX7_order 51 = .ok (.iload_n 1, 1) := by decide +kernel
theorem dX7_order_52 : decode cX7_order 52 = .ok (.aload_n 0, 1) := by decide +kernel
theorem dX7_order_53 : decode cX7_order 53 = .ok (.getfield 133, 3) := by decide +kernel
theorem dX7_order_56 : decode cX7_order 56 = .ok (.iastore, 1) := by decide +kernel
theorem dX7_order_57 : decode cX7_order 57 = .ok (.aload_n 0, 1) := by decide +kernel
theorem dX7_order_58 : decode cX7_order 58 = .ok (.getfield 68, 3) := by decide +kernel
theorem dX7_order_61 : decode cX7_order 61 = .ok (.iload_n 1, 1) := by decide +kernel
theorem dX7_order_62 : decode cX7_order 62 = .ok (.iload_n 2, 1) := by decide +kernel
theorem dX7_order_63 : decode cX7_order 63 = .ok (.iastore, 1) := by decide +kernel
theorem dX7_order_64 : decode cX7_order 64 = .ok (.return_, 1) := by decide +kernel
set_option maxRecDepth 20000 in
theorem ggX7_strike_X7_isDay : GoodIn wsX7_strike wsX7_isDay := goodIn_r _ [7, 8, 9, 6, 10] (by decide +kernel) (by decide +kernel)
set_option maxRecDepth 20000 in
theorem gX7_strike_X7_isDay : GoodIn wsX7_strike (va_wsS RX7 143 yX7_isDay wsX7_isDay) := goodIn_app (goodIn_of _ (by decide +kernel)) ggX7_strike_X7_isDay
set_option maxRecDepth 20000 in
theorem ggX7_strike_X7_isInstruction : GoodIn wsX7_strike wsX7_isInstruction := goodIn_r _ [14, 15, 8, 9, 6, 10, 25, 26, 27, 28, 29, 30, 31, 32, 33, 34, 35, 36, 37, 38, 39, 40, 41, 42, 43, 44, 45, 46, 47, 48, 49, 50, 51, 52, 53, 54, 55, 56, 57, 58, 59, 60, 61, 62, 63, 64, 65, 66, 67, 68, 69, 70, 71, 72, 73] (by decide +kernel) (by decide +kernel)
set_option maxRecDepth 20000 in
theorem gX7_strike_X7_isInstruction : GoodIn wsX7_strike (wsV RX7 146 RX7 yX7_isInstruction wsX7_isInstruction) := goodIn_app (goodIn_of _ (by decide +kernel)) ggX7_strike_X7_isInstruction
set_option maxRecDepth 20000 in
theorem ggX7_strike_X7_asksDay : GoodIn wsX7_strike wsX7_asksDay := goodIn_r _ [19, 11, 12, 13, 6, 14, 15, 8, 9, 10, 20, 21, 22, 23, 24, 25, 26, 27, 28, 29, 30, 31, 32, 33, 34, 35, 36, 37, 38, 39, 40, 41, 42, 43, 44, 45, 46, 47, 48, 49, 50, 51, 52, 53, 54, 55, 56, 57, 58, 59, 60, 61, 62, 63, 64, 65, 66, 67, 68, 69, 70, 71, 72, 73] (by decide +kernel) (by decide +kernel)
set_option maxRecDepth 20000 in
theorem gX7_strike_X7_asksDay : GoodIn wsX7_strike (wsV RX7 176 RX7 yX7_asksDay wsX7_asksDay) := goodIn_app (goodIn_of _ (by decide +kernel)) ggX7_strike_X7_asksDay
theorem dX7_strike_0 : decode cX7_strike 0 = .ok (.aload_n 0, 1) := by decide +kernel
theorem dX7_strike_1 : decode cX7_strike 1 = .ok (.iload_n 1, 1) := by decide +kernel
theorem dX7_strike_2 : decode cX7_strike 2 = .ok (.iload_n 2, 1) := by decide +kernel
theorem dX7_strike_3 : decode cX7_strike 3 = .ok (.invokestatic 143, 3) := by decide +kernel
theorem dX7_strike_6 : decode cX7_strike 6 = .ok (.aload_n 0, 1) := by decide +kernel
theorem dX7_strike_7 : decode cX7_strike 7 = .ok (.iload_n 1, 1) := by decide +kernel
theorem dX7_strike_8 : decode cX7_strike 8 = .ok (.invokevirtual 146, 3) := by decide +kernel
theorem dX7_strike_11 : decode cX7_strike 11 = .ok (.ifCond .eq 17, 3) := by decide +kernel
theorem dX7_strike_14 : decode cX7_strike 14 = .ok (.aload_n 0, 1) := by decide +kernel
theorem dX7_strike_15 : decode cX7_strike 15 = .ok (.getfield 71, 3) := by decide +kernel
theorem dX7_strike_18 : decode cX7_strike 18 = .ok (.iload_n 1, 1) := by decide +kernel
theorem dX7_strike_19 : decode cX7_strike 19 = .ok (.iaload, 1) := by decide +kernel
theorem dX7_strike_20 : decode cX7_strike 20 = .ok (.iconst (-1), 1) := by decide +kernel
theorem dX7_strike_21 : decode cX7_strike 21 = .ok (.if_icmp .ne 7, 3) := by decide +kernel
theorem dX7_strike_24 : decode cX7_strike 24 = .ok (.iconst 1, 1) := by decide +kernel
theorem dX7_strike_25 : decode cX7_strike 25 = .ok (.goto 4, 3) := by decide +kernel
theorem dX7_strike_28 : decode cX7_strike 28 = .ok (.iconst 0, 1) := by decide +kernel
theorem dX7_strike_29 : decode cX7_strike 29 = .ok (.invokevirtual 176, 3) := by decide +kernel
theorem dX7_strike_32 : decode cX7_strike 32 = .ok (.ifCond .eq 20, 3) := by decide +kernel
theorem dX7_strike_35 : decode cX7_strike 35 = .ok (.aload_n 0, 1) := by decide +kernel
theorem dX7_strike_36 : decode cX7_strike 36 = .ok (.getfield 71, 3) := by decide +kernel
theorem dX7_strike_39 : decode cX7_strike 39 = .ok (.iload_n 1, 1) := by decide +kernel
theorem dX7_strike_40 : decode cX7_strike 40 = .ok (.aload_n 0, 1) := by decide +kernel
theorem dX7_strike_41 : decode cX7_strike 41 = .ok (.getfield 133, 3) := by decide +kernel
theorem dX7_strike_44 : decode cX7_strike 44 = .ok (.iastore, 1) := by decide +kernel
theorem dX7_strike_45 : decode cX7_strike 45 = .ok (.aload_n 0, 1) := by decide +kernel
theorem dX7_strike_46 : decode cX7_strike 46 = .ok (.getfield 74, 3) := by decide +kernel
theorem dX7_strike_49 : decode cX7_strike 49 = .ok (.iload_n 1, 1) := by decide +kernel
theorem dX7_strike_50 : decode cX7_strike 50 = .ok (.iload_n 2, 1) := by decide +kernel
theorem dX7_strike_51 : decode cX7_strike 51 = .ok (.iastore, 1) := by decide +kernel
theorem dX7_strike_52 : decode cX7_strike 52 = .ok (.return_, 1) := by decide +kernel
set_option maxRecDepth 20000 in
theorem ggX7_suspend_X7_isDay : GoodIn wsX7_suspend wsX7_isDay := goodIn_r _ [8, 9, 10, 7, 11] (by decide +kernel) (by decide +kernel)
set_option maxRecDepth 20000 in
theorem gX7_suspend_X7_isDay : GoodIn wsX7_suspend (va_wsS RX7 143 yX7_isDay wsX7_isDay) := goodIn_app (goodIn_of _ (by decide +kernel)) ggX7_suspend_X7_isDay
set_option maxRecDepth 20000 in
theorem ggX7_suspend_X7_isIn : GoodIn wsX7_suspend wsX7_isIn := goodIn_r _ [11] (by decide +kernel) (by decide +kernel)
set_option maxRecDepth 20000 in
theorem gX7_suspend_X7_isIn : GoodIn wsX7_suspend (va_wsS RX7 126 yX7_isIn wsX7_isIn) := goodIn_app (goodIn_of _ (by decide +kernel)) ggX7_suspend_X7_isIn
set_option maxRecDepth 20000 in
theorem ggX7_suspend_X7_isInstruction : GoodIn wsX7_suspend wsX7_isInstruction := goodIn_r _ [15, 16, 9, 10, 7, 11, 26, 27, 28, 29, 30, 31, 32, 33, 34, 35, 36, 37, 38, 39, 40, 41, 42, 43, 44, 45, 46, 47, 48, 49, 50, 51, 52, 53, 54, 55, 56, 57, 58, 59, 60, 61, 62, 63, 64, 65, 66, 67, 68, 69, 70, 71, 72, 73, 74] (by decide +kernel) (by decide +kernel)
set_option maxRecDepth 20000 in
theorem gX7_suspend_X7_isInstruction : GoodIn wsX7_suspend (wsV RX7 146 RX7 yX7_isInstruction wsX7_isInstruction) := goodIn_app (goodIn_of _ (by decide +kernel)) ggX7_suspend_X7_isInstruction
set_option maxRecDepth 20000 in
theorem ggX7_suspend_X7_asksDay : GoodIn wsX7_suspend wsX7_asksDay := goodIn_r _ [20, 12, 13, 14, 7, 15, 16, 9, 10, 11, 21, 22, 23, 24, 25, 26, 27, 28, 29, 30, 31, 32, 33, 34, 35, 36, 37, 38, 39, 40, 41, 42, 43, 44, 45, 46, 47, 48, 49, 50, 51, 52, 53, 54, 55, 56, 57, 58, 59, 60, 61, 62, 63, 64, 65, 66, 67, 68, 69, 70, 71, 72, 73, 74] (by decide +kernel) (by decide +kernel)
set_option maxRecDepth 20000 in
theorem gX7_suspend_X7_asksDay : GoodIn wsX7_suspend (wsV RX7 176 RX7 yX7_asksDay wsX7_asksDay) := goodIn_app (goodIn_of _ (by decide +kernel)) ggX7_suspend_X7_asksDay
theorem dX7_suspend_0 : decode cX7_suspend 0 = .ok (.aload_n 0, 1) := by decide +kernel
theorem dX7_suspend_1 : decode cX7_suspend 1 = .ok (.iload_n 1, 1) := by decide +kernel
theorem dX7_suspend_2 : decode cX7_suspend 2 = .ok (.iload_n 2, 1) := by decide +kernel
theorem dX7_suspend_3 : decode cX7_suspend 3 = .ok (.invokestatic 143, 3) := by decide +kernel
theorem dX7_suspend_6 : decode cX7_suspend 6 = .ok (.ifCond .eq 18, 3) := by decide +kernel
theorem dX7_suspend_9 : decode cX7_suspend 9 = .ok (.iload_n 3, 1) := by decide +kernel
theorem dX7_suspend_10 : decode cX7_suspend 10 = .ok (.iload_n 2, 1) := by decide +kernel
theorem dX7_suspend_11 : decode cX7_suspend 11 = .ok (.sipush 5000, 3) := by decide +kernel
theorem dX7_suspend_14 : decode cX7_suspend 14 = .ok (.invokestatic 126, 3) := by decide +kernel
theorem dX7_suspend_17 : decode cX7_suspend 17 = .ok (.ifCond .eq 7, 3) := by decide +kernel
theorem dX7_suspend_20 : decode cX7_suspend 20 = .ok (.iconst 1, 1) := by decide +kernel
theorem dX7_suspend_21 : decode cX7_suspend 21 = .ok (.goto 4, 3) := by decide +kernel
theorem dX7_suspend_24 : decode cX7_suspend 24 = .ok (.iconst 0, 1) := by decide +kernel
theorem dX7_suspend_25 : decode cX7_suspend 25 = .ok (.aload_n 0, 1) := by decide +kernel
theorem dX7_suspend_26 : decode cX7_suspend 26 = .ok (.iload_n 1, 1) := by decide +kernel
theorem dX7_suspend_27 : decode cX7_suspend 27 = .ok (.invokevirtual 146, 3) := by decide +kernel
theorem dX7_suspend_30 : decode cX7_suspend 30 = .ok (.ifCond .eq 17, 3) := by decide +kernel
theorem dX7_suspend_33 : decode cX7_suspend 33 = .ok (.aload_n 0, 1) := by decide +kernel
theorem dX7_suspend_34 : decode cX7_suspend 34 = .ok (.getfield 77, 3) := by decide +kernel
theorem dX7_suspend_37 : decode cX7_suspend 37 = .ok (.iload_n 1, 1) := by decide +kernel
theorem dX7_suspend_38 : decode cX7_suspend 38 = .ok (.iaload, 1) := by decide +kernel
theorem dX7_suspend_39 : decode cX7_suspend 39 = .ok (.iconst (-1), 1) := by decide +kernel
theorem dX7_suspend_40 : decode cX7_suspend 40 = .ok (.if_icmp .ne 7, 3) := by decide +kernel
theorem dX7_suspend_43 : decode cX7_suspend 43 = .ok (.iconst 1, 1) := by decide +kernel
theorem dX7_suspend_44 : decode cX7_suspend 44 = .ok (.goto 4, 3) := by decide +kernel
theorem dX7_suspend_47 : decode cX7_suspend 47 = .ok (.iconst 0, 1) := by decide +kernel
theorem dX7_suspend_48 : decode cX7_suspend 48 = .ok (.invokevirtual 176, 3) := by decide +kernel
theorem dX7_suspend_51 : decode cX7_suspend 51 = .ok (.ifCond .eq 27, 3) := by decide +kernel
theorem dX7_suspend_54 : decode cX7_suspend 54 = .ok (.aload_n 0, 1) := by decide +kernel
theorem dX7_suspend_55 : decode cX7_suspend 55 = .ok (.getfield 77, 3) := by decide +kernel
theorem dX7_suspend_58 : decode cX7_suspend 58 = .ok (.iload_n 1, 1) := by decide +kernel
theorem dX7_suspend_59 : decode cX7_suspend 59 = .ok (.aload_n 0, 1) := by decide +kernel
theorem dX7_suspend_60 : decode cX7_suspend 60 = .ok (.getfield 133, 3) := by decide +kernel
theorem dX7_suspend_63 : decode cX7_suspend 63 = .ok (.iastore, 1) := by decide +kernel
theorem dX7_suspend_64 : decode cX7_suspend 64 = .ok (.aload_n 0, 1) := by decide +kernel
theorem dX7_suspend_65 : decode cX7_suspend 65 = .ok (.getfield 80, 3) := by decide +kernel
theorem dX7_suspend_68 : decode cX7_suspend 68 = .ok (.iload_n 1, 1) := by decide +kernel
theorem dX7_suspend_69 : decode cX7_suspend 69 = .ok (.iload_n 2, 1) := by decide +kernel
theorem dX7_suspend_70 : decode cX7_suspend 70 = .ok (.iastore, 1) := by decide +kernel
theorem dX7_suspend_71 : decode cX7_suspend 71 = .ok (.aload_n 0, 1) := by decide +kernel
theorem dX7_suspend_72 : decode cX7_suspend 72 = .ok (.getfield 83, 3) := by decide +kernel
theorem dX7_suspend_75 : decode cX7_suspend 75 = .ok (.iload_n 1, 1) := by decide +kernel
theorem dX7_suspend_76 : decode cX7_suspend 76 = .ok (.iload_n 3, 1) := by decide +kernel
theorem dX7_suspend_77 : decode cX7_suspend 77 = .ok (.iastore, 1) := by decide +kernel
theorem dX7_suspend_78 : decode cX7_suspend 78 = .ok (.return_, 1) := by decide +kernel
theorem dX7_isKnown_0 : decode cX7_isKnown 0 = .ok (.iload_n 1, 1) := by decide +kernel
theorem dX7_isKnown_1 : decode cX7_isKnown 1 = .ok (.iconst (-1), 1) := by decide +kernel
theorem dX7_isKnown_2 : decode cX7_isKnown 2 = .ok (.if_icmp .eq 12, 3) := by decide +kernel
theorem dX7_isKnown_5 : decode cX7_isKnown 5 = .ok (.iload_n 1, 1) := by decide +kernel
theorem dX7_isKnown_6 : decode cX7_isKnown 6 = .ok (.iload_n 2, 1) := by decide +kernel
theorem dX7_isKnown_7 : decode cX7_isKnown 7 = .ok (.if_icmp .gt 7, 3) := by decide +kernel
theorem dX7_isKnown_10 : decode cX7_isKnown 10 = .ok (.iconst 1, 1) := by decide +kernel
theorem dX7_isKnown_11 : decode cX7_isKnown 11 = .ok (.goto 4, 3) := by decide +kernel
theorem dX7_isKnown_14 : decode cX7_isKnown 14 = .ok (.iconst 0, 1) := by decide +kernel
theorem dX7_isKnown_15 : decode cX7_isKnown 15 = .ok (.ireturn, 1) := by decide +kernel
set_option maxRecDepth 20000 in
theorem ggX7_commencesBy_X7_isKnown : GoodIn wsX7_commencesBy wsX7_isKnown := goodIn_r _ [11] (by decide +kernel) (by decide +kernel)
set_option maxRecDepth 20000 in
theorem gX7_commencesBy_X7_isKnown : GoodIn wsX7_commencesBy (wsV RX7 180 RX7 yX7_isKnown wsX7_isKnown) := goodIn_app (goodIn_of _ (by decide +kernel)) ggX7_commencesBy_X7_isKnown
theorem dX7_commencesBy_0 : decode cX7_commencesBy 0 = .ok (.iload_n 1, 1) := by decide +kernel
theorem dX7_commencesBy_1 : decode cX7_commencesBy 1 = .ok (.istore_n 3, 1) := by decide +kernel
theorem dX7_commencesBy_2 : decode cX7_commencesBy 2 = .ok (.aload_n 0, 1) := by decide +kernel
theorem dX7_commencesBy_3 : decode cX7_commencesBy 3 = .ok (.getfield 7, 3) := by decide +kernel
theorem dX7_commencesBy_6 : decode cX7_commencesBy 6 = .ok (.aload_n 0, 1) := by decide +kernel
theorem dX7_commencesBy_7 : decode cX7_commencesBy 7 = .ok (.getfield 29, 3) := by decide +kernel
theorem dX7_commencesBy_10 : decode cX7_commencesBy 10 = .ok (.iload_n 3, 1) := by decide +kernel
theorem dX7_commencesBy_11 : decode cX7_commencesBy 11 = .ok (.iaload, 1) := by decide +kernel
theorem dX7_commencesBy_12 : decode cX7_commencesBy 12 = .ok (.iaload, 1) := by decide +kernel
theorem dX7_commencesBy_13 : decode cX7_commencesBy 13 = .ok (.iload_n 2, 1) := by decide +kernel
theorem dX7_commencesBy_14 : decode cX7_commencesBy 14 = .ok (.if_icmp .le 5, 3) := by decide +kernel
theorem dX7_commencesBy_17 : decode cX7_commencesBy 17 = .ok (.iconst (-1), 1) := by decide +kernel
theorem dX7_commencesBy_18 : decode cX7_commencesBy 18 = .ok (.ireturn, 1) := by decide +kernel
theorem dX7_commencesBy_19 : decode cX7_commencesBy 19 = .ok (.aload_n 0, 1) := by decide +kernel
theorem dX7_commencesBy_20 : decode cX7_commencesBy 20 = .ok (.getfield 53, 3) := by decide +kernel
theorem dX7_commencesBy_23 : decode cX7_commencesBy 23 = .ok (.iload_n 3, 1) := by decide +kernel
theorem dX7_commencesBy_24 : decode cX7_commencesBy 24 = .ok (.iaload, 1) := by decide +kernel
theorem dX7_commencesBy_25 : decode cX7_commencesBy 25 = .ok (.iconst 2, 1) := by decide +kernel
theorem dX7_commencesBy_26 : decode cX7_commencesBy 26 = .ok (.if_icmp .ne 13, 3) := by decide +kernel
theorem dX7_commencesBy_29 : decode cX7_commencesBy 29 = .ok (.aload_n 0, 1) := by decide +kernel
theorem dX7_commencesBy_30 : decode cX7_commencesBy 30 = .ok (.getfield 56, 3) := by decide +kernel
theorem dX7_commencesBy_33 : decode cX7_commencesBy 33 = .ok (.iload_n 3, 1) := by decide +kernel
theorem dX7_commencesBy_34 : decode cX7_commencesBy 34 = .ok (.iaload, 1) := by decide +kernel
theorem dX7_commencesBy_35 : decode cX7_commencesBy 35 = .ok (.istore_n 3, 1) := by decide +kernel
theorem dX7_commencesBy_36 : decode cX7_commencesBy 36 = .ok (.goto (-17), 3) := by decide +kernel
theorem dX7_commencesBy_39 : decode cX7_commencesBy 39 = .ok (.aload_n 0, 1) := by decide +kernel
theorem dX7_commencesBy_40 : decode cX7_commencesBy 40 = .ok (.getfield 53, 3) := by decide +kernel
theorem dX7_commencesBy_43 : decode cX7_commencesBy 43 = .ok (.iload_n 3, 1) := by decide +kernel
theorem dX7_commencesBy_44 : decode cX7_commencesBy 44 = .ok (.iaload, 1) := by decide +kernel
theorem dX7_commencesBy_45 : decode cX7_commencesBy 45 = .ok (.ifCond .ne 12, 3) := by decide +kernel
theorem dX7_commencesBy_48 : decode cX7_commencesBy 48 = .ok (.aload_n 0, 1) := by decide +kernel
theorem dX7_commencesBy_49 : decode cX7_commencesBy 49 = .ok (.getfield 56, 3) := by decide +kernel
theorem dX7_commencesBy_52 : decode cX7_commencesBy 52 = .ok (.iload_n 3, 1) := by decide +kernel
theorem dX7_commencesBy_53 : decode cX7_commencesBy 53 = .ok (.iaload, 1) := by decide +kernel
theorem dX7_commencesBy_54 : decode cX7_commencesBy 54 = .ok (.goto 27, 3) := by decide +kernel
theorem dX7_commencesBy_57 : decode cX7_commencesBy 57 = .ok (.aload_n 0, 1) := by decide +kernel
theorem dX7_commencesBy_58 : decode cX7_commencesBy 58 = .ok (.aload_n 0, 1) := by decide +kernel
theorem dX7_commencesBy_59 : decode cX7_commencesBy 59 = .ok (.getfield 65, 3) := by decide +kernel
theorem dX7_commencesBy_62 : decode cX7_commencesBy 62 = .ok (.iload_n 3, 1) := by decide +kernel
theorem dX7_commencesBy_63 : decode cX7_commencesBy 63 = .ok (.iaload, 1) := by decide +kernel
theorem dX7_commencesBy_64 : decode cX7_commencesBy 64 = .ok (.iload_n 2, 1) := by decide +kernel
theorem dX7_commencesBy_65 : decode cX7_commencesBy 65 = .ok (.invokevirtual 180, 3) := by decide +kernel
theorem dX7_commencesBy_68 : decode cX7_commencesBy 68 = .ok (.ifCond .eq 12, 3) := by decide +kernel
theorem dX7_commencesBy_71 : decode cX7_commencesBy 71 = .ok (.aload_n 0, 1) := by decide +kernel
theorem dX7_commencesBy_72 : decode cX7_commencesBy 72 = .ok (.getfield 68, 3) := by decide +kernel
theorem dX7_commencesBy_75 : decode cX7_commencesBy 75 = .ok (.iload_n 3, 1) := by decide +kernel
theorem dX7_commencesBy_76 : decode cX7_commencesBy 76 = .ok (.iaload, 1) := by decide +kernel
theorem dX7_commencesBy_77 : decode cX7_commencesBy 77 = .ok (.goto 4, 3) := by decide +kernel
theorem dX7_commencesBy_80 : decode cX7_commencesBy 80 = .ok (.iconst (-1), 1) := by decide +kernel
theorem dX7_commencesBy_81 : decode cX7_commencesBy 81 = .ok (.ireturn, 1) := by decide +kernel
set_option maxRecDepth 20000 in
theorem ggX7_isInEffect_X7_commencesBy : GoodIn wsX7_isInEffect wsX7_commencesBy := goodIn_r _ [12, 13, 14, 15, 16, 17, 18, 19, 20, 21, 11, 22, 26, 27, 28, 29, 30, 31, 32, 33, 34, 35, 36, 37, 38, 39, 40, 41, 42, 43, 44, 45, 46, 47, 48, 49, 50, 51, 52, 53, 54, 55, 56, 57, 58, 59, 60, 61, 62, 63, 64, 65, 66, 67, 68, 69, 70, 71, 72, 73, 74] (by decide +kernel) (by decide +kernel)
set_option maxRecDepth 20000 in
theorem gX7_isInEffect_X7_commencesBy : GoodIn wsX7_isInEffect (wsV RX7 183 RX7 yX7_commencesBy wsX7_commencesBy) := goodIn_app (goodIn_of _ (by decide +kernel)) ggX7_isInEffect_X7_commencesBy
set_option maxRecDepth 20000 in
theorem ggX7_isInEffect_X7_isKnown : GoodIn wsX7_isInEffect wsX7_isKnown := goodIn_r _ [22] (by decide +kernel) (by decide +kernel)
set_option maxRecDepth 20000 in
theorem gX7_isInEffect_X7_isKnown : GoodIn wsX7_isInEffect (wsV RX7 180 RX7 yX7_isKnown wsX7_isKnown) := goodIn_app (goodIn_of _ (by decide +kernel)) ggX7_isInEffect_X7_isKnown
set_option maxRecDepth 20000 in
theorem ggX7_isInEffect_X7_isIn : GoodIn wsX7_isInEffect wsX7_isIn := goodIn_r _ [25] (by decide +kernel) (by decide +kernel)
set_option maxRecDepth 20000 in
theorem gX7_isInEffect_X7_isIn : GoodIn wsX7_isInEffect (va_wsS RX7 126 yX7_isIn wsX7_isIn) := goodIn_app (goodIn_of _ (by decide +kernel)) ggX7_isInEffect_X7_isIn
theorem dX7_isInEffect_0 : decode cX7_isInEffect 0 = .ok (.aload_n 0, 1) := by decide +kernel
theorem dX7_isInEffect_1 : decode cX7_isInEffect 1 = .ok (.iload_n 1, 1) := by decide +kernel
theorem dX7_isInEffect_2 : decode cX7_isInEffect 2 = .ok (.iload_n 3, 1) := by decide +kernel
theorem dX7_isInEffect_3 : decode cX7_isInEffect 3 = .ok (.invokevirtual 183, 3) := by decide +kernel
theorem dX7_isInEffect_6 : decode cX7_isInEffect 6 = .ok (.istore 5, 2) := by decide +kernel
theorem dX7_isInEffect_8 : decode cX7_isInEffect 8 = .ok (.aload_n 0, 1) := by decide +kernel
theorem dX7_isInEffect_9 : decode cX7_isInEffect 9 = .ok (.getfield 62, 3) := by decide +kernel
theorem dX7_isInEffect_12 : decode cX7_isInEffect 12 = .ok (.iload_n 1, 1) := by decide +kernel
theorem dX7_isInEffect_13 : decode cX7_isInEffect 13 = .ok (.iaload, 1) := by decide +kernel
theorem dX7_isInEffect_14 : decode cX7_isInEffect 14 = .ok (.iconst (-1), 1) := by decide +kernel
theorem dX7_isInEffect_15 : decode cX7_isInEffect 15 = .ok (.if_icmp .eq 17, 3) := by decide +kernel
theorem dX7_isInEffect_18 : decode cX7_isInEffect 18 = .ok (.aload_n 0, 1) := by decide +kernel
theorem dX7_isInEffect_19 : decode cX7_isInEffect 19 = .ok (.getfield 62, 3) := by decide +kernel
theorem dX7_isInEffect_22 : decode cX7_isInEffect 22 = .ok (.iload_n 1, 1) := by decide +kernel
theorem dX7_isInEffect_23 : decode cX7_isInEffect 23 = .ok (.iaload, 1) := by decide +kernel
theorem dX7_isInEffect_24 : decode cX7_isInEffect 24 = .ok (.iload_n 2, 1) := by decide +kernel
theorem dX7_isInEffect_25 : decode cX7_isInEffect 25 = .ok (.if_icmp .gt 7, 3) := by decide +kernel
theorem dX7_isInEffect_28 : decode cX7_isInEffect 28 = .ok (.iconst 1, 1) := by decide +kernel
theorem dX7_isInEffect_29 : decode cX7_isInEffect 29 = .ok (.goto 4, 3) := by decide +kernel
theorem dX7_isInEffect_32 : decode cX7_isInEffect 32 = .ok (.iconst 0, 1) := by decide +kernel
theorem dX7_isInEffect_33 : decode cX7_isInEffect 33 = .ok (.istore 6, 2) := by decide +kernel
theorem dX7_isInEffect_35 : decode cX7_isInEffect 35 = .ok (.aload_n 0, 1) := by decide +kernel
theorem dX7_isInEffect_36 : decode cX7_isInEffect 36 = .ok (.aload_n 0, 1) := by decide +kernel
theorem dX7_isInEffect_37 : decode cX7_isInEffect 37 = .ok (.getfield 71, 3) := by decide +kernel
theorem dX7_isInEffect_40 : decode cX7_isInEffect 40 = .ok (.iload_n 1, 1) := by decide +kernel
theorem dX7_isInEffect_41 : decode cX7_isInEffect 41 = .ok (.iaload, 1) := by decide +kernel
theorem dX7_isInEffect_42 : decode cX7_isInEffect 42 = .ok (.iload_n 3, 1) := by decide +kernel
theorem dX7_isInEffect_43 : decode cX7_isInEffect 43 = .ok (.invokevirtual 180, 3) := by decide +kernel
theorem dX7_isInEffect_46 : decode cX7_isInEffect 46 = .ok (.ifCond .eq 17, 3) := by decide +kernel
theorem dX7_isInEffect_49 : decode cX7_isInEffect 49 = .ok (.aload_n 0, 1) := by decide +kernel
theorem dX7_isInEffect_50 : decode cX7_isInEffect 50 = .ok (.getfield 74, 3) := by decide +kernel
theorem dX7_isInEffect_53 : decode cX7_isInEffect 53 = .ok (.iload_n 1, 1) := by decide +kernel
theorem dX7_isInEffect_54 : decode cX7_isInEffect 54 = .ok (.iaload, 1) := by decide +kernel
theorem dX7_isInEffect_55 : decode cX7_isInEffect 55 = .ok (.iload_n 2, 1) := by decide +kernel
theorem dX7_isInEffect_56 : decode cX7_isInEffect 56 = .ok (.if_icmp .gt 7, 3) := by decide +kernel
theorem dX7_isInEffect_59 : decode cX7_isInEffect 59 = .ok (.iconst 1, 1) := by decide +kernel
theorem dX7_isInEffect_60 : decode cX7_isInEffect 60 = .ok (.goto 4, 3) := by decide +kernel
theorem dX7_isInEffect_63 : decode cX7_isInEffect 63 = .ok (.iconst 0, 1) := by decide +kernel
theorem dX7_isInEffect_64 : decode cX7_isInEffect 64 = .ok (.istore 7, 2) := by decide +kernel
theorem dX7_isInEffect_66 : decode cX7_isInEffect 66 = .ok (.aload_n 0, 1) := by decide +kernel
theorem dX7_isInEffect_67 : decode cX7_isInEffect 67 = .ok (.aload_n 0, 1) := by decide +kernel
theorem dX7_isInEffect_68 : decode cX7_isInEffect 68 = .ok (.getfield 77, 3) := by decide +kernel
theorem dX7_isInEffect_71 : decode cX7_isInEffect 71 = .ok (.iload_n 1, 1) := by decide +kernel
theorem dX7_isInEffect_72 : decode cX7_isInEffect 72 = .ok (.iaload, 1) := by decide +kernel
theorem dX7_isInEffect_73 : decode cX7_isInEffect 73 = .ok (.iload_n 3, 1) := by decide +kernel
theorem dX7_isInEffect_74 : decode cX7_isInEffect 74 = .ok (.invokevirtual 180, 3) := by decide +kernel
theorem dX7_isInEffect_77 : decode cX7_isInEffect 77 = .ok (.ifCond .eq 26, 3) := by decide +kernel
theorem dX7_isInEffect_80 : decode cX7_isInEffect 80 = .ok (.iload_n 2, 1) := by decide +kernel
theorem dX7_isInEffect_81 : decode cX7_isInEffect 81 = .ok (.aload_n 0, 1) := by decide +kernel
theorem dX7_isInEffect_82 : decode cX7_isInEffect 82 = .ok (.getfield 80, 3) := by decide +kernel
theorem dX7_isInEffect_85 : decode cX7_isInEffect 85 = .ok (.iload_n 1, 1) := by decide +kernel
theorem dX7_isInEffect_86 : decode cX7_isInEffect 86 = .ok (.iaload, 1) := by decide +kernel
theorem dX7_isInEffect_87 : decode cX7_isInEffect 87 = .ok (.aload_n 0, 1) := by decide +kernel
theorem dX7_isInEffect_88 : decode cX7_isInEffect 88 = .ok (.getfield 83, 3) := by decide +kernel
theorem dX7_isInEffect_91 : decode cX7_isInEffect 91 = .ok (.iload_n 1, 1) := by decide +kernel
theorem dX7_isInEffect_92 : decode cX7_isInEffect 92 = .ok (.iaload, 1) := by decide +kernel
theorem dX7_isInEffect_93 : decode cX7_isInEffect 93 = .ok (.invokestatic 126, 3) := by decide +kernel
theorem dX7_isInEffect_96 : decode cX7_isInEffect 96 = .ok (.ifCond .eq 7, 3) := by decide +kernel
theorem dX7_isInEffect_99 : decode cX7_isInEffect 99 = .ok (.iconst 1, 1) := by decide +kernel
theorem dX7_isInEffect_100 : decode cX7_isInEffect 100 = .ok (.goto 4, 3) := by decide +kernel
theorem dX7_isInEffect_103 : decode cX7_isInEffect 103 = .ok (.iconst 0, 1) := by decide +kernel
theorem dX7_isInEffect_104 : decode cX7_isInEffect 104 = .ok (.istore 8, 2) := by decide +kernel
theorem dX7_isInEffect_106 : decode cX7_isInEffect 106 = .ok (.iload 5, 2) := by decide +kernel
theorem dX7_isInEffect_108 : decode cX7_isInEffect 108 = .ok (.iconst (-1), 1) := by decide +kernel
theorem dX7_isInEffect_109 : decode cX7_isInEffect 109 = .ok (.if_icmp .eq 43, 3) := by decide +kernel
theorem dX7_isInEffect_112 : decode cX7_isInEffect 112 = .ok (.iload 5, 2) := by decide +kernel
theorem dX7_isInEffect_114 : decode cX7_isInEffect 114 = .ok (.iload_n 2, 1) := by decide +kernel
theorem dX7_isInEffect_115 : decode cX7_isInEffect 115 = .ok (.if_icmp .gt 37, 3) := by decide +kernel
theorem dX7_isInEffect_118 : decode cX7_isInEffect 118 = .ok (.aload_n 0, 1) := by decide +kernel
theorem dX7_isInEffect_119 : decode cX7_isInEffect 119 = .ok (.getfield 59, 3) := by decide +kernel
theorem dX7_isInEffect_122 : decode cX7_isInEffect 122 = .ok (.iload_n 1, 1) := by decide +kernel
theorem dX7_isInEffect_123 : decode cX7_isInEffect 123 = .ok (.iaload, 1) := by decide +kernel
theorem dX7_isInEffect_124 : decode cX7_isInEffect 124 = .ok (.iload 4, 2) := by decide +kernel
theorem dX7_isInEffect_126 : decode cX7_isInEffect 126 = .ok (.ishr, 1) := by decide +kernel
theorem dX7_isInEffect_127 : decode cX7_isInEffect 127 = .ok (.iconst 1, 1) := by decide +kernel
theorem dX7_isInEffect_128 : decode cX7_isInEffect 128 = .ok (.iand, 1) := by decide +kernel
theorem dX7_isInEffect_129 : decode cX7_isInEffect 129 = .ok (.iconst 1, 1) := by decide +kernel
theorem dX7_isInEffect_130 : decode cX7_isInEffect 130 = .ok (.if_icmp .ne 22, 3) := by decide +kernel
theorem dX7_isInEffect_133 : decode cX7_isInEffect 133 = .ok (.iload 6, 2) := by decide +kernel
theorem dX7_isInEffect_135 : decode cX7_isInEffect 135 = .ok (.ifCond .ne 17, 3) := by decide +kernel
theorem dX7_isInEffect_138 : decode cX7_isInEffect 138 = .ok (.iload 7, 2) := by decide +kernel
theorem dX7_isInEffect_140 : decode cX7_isInEffect 140 = .ok (.ifCond .ne 12, 3) := by decide +kernel
theorem dX7_isInEffect_143 : decode cX7_isInEffect 143 = .ok (.iload 8, 2) := by decide +kernel
theorem dX7_isInEffect_145 : decode cX7_isInEffect 145 = .ok (.ifCond .ne 7, 3) := by decide +kernel
theorem dX7_isInEffect_148 : decode cX7_isInEffect 148 = .ok (.iconst 1, 1) := by decide +kernel
theorem dX7_isInEffect_149 : decode cX7_isInEffect 149 = .ok (.goto 4, 3) := by decide +kernel
theorem dX7_isInEffect_152 : decode cX7_isInEffect 152 = .ok (.iconst 0, 1) := by decide +kernel
theorem dX7_isInEffect_153 : decode cX7_isInEffect 153 = .ok (.ireturn, 1) := by decide +kernel
theorem dX7_hasLabel_0 : decode cX7_hasLabel 0 = .ok (.iconst 0, 1) := by decide +kernel
theorem dX7_hasLabel_1 : decode cX7_hasLabel 1 = .ok (.istore 4, 2) := by decide +kernel
theorem dX7_hasLabel_3 : decode cX7_hasLabel 3 = .ok (.iconst 0, 1) := by decide +kernel
theorem dX7_hasLabel_4 : decode cX7_hasLabel 4 = .ok (.istore 5, 2) := by decide +kernel
theorem dX7_hasLabel_6 : decode cX7_hasLabel 6 = .ok (.iload 5, 2) := by decide +kernel
theorem dX7_hasLabel_8 : decode cX7_hasLabel 8 = .ok (.aload_n 0, 1) := by decide +kernel
theorem dX7_hasLabel_9 : decode cX7_hasLabel 9 = .ok (.getfield 130, 3) := by decide +kernel
theorem dX7_hasLabel_12 : decode cX7_hasLabel 12 = .ok (.if_icmp .ge 59, 3) := by decide +kernel
theorem dX7_hasLabel_15 : decode cX7_hasLabel 15 = .ok (.iload 4, 2) := by decide +kernel
theorem dX7_hasLabel_17 : decode cX7_hasLabel 17 = .ok (.ifCond .ne 41, 3) := by decide +kernel
theorem dX7_hasLabel_20 : decode cX7_hasLabel 20 = .ok (.iload 5, 2) := by decide +kernel
theorem dX7_hasLabel_22 : decode cX7_hasLabel 22 = .ok (.iload_n 3, 1) := by decide +kernel
theorem dX7_hasLabel_23 : decode cX7_hasLabel 23 = .ok (.if_icmp .eq 39, 3) := by decide +kernel
theorem dX7_hasLabel_26 : decode cX7_hasLabel 26 = .ok (.aload_n 0, 1) := by decide +kernel
theorem dX7_hasLabel_27 : decode cX7_hasLabel 27 = .ok (.getfield 89, 3) := by decide +kernel
theorem dX7_hasLabel_30 : decode cX7_hasLabel 30 = .ok (.iload 5, 2) := by decide +kernel
theorem dX7_hasLabel_32 : decode cX7_hasLabel 32 = .ok (.baload, 1) := by decide +kernel
theorem dX7_hasLabel_33 : decode cX7_hasLabel 33 = .ok (.ifCond .eq 29, 3) := by decide +kernel
theorem dX7_hasLabel_36 : decode cX7_hasLabel 36 = .ok (.aload_n 0, 1) := by decide +kernel
theorem dX7_hasLabel_37 : decode cX7_hasLabel 37 = .ok (.getfield 96, 3) := by decide +kernel
theorem dX7_hasLabel_40 : decode cX7_hasLabel 40 = .ok (.iload 5, 2) := by decide +kernel
theorem dX7_hasLabel_42 : decode cX7_hasLabel 42 = .ok (.iaload, 1) := by decide +kernel
theorem dX7_hasLabel_43 : decode cX7_hasLabel 43 = .ok (.iload_n 1, 1) := by decide +kernel
theorem dX7_hasLabel_44 : decode cX7_hasLabel 44 = .ok (.if_icmp .ne 18, 3) := by decide +kernel
theorem dX7_hasLabel_47 : decode cX7_hasLabel 47 = .ok (.aload_n 0, 1) := by decide +kernel
theorem dX7_hasLabel_48 : decode cX7_hasLabel 48 = .ok (.getfield 93, 3) := by decide +kernel
theorem dX7_hasLabel_51 : decode cX7_hasLabel 51 = .ok (.iload 5, 2) := by decide +kernel
theorem dX7_hasLabel_53 : decode cX7_hasLabel 53 = .ok (.iaload, 1) := by decide +kernel
theorem dX7_hasLabel_54 : decode cX7_hasLabel 54 = .ok (.iload_n 2, 1) := by decide +kernel
theorem dX7_hasLabel_55 : decode cX7_hasLabel 55 = .ok (.if_icmp .ne 7, 3) := by decide +kernel
theorem dX7_hasLabel_58 : decode cX7_hasLabel 58 = .ok (.iconst 1, 1) := by decide +kernel
theorem dX7_hasLabel_59 : decode cX7_hasLabel 59 = .ok (.goto 4, 3) := by decide +kernel
theorem dX7_hasLabel_62 : decode cX7_hasLabel 62 = .ok (.iconst 0, 1) := by decide +kernel
theorem dX7_hasLabel_63 : decode cX7_hasLabel 63 = .ok (.istore 4, 2) := by decide +kernel
theorem dX7_hasLabel_65 : decode cX7_hasLabel 65 = .ok (.iinc 5 1, 3) := by decide +kernel
theorem dX7_hasLabel_68 : decode cX7_hasLabel 68 = .ok (.goto (-62), 3) := by decide +kernel
theorem dX7_hasLabel_71 : decode cX7_hasLabel 71 = .ok (.iload 4, 2) := by decide +kernel
theorem dX7_hasLabel_73 : decode cX7_hasLabel 73 = .ok (.ireturn, 1) := by decide +kernel
theorem dX7_isPlace_0 : decode cX7_isPlace 0 = .ok (.iload_n 1, 1) := by decide +kernel
theorem dX7_isPlace_1 : decode cX7_isPlace 1 = .ok (.iconst (-1), 1) := by decide +kernel
theorem dX7_isPlace_2 : decode cX7_isPlace 2 = .ok (.if_icmp .eq 12, 3) := by decide +kernel
theorem dX7_isPlace_5 : decode cX7_isPlace 5 = .ok (.aload_n 0, 1) := by decide +kernel
theorem dX7_isPlace_6 : decode cX7_isPlace 6 = .ok (.getfield 89, 3) := by decide +kernel
theorem dX7_isPlace_9 : decode cX7_isPlace 9 = .ok (.iload_n 1, 1) := by decide +kernel
theorem dX7_isPlace_10 : decode cX7_isPlace 10 = .ok (.baload, 1) := by decide +kernel
theorem dX7_isPlace_11 : decode cX7_isPlace 11 = .ok (.ifCond .eq 7, 3) := by decide +kernel
theorem dX7_isPlace_14 : decode cX7_isPlace 14 = .ok (.iconst 1, 1) := by decide +kernel
theorem dX7_isPlace_15 : decode cX7_isPlace 15 = .ok (.goto 4, 3) := by decide +kernel
theorem dX7_isPlace_18 : decode cX7_isPlace 18 = .ok (.iconst 0, 1) := by decide +kernel
theorem dX7_isPlace_19 : decode cX7_isPlace 19 = .ok (.ireturn, 1) := by decide +kernel
theorem dX7_isWithin_0 : decode cX7_isWithin 0 = .ok (.iload_n 1, 1) := by decide +kernel
theorem dX7_isWithin_1 : decode cX7_isWithin 1 = .ok (.istore_n 3, 1) := by decide +kernel
theorem dX7_isWithin_2 : decode cX7_isWithin 2 = .ok (.iload_n 3, 1) := by decide +kernel
theorem dX7_isWithin_3 : decode cX7_isWithin 3 = .ok (.iconst (-1), 1) := by decide +kernel
theorem dX7_isWithin_4 : decode cX7_isWithin 4 = .ok (.if_icmp .eq 18, 3) := by decide +kernel
theorem dX7_isWithin_7 : decode cX7_isWithin 7 = .ok (.iload_n 3, 1) := by decide +kernel
theorem dX7_isWithin_8 : decode cX7_isWithin 8 = .ok (.iload_n 2, 1) := by decide +kernel
theorem dX7_isWithin_9 : decode cX7_isWithin 9 = .ok (.if_icmp .eq 13, 3) := by decide +kernel
theorem dX7_isWithin_12 : decode cX7_isWithin 12 = .ok (.aload_n 0, 1) := by decide +kernel
theorem dX7_isWithin_13 : decode cX7_isWithin 13 = .ok (.getfield 96, 3) := by decide +kernel
theorem dX7_isWithin_16 : decode cX7_isWithin 16 = .ok (.iload_n 3, 1) := by decide +kernel
theorem dX7_isWithin_17 : decode cX7_isWithin 17 = .ok (.iaload, 1) := by decide +kernel
theorem dX7_isWithin_18 : decode cX7_isWithin 18 = .ok (.istore_n 3, 1) := by decide +kernel
theorem dX7_isWithin_19 : decode cX7_isWithin 19 = .ok (.goto (-17), 3) := by decide +kernel
theorem dX7_isWithin_22 : decode cX7_isWithin 22 = .ok (.iload_n 3, 1) := by decide +kernel
theorem dX7_isWithin_23 : decode cX7_isWithin 23 = .ok (.iload_n 2, 1) := by decide +kernel
theorem dX7_isWithin_24 : decode cX7_isWithin 24 = .ok (.if_icmp .ne 7, 3) := by decide +kernel
theorem dX7_isWithin_27 : decode cX7_isWithin 27 = .ok (.iconst 1, 1) := by decide +kernel
theorem dX7_isWithin_28 : decode cX7_isWithin 28 = .ok (.goto 4, 3) := by decide +kernel
theorem dX7_isWithin_31 : decode cX7_isWithin 31 = .ok (.iconst 0, 1) := by decide +kernel
theorem dX7_isWithin_32 : decode cX7_isWithin 32 = .ok (.ireturn, 1) := by decide +kernel
theorem dX7_isFoundAt_0 : decode cX7_isFoundAt 0 = .ok (.iload_n 3, 1) := by decide +kernel
theorem dX7_isFoundAt_1 : decode cX7_isFoundAt 1 = .ok (.aload_n 0, 1) := by decide +kernel
theorem dX7_isFoundAt_2 : decode cX7_isFoundAt 2 = .ok (.getfield 41, 3) := by decide +kernel
theorem dX7_isFoundAt_5 : decode cX7_isFoundAt 5 = .ok (.iload_n 1, 1) := by decide +kernel
theorem dX7_isFoundAt_6 : decode cX7_isFoundAt 6 = .ok (.iaload, 1) := by decide +kernel
theorem dX7_isFoundAt_7 : decode cX7_isFoundAt 7 = .ok (.iadd, 1) := by decide +kernel
theorem dX7_isFoundAt_8 : decode cX7_isFoundAt 8 = .ok (.aload_n 0, 1) := by decide +kernel
theorem dX7_isFoundAt_9 : decode cX7_isFoundAt 9 = .ok (.getfield 99, 3) := by decide +kernel
theorem dX7_isFoundAt_12 : decode cX7_isFoundAt 12 = .ok (.iload_n 2, 1) := by decide +kernel
theorem dX7_isFoundAt_13 : decode cX7_isFoundAt 13 = .ok (.iaload, 1) := by decide +kernel
theorem dX7_isFoundAt_14 : decode cX7_isFoundAt 14 = .ok (.if_icmp .gt 7, 3) := by decide +kernel
theorem dX7_isFoundAt_17 : decode cX7_isFoundAt 17 = .ok (.iconst 1, 1) := by decide +kernel
theorem dX7_isFoundAt_18 : decode cX7_isFoundAt 18 = .ok (.goto 4, 3) := by decide +kernel
theorem dX7_isFoundAt_21 : decode cX7_isFoundAt 21 = .ok (.iconst 0, 1) := by decide +kernel
theorem dX7_isFoundAt_22 : decode cX7_isFoundAt 22 = .ok (.istore 4, 2) := by decide +kernel
theorem dX7_isFoundAt_24 : decode cX7_isFoundAt 24 = .ok (.iconst 0, 1) := by decide +kernel
theorem dX7_isFoundAt_25 : decode cX7_isFoundAt 25 = .ok (.istore 5, 2) := by decide +kernel
theorem dX7_isFoundAt_27 : decode cX7_isFoundAt 27 = .ok (.iload 5, 2) := by decide +kernel
theorem dX7_isFoundAt_29 : decode cX7_isFoundAt 29 = .ok (.aload_n 0, 1) := by decide +kernel
theorem dX7_isFoundAt_30 : decode cX7_isFoundAt 30 = .ok (.getfield 41, 3) := by decide +kernel
theorem dX7_isFoundAt_33 : decode cX7_isFoundAt 33 = .ok (.iload_n 1, 1) := by decide +kernel
theorem dX7_isFoundAt_34 : decode cX7_isFoundAt 34 = .ok (.iaload, 1) := by decide +kernel
theorem dX7_isFoundAt_35 : decode cX7_isFoundAt 35 = .ok (.if_icmp .ge 49, 3) := by decide +kernel
theorem dX7_isFoundAt_38 : decode cX7_isFoundAt 38 = .ok (.iload 4, 2) := by decide +kernel
theorem dX7_isFoundAt_40 : decode cX7_isFoundAt 40 = .ok (.ifCond .eq 44, 3) := by decide +kernel
theorem dX7_isFoundAt_43 : decode cX7_isFoundAt 43 = .ok (.aload_n 0, 1) := by decide +kernel
theorem dX7_isFoundAt_44 : decode cX7_isFoundAt 44 = .ok (.getfield 102, 3) := by decide +kernel
theorem dX7_isFoundAt_47 : decode cX7_isFoundAt 47 = .ok (.bipush 12, 2) := by decide +kernel
theorem dX7_isFoundAt_49 : decode cX7_isFoundAt 49 = .ok (.iload_n 2, 1) := by decide +kernel
theorem dX7_isFoundAt_50 : decode cX7_isFoundAt 50 = .ok (.imul, 1) := by decide +kernel
theorem dX7_isFoundAt_51 : decode cX7_isFoundAt 51 = .ok (.iload_n 3, 1) := by decide +kernel
theorem dX7_isFoundAt_52 : decode cX7_isFoundAt 52 = .ok (.iadd, 1) := by decide +kernel
theorem dX7_isFoundAt_53 : decode cX7_isFoundAt 53 = .ok (.iload 5, 2) := by decide +kernel
theorem dX7_isFoundAt_55 : decode cX7_isFoundAt 55 = .ok (.iadd, 1) := by decide +kernel
theorem dX7_isFoundAt_56 : decode cX7_isFoundAt 56 = .ok (.iaload, 1) := by decide +kernel
theorem dX7_isFoundAt_57 : decode cX7_isFoundAt 57 = .ok (.aload_n 0, 1) := by decide +kernel
theorem dX7_isFoundAt_58 : decode cX7_isFoundAt 58 = .ok (.getfield 44, 3) := by decide +kernel
theorem dX7_isFoundAt_61 : decode cX7_isFoundAt 61 = .ok (.iconst 4, 1) := by decide +kernel
theorem dX7_isFoundAt_62 : decode cX7_isFoundAt 62 = .ok (.iload_n 1, 1) := by decide +kernel
theorem dX7_isFoundAt_63 : decode cX7_isFoundAt 63 = .ok (.imul, 1) := by decide +kernel
theorem dX7_isFoundAt_64 : decode cX7_isFoundAt 64 = .ok (.iload 5, 2) := by decide +kernel
theorem dX7_isFoundAt_66 : decode cX7_isFoundAt 66 = .ok (.iadd, 1) := by decide +kernel
theorem dX7_isFoundAt_67 : decode cX7_isFoundAt 67 = .ok (.iaload, 1) := by decide +kernel
theorem dX7_isFoundAt_68 : decode cX7_isFoundAt 68 = .ok (.if_icmp .ne 7, 3) := by decide +kernel
theorem dX7_isFoundAt_71 : decode cX7_isFoundAt 71 = .ok (.iconst 1, 1) := by decide +kernel
theorem dX7_isFoundAt_72 : decode cX7_isFoundAt 72 = .ok (.goto 4, 3) := by decide +kernel
theorem dX7_isFoundAt_75 : decode cX7_isFoundAt 75 = .ok (.iconst 0, 1) := by decide +kernel
theorem dX7_isFoundAt_76 : decode cX7_isFoundAt 76 = .ok (.istore 4, 2) := by decide +kernel
theorem dX7_isFoundAt_78 : decode cX7_isFoundAt 78 = .ok (.iinc 5 1, 3) := by decide +kernel
theorem dX7_isFoundAt_81 : decode cX7_isFoundAt 81 = .ok (.goto (-54), 3) := by decide +kernel
theorem dX7_isFoundAt_84 : decode cX7_isFoundAt 84 = .ok (.iload 4, 2) := by decide +kernel
theorem dX7_isFoundAt_86 : decode cX7_isFoundAt 86 = .ok (.ireturn, 1) := by decide +kernel
set_option maxRecDepth 20000 in
theorem ggX7_firstPlace_X7_isFoundAt : GoodIn wsX7_firstPlace wsX7_isFoundAt := goodIn_r _ [6, 7, 1, 8, 9, 10, 11, 12, 13, 14, 15, 16, 17, 18, 19, 20, 21, 22, 23, 24, 25, 26, 27, 28, 29, 30, 31, 32, 33, 34, 35, 36, 37, 38, 39, 40, 41, 42, 43, 44, 45, 46, 47, 48, 49, 50, 51, 52, 53, 54, 55, 56, 57, 58] (by decide +kernel) (by decide +kernel)
set_option maxRecDepth 20000 in
theorem gX7_firstPlace_X7_isFoundAt : GoodIn wsX7_firstPlace (wsV RX7 187 RX7 yX7_isFoundAt wsX7_isFoundAt) := goodIn_app (goodIn_of _ (by decide +kernel)) ggX7_firstPlace_X7_isFoundAt
theorem dX7_firstPlace_0 : decode cX7_firstPlace 0 = .ok (.iconst (-1), 1) := by decide +kernel
theorem dX7_firstPlace_1 : decode cX7_firstPlace 1 = .ok (.istore_n 3, 1) := by decide +kernel
theorem dX7_firstPlace_2 : decode cX7_firstPlace 2 = .ok (.aload_n 0, 1) := by decide +kernel
theorem dX7_firstPlace_3 : decode cX7_firstPlace 3 = .ok (.getfield 99, 3) := by decide +kernel
theorem dX7_firstPlace_6 : decode cX7_firstPlace 6 = .ok (.iload_n 2, 1) := by decide +kernel
theorem dX7_firstPlace_7 : decode cX7_firstPlace 7 = .ok (.iaload, 1) := by decide +kernel
theorem dX7_firstPlace_8 : decode cX7_firstPlace 8 = .ok (.istore 4, 2) := by decide +kernel
theorem dX7_firstPlace_10 : decode cX7_firstPlace 10 = .ok (.iload 4, 2) := by decide +kernel
theorem dX7_firstPlace_12 : decode cX7_firstPlace 12 = .ok (.ifCond .lt 27, 3) := by decide +kernel
theorem dX7_firstPlace_15 : decode cX7_firstPlace 15 = .ok (.aload_n 0, 1) := by decide +kernel
theorem dX7_firstPlace_16 : decode cX7_firstPlace 16 = .ok (.iload_n 1, 1) := by decide +kernel
theorem dX7_firstPlace_17 : decode cX7_firstPlace 17 = .ok (.iload_n 2, 1) := by decide +kernel
theorem dX7_firstPlace_18 : decode cX7_firstPlace 18 = .ok (.iload 4, 2) := by decide +kernel
theorem dX7_firstPlace_20 : decode cX7_firstPlace 20 = .ok (.invokevirtual 187, 3) := by decide +kernel
theorem dX7_firstPlace_23 : decode cX7_firstPlace 23 = .ok (.ifCond .eq 8, 3) := by decide +kernel
theorem dX7_firstPlace_26 : decode cX7_firstPlace 26 = .ok (.iload 4, 2) := by decide +kernel
theorem dX7_firstPlace_28 : decode cX7_firstPlace 28 = .ok (.goto 4, 3) := by decide +kernel
theorem dX7_firstPlace_31 : decode cX7_firstPlace 31 = .ok (.iload_n 3, 1) := by decide +kernel
theorem dX7_firstPlace_32 : decode cX7_firstPlace 32 = .ok (.istore_n 3, 1) := by decide +kernel
theorem dX7_firstPlace_33 : decode cX7_firstPlace 33 = .ok (.iinc 4 (-1), 3) := by decide +kernel
theorem dX7_firstPlace_36 : decode cX7_firstPlace 36 = .ok (.goto (-26), 3) := by decide +kernel
theorem dX7_firstPlace_39 : decode cX7_firstPlace 39 = .ok (.iload_n 3, 1) := by decide +kernel
theorem dX7_firstPlace_40 : decode cX7_firstPlace 40 = .ok (.ireturn, 1) := by decide +kernel
theorem dX7_puts_0 : decode cX7_puts 0 = .ok (.aload_n 0, 1) := by decide +kernel
theorem dX7_puts_1 : decode cX7_puts 1 = .ok (.getfield 114, 3) := by decide +kernel
theorem dX7_puts_4 : decode cX7_puts 4 = .ok (.aload_n 0, 1) := by decide +kernel
theorem dX7_puts_5 : decode cX7_puts 5 = .ok (.getfield 190, 3) := by decide +kernel
theorem dX7_puts_8 : decode cX7_puts 8 = .ok (.iload_n 1, 1) := by decide +kernel
theorem dX7_puts_9 : decode cX7_puts 9 = .ok (.iastore, 1) := by decide +kernel
theorem dX7_puts_10 : decode cX7_puts 10 = .ok (.aload_n 0, 1) := by decide +kernel
theorem dX7_puts_11 : decode cX7_puts 11 = .ok (.getfield 117, 3) := by decide +kernel
theorem dX7_puts_14 : decode cX7_puts 14 = .ok (.aload_n 0, 1) := by decide +kernel
theorem dX7_puts_15 : decode cX7_puts 15 = .ok (.getfield 190, 3) := by decide +kernel
theorem dX7_puts_18 : decode cX7_puts 18 = .ok (.iload_n 2, 1) := by decide +kernel
theorem dX7_puts_19 : decode cX7_puts 19 = .ok (.iastore, 1) := by decide +kernel
theorem dX7_puts_20 : decode cX7_puts 20 = .ok (.aload_n 0, 1) := by decide +kernel
theorem dX7_puts_21 : decode cX7_puts 21 = .ok (.dup, 1) := by decide +kernel
theorem dX7_puts_22 : decode cX7_puts 22 = .ok (.getfield 190, 3) := by decide +kernel
theorem dX7_puts_25 : decode cX7_puts 25 = .ok (.iconst 1, 1) := by decide +kernel
theorem dX7_puts_26 : decode cX7_puts 26 = .ok (.iadd, 1) := by decide +kernel
theorem dX7_puts_27 : decode cX7_puts 27 = .ok (.putfield 190, 3) := by decide +kernel
theorem dX7_puts_30 : decode cX7_puts 30 = .ok (.return_, 1) := by decide +kernel
set_option maxRecDepth 20000 in
theorem ggX7_putsNew_X7_puts : GoodIn wsX7_putsNew wsX7_puts := goodIn_r _ [7, 8, 9, 10, 11, 12, 13, 14, 15, 16, 17, 18, 19, 20, 21, 22, 23, 24, 25, 26, 27, 28, 29, 30, 31, 32, 33, 34, 35, 36, 37, 38, 39, 40, 41, 42, 43, 44, 45, 46, 47, 48, 49, 50, 51, 52, 53, 54, 55, 56, 57, 58, 59] (by decide +kernel) (by decide +kernel)
set_option maxRecDepth 20000 in
theorem gX7_putsNew_X7_puts : GoodIn wsX7_putsNew (wsV RX7 193 RX7 yX7_puts wsX7_puts) := goodIn_app (goodIn_of _ (by decide +kernel)) ggX7_putsNew_X7_puts
theorem dX7_putsNew_0 : decode cX7_putsNew 0 = .ok (.iconst 0, 1) := by decide +kernel
theorem dX7_putsNew_1 : decode cX7_putsNew 1 = .ok (.istore_n 2, 1) := by decide +kernel
theorem dX7_putsNew_2 : decode cX7_putsNew 2 = .ok (.iload_n 2, 1) := by decide +kernel
theorem dX7_putsNew_3 : decode cX7_putsNew 3 = .ok (.aload_n 0, 1) := by decide +kernel
theorem dX7_putsNew_4 : decode cX7_putsNew 4 = .ok (.getfield 108, 3) := by decide +kernel
theorem dX7_putsNew_7 : decode cX7_putsNew 7 = .ok (.iload_n 1, 1) := by decide +kernel
theorem dX7_putsNew_8 : decode cX7_putsNew 8 = .ok (.iaload, 1) := by decide +kernel
theorem dX7_putsNew_9 : decode cX7_putsNew 9 = .ok (.if_icmp .ge 24, 3) := by decide +kernel
theorem dX7_putsNew_12 : decode cX7_putsNew 12 = .ok (.aload_n 0, 1) := by decide +kernel
theorem dX7_putsNew_13 : decode cX7_putsNew 13 = .ok (.aload_n 0, 1) := by decide +kernel
theorem dX7_putsNew_14 : decode cX7_putsNew 14 = .ok (.getfield 111, 3) := by decide +kernel
theorem dX7_putsNew_17 : decode cX7_putsNew 17 = .ok (.iconst 4, 1) := by decide +kernel
theorem dX7_putsNew_18 : decode cX7_putsNew 18 = .ok (.iload_n 1, 1) := by decide +kernel
theorem dX7_putsNew_19 : decode cX7_putsNew 19 = .ok (.imul, 1) := by decide +kernel
theorem dX7_putsNew_20 : decode cX7_putsNew 20 = .ok (.iload_n 2, 1) := by decide +kernel
theorem dX7_putsNew_21 : decode cX7_putsNew 21 = .ok (.iadd, 1) := by decide +kernel
theorem dX7_putsNew_22 : decode cX7_putsNew 22 = .ok (.iaload, 1) := by decide +kernel
theorem dX7_putsNew_23 : decode cX7_putsNew 23 = .ok (.iload_n 1, 1) := by decide +kernel
theorem dX7_putsNew_24 : decode cX7_putsNew 24 = .ok (.invokevirtual 193, 3) := by decide +kernel
theorem dX7_putsNew_27 : decode cX7_putsNew 27 = .ok (.iinc 2 1, 3) := by decide +kernel
theorem dX7_putsNew_30 : decode cX7_putsNew 30 = .ok (.goto (-28), 3) := by decide +kernel
theorem dX7_putsNew_33 : decode cX7_putsNew 33 = .ok (.return_, 1) := by decide +kernel
set_option maxRecDepth 20000 in
theorem ggX7_putsOld_X7_puts : GoodIn wsX7_putsOld wsX7_puts := goodIn_r _ [7, 8, 9, 10, 11, 12, 13, 14, 15, 16, 17, 18, 19, 20, 21, 22, 23, 24, 25, 26, 27, 28, 29, 30, 31, 32, 33, 34, 35, 36, 37, 38, 39, 40, 41, 42, 43, 44, 45, 46, 47, 48, 49, 50, 51, 52, 53, 54, 55, 56, 57, 58, 59] (by decide +kernel) (by decide +kernel)
set_option maxRecDepth 20000 in
theorem gX7_putsOld_X7_puts : GoodIn wsX7_putsOld (wsV RX7 193 RX7 yX7_puts wsX7_puts) := goodIn_app (goodIn_of _ (by decide +kernel)) ggX7_putsOld_X7_puts
theorem dX7_putsOld_0 : decode cX7_putsOld 0 = .ok (.iload_n 2, 1) := by decide +kernel
theorem dX7_putsOld_1 : decode cX7_putsOld 1 = .ok (.istore 4, 2) := by decide +kernel
theorem dX7_putsOld_3 : decode cX7_putsOld 3 = .ok (.iload 4, 2) := by decide +kernel
theorem dX7_putsOld_5 : decode cX7_putsOld 5 = .ok (.iload_n 3, 1) := by decide +kernel
theorem dX7_putsOld_6 : decode cX7_putsOld 6 = .ok (.if_icmp .ge 37, 3) := by decide +kernel
theorem dX7_putsOld_9 : decode cX7_putsOld 9 = .ok (.aload_n 0, 1) := by decide +kernel
theorem dX7_putsOld_10 : decode cX7_putsOld 10 = .ok (.aload_n 0, 1) := by decide +kernel
theorem dX7_putsOld_11 : decode cX7_putsOld 11 = .ok (.getfield 102, 3) := by decide +kernel
theorem dX7_putsOld_14 : decode cX7_putsOld 14 = .ok (.bipush 12, 2) := by decide +kernel
theorem dX7_putsOld_16 : decode cX7_putsOld 16 = .ok (.iload_n 1, 1) := by decide +kernel
theorem dX7_putsOld_17 : decode cX7_putsOld 17 = .ok (.imul, 1) := by decide +kernel
