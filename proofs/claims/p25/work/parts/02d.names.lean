theorem dX5_carryOut_110 : decode cX5_carryOut 110 = .ok (.ifCond .eq 7, 3) := by decide +kernel
theorem dX5_carryOut_113 : decode cX5_carryOut 113 = .ok (.iconst 1, 1) := by decide +kernel
theorem dX5_carryOut_114 : decode cX5_carryOut 114 = .ok (.goto 4, 3) := by decide +kernel
theorem dX5_carryOut_117 : decode cX5_carryOut 117 = .ok (.iconst 0, 1) := by decide +kernel
theorem dX5_carryOut_118 : decode cX5_carryOut 118 = .ok (.ireturn, 1) := by decide +kernel
set_option maxRecDepth 20000 in
theorem ggX5_setUp_X5_mayHold : GoodIn wsX5_setUp wsX5_mayHold := goodIn_r _ [11, 4, 5, 12, 13, 14, 10, 15, 16, 17, 18, 19, 84, 85, 86, 87, 88, 89, 90, 91, 92, 93, 94, 95, 96] (by decide +kernel) (by decide +kernel)
set_option maxRecDepth 20000 in
theorem gX5_setUp_X5_mayHold : GoodIn wsX5_setUp (wsV RX5 186 RX5 yX5_mayHold wsX5_mayHold) := goodIn_app (goodIn_of _ (by decide +kernel)) ggX5_setUp_X5_mayHold
set_option maxRecDepth 20000 in
theorem ggX5_setUp_X5_reword : GoodIn wsX5_setUp wsX5_reword := goodIn_r _ [23, 24, 25, 26, 27, 28, 29, 10, 30, 31, 32, 33, 34, 35, 36, 37, 38, 39, 40, 41, 42, 43, 44, 45, 46, 47, 48, 49, 50, 51, 52, 53, 54, 55, 56, 57, 58, 59, 60, 61, 62, 63, 64, 65, 66, 67, 68, 69, 70, 71, 72, 73, 74, 75, 76, 77, 78, 79, 80, 81, 82, 83, 84, 85, 86, 87, 88, 89, 90, 91, 92, 93, 94, 95, 96, 97, 98, 99, 100, 101] (by decide +kernel) (by decide +kernel)
set_option maxRecDepth 20000 in
theorem gX5_setUp_X5_reword : GoodIn wsX5_setUp (wsV RX5 176 RX5 yX5_reword wsX5_reword) := goodIn_app (goodIn_of _ (by decide +kernel)) ggX5_setUp_X5_reword
theorem dX5_setUp_0 : decode cX5_setUp 0 = .ok (.aload_n 1, 1) := by decide +kernel
theorem dX5_setUp_1 : decode cX5_setUp 1 = .ok (.getfield 164, 3) := by decide +kernel
theorem dX5_setUp_4 : decode cX5_setUp 4 = .ok (.istore_n 2, 1) := by decide +kernel
theorem dX5_setUp_5 : decode cX5_setUp 5 = .ok (.iload_n 2, 1) := by decide +kernel
theorem dX5_setUp_6 : decode cX5_setUp 6 = .ok (.ifCond .lt 25, 3) := by decide +kernel
theorem dX5_setUp_9 : decode cX5_setUp 9 = .ok (.iload_n 2, 1) := by decide +kernel
theorem dX5_setUp_10 : decode cX5_setUp 10 = .ok (.bipush 20, 2) := by decide +kernel
theorem dX5_setUp_12 : decode cX5_setUp 12 = .ok (.if_icmp .ge 19, 3) := by decide +kernel
theorem dX5_setUp_15 : decode cX5_setUp 15 = .ok (.aload_n 0, 1) := by decide +kernel
theorem dX5_setUp_16 : decode cX5_setUp 16 = .ok (.aload_n 1, 1) := by decide +kernel
theorem dX5_setUp_17 : decode cX5_setUp 17 = .ok (.getfield 180, 3) := by decide +kernel
theorem dX5_setUp_20 : decode cX5_setUp 20 = .ok (.aload_n 1, 1) := by decide +kernel
theorem dX5_setUp_21 : decode cX5_setUp 21 = .ok (.getfield 183, 3) := by decide +kernel
theorem dX5_setUp_24 : decode cX5_setUp 24 = .ok (.iload_n 2, 1) := by decide +kernel
theorem dX5_setUp_25 : decode cX5_setUp 25 = .ok (.invokevirtual 186, 3) := by decide +kernel
theorem dX5_setUp_28 : decode cX5_setUp 28 = .ok (.ifCond .ne 5, 3) := by decide +kernel
theorem dX5_setUp_31 : decode cX5_setUp 31 = .ok (.iconst 0, 1) := by decide +kernel
theorem dX5_setUp_32 : decode cX5_setUp 32 = .ok (.ireturn, 1) := by decide +kernel
theorem dX5_setUp_33 : decode cX5_setUp 33 = .ok (.aload_n 0, 1) := by decide +kernel
theorem dX5_setUp_34 : decode cX5_setUp 34 = .ok (.getfield 31, 3) := by decide +kernel
theorem dX5_setUp_37 : decode cX5_setUp 37 = .ok (.iload_n 2, 1) := by decide +kernel
theorem dX5_setUp_38 : decode cX5_setUp 38 = .ok (.aload_n 1, 1) := by decide +kernel
theorem dX5_setUp_39 : decode cX5_setUp 39 = .ok (.getfield 183, 3) := by decide +kernel
theorem dX5_setUp_42 : decode cX5_setUp 42 = .ok (.iastore, 1) := by decide +kernel
theorem dX5_setUp_43 : decode cX5_setUp 43 = .ok (.aload_n 0, 1) := by decide +kernel
theorem dX5_setUp_44 : decode cX5_setUp 44 = .ok (.getfield 34, 3) := by decide +kernel
theorem dX5_setUp_47 : decode cX5_setUp 47 = .ok (.iload_n 2, 1) := by decide +kernel
theorem dX5_setUp_48 : decode cX5_setUp 48 = .ok (.aload_n 1, 1) := by decide +kernel
theorem dX5_setUp_49 : decode cX5_setUp 49 = .ok (.getfield 180, 3) := by decide +kernel
theorem dX5_setUp_52 : decode cX5_setUp 52 = .ok (.iastore, 1) := by decide +kernel
theorem dX5_setUp_53 : decode cX5_setUp 53 = .ok (.aload_n 0, 1) := by decide +kernel
theorem dX5_setUp_54 : decode cX5_setUp 54 = .ok (.aload_n 1, 1) := by decide +kernel
theorem dX5_setUp_55 : decode cX5_setUp 55 = .ok (.aload_n 0, 1) := by decide +kernel
theorem dX5_setUp_56 : decode cX5_setUp 56 = .ok (.getfield 39, 3) := by decide +kernel
theorem dX5_setUp_59 : decode cX5_setUp 59 = .ok (.iload_n 2, 1) := by decide +kernel
theorem dX5_setUp_60 : decode cX5_setUp 60 = .ok (.aaload, 1) := by decide +kernel
theorem dX5_setUp_61 : decode cX5_setUp 61 = .ok (.invokevirtual 176, 3) := by decide +kernel
theorem dX5_setUp_64 : decode cX5_setUp 64 = .ok (.ireturn, 1) := by decide +kernel
set_option maxRecDepth 20000 in
theorem ggX5_renumber_X5_isThere : GoodIn wsX5_renumber wsX5_isThere := goodIn_r _ [8, 9, 10, 11, 7, 12, 3, 35, 36, 37, 38, 39, 40, 41, 42, 43, 44, 45, 46, 47] (by decide +kernel) (by decide +kernel)
set_option maxRecDepth 20000 in
theorem gX5_renumber_X5_isThere : GoodIn wsX5_renumber (wsV RX5 173 RX5 yX5_isThere wsX5_isThere) := goodIn_app (goodIn_of _ (by decide +kernel)) ggX5_renumber_X5_isThere
set_option maxRecDepth 20000 in
theorem ggX5_renumber_X5_outerOf : GoodIn wsX5_renumber wsX5_outerOf := goodIn_r _ [16, 17, 35, 36, 37, 38, 39, 40, 41, 42, 43, 44, 45, 46, 47] (by decide +kernel) (by decide +kernel)
set_option maxRecDepth 20000 in
theorem gX5_renumber_X5_outerOf : GoodIn wsX5_renumber (wsV RX5 190 RX5 yX5_outerOf wsX5_outerOf) := goodIn_app (goodIn_of _ (by decide +kernel)) ggX5_renumber_X5_outerOf
set_option maxRecDepth 20000 in
theorem ggX5_renumber_X5_mayHold : GoodIn wsX5_renumber wsX5_mayHold := goodIn_r _ [21, 3, 17, 4, 5, 6, 7, 8, 9, 10, 11, 12, 35, 36, 37, 38, 39, 40, 41, 42, 43, 44, 45, 46, 47] (by decide +kernel) (by decide +kernel)
set_option maxRecDepth 20000 in
theorem gX5_renumber_X5_mayHold : GoodIn wsX5_renumber (wsV RX5 186 RX5 yX5_mayHold wsX5_mayHold) := goodIn_app (goodIn_of _ (by decide +kernel)) ggX5_renumber_X5_mayHold
theorem dX5_renumber_0 : decode cX5_renumber 0 = .ok (.aload_n 1, 1) := by decide +kernel
theorem dX5_renumber_1 : decode cX5_renumber 1 = .ok (.getfield 164, 3) := by decide +kernel
theorem dX5_renumber_4 : decode cX5_renumber 4 = .ok (.istore_n 2, 1) := by decide +kernel
theorem dX5_renumber_5 : decode cX5_renumber 5 = .ok (.aload_n 0, 1) := by decide +kernel
theorem dX5_renumber_6 : decode cX5_renumber 6 = .ok (.iload_n 2, 1) := by decide +kernel
theorem dX5_renumber_7 : decode cX5_renumber 7 = .ok (.invokevirtual 173, 3) := by decide +kernel
theorem dX5_renumber_10 : decode cX5_renumber 10 = .ok (.ifCond .eq 20, 3) := by decide +kernel
theorem dX5_renumber_13 : decode cX5_renumber 13 = .ok (.aload_n 0, 1) := by decide +kernel
theorem dX5_renumber_14 : decode cX5_renumber 14 = .ok (.aload_n 0, 1) := by decide +kernel
theorem dX5_renumber_15 : decode cX5_renumber 15 = .ok (.iload_n 2, 1) := by decide +kernel
theorem dX5_renumber_16 : decode cX5_renumber 16 = .ok (.invokevirtual 190, 3) := by decide +kernel
theorem dX5_renumber_19 : decode cX5_renumber 19 = .ok (.aload_n 1, 1) := by decide +kernel
theorem dX5_renumber_20 : decode cX5_renumber 20 = .ok (.getfield 183, 3) := by decide +kernel
theorem dX5_renumber_23 : decode cX5_renumber 23 = .ok (.iload_n 2, 1) := by decide +kernel
theorem dX5_renumber_24 : decode cX5_renumber 24 = .ok (.invokevirtual 186, 3) := by decide +kernel
theorem dX5_renumber_27 : decode cX5_renumber 27 = .ok (.ifCond .ne 5, 3) := by decide +kernel
theorem dX5_renumber_30 : decode cX5_renumber 30 = .ok (.iconst 0, 1) := by decide +kernel
theorem dX5_renumber_31 : decode cX5_renumber 31 = .ok (.ireturn, 1) := by decide +kernel
theorem dX5_renumber_32 : decode cX5_renumber 32 = .ok (.aload_n 0, 1) := by decide +kernel
theorem dX5_renumber_33 : decode cX5_renumber 33 = .ok (.getfield 31, 3) := by decide +kernel
theorem dX5_renumber_36 : decode cX5_renumber 36 = .ok (.iload_n 2, 1) := by decide +kernel
theorem dX5_renumber_37 : decode cX5_renumber 37 = .ok (.aload_n 1, 1) := by decide +kernel
theorem dX5_renumber_38 : decode cX5_renumber 38 = .ok (.getfield 183, 3) := by decide +kernel
theorem dX5_renumber_41 : decode cX5_renumber 41 = .ok (.iastore, 1) := by decide +kernel
theorem dX5_renumber_42 : decode cX5_renumber 42 = .ok (.iconst 1, 1) := by decide +kernel
theorem dX5_renumber_43 : decode cX5_renumber 43 = .ok (.ireturn, 1) := by decide +kernel
set_option maxRecDepth 20000 in
theorem ggX5_shift_X5_isThere : GoodIn wsX5_shift wsX5_isThere := goodIn_r _ [8, 9, 10, 11, 7, 12, 13, 39, 40, 41, 42, 43, 44, 45, 46, 47, 48, 49, 50, 51] (by decide +kernel) (by decide +kernel)
set_option maxRecDepth 20000 in
theorem gX5_shift_X5_isThere : GoodIn wsX5_shift (wsV RX5 173 RX5 yX5_isThere wsX5_isThere) := goodIn_app (goodIn_of _ (by decide +kernel)) ggX5_shift_X5_isThere
set_option maxRecDepth 20000 in
theorem ggX5_shift_X5_isWithin : GoodIn wsX5_shift wsX5_isWithin := goodIn_r _ [17, 18, 19, 20, 7, 21, 3, 39, 40, 41, 42, 43, 44, 45, 46, 47, 48, 49, 50, 51] (by decide +kernel) (by decide +kernel)
set_option maxRecDepth 20000 in
theorem gX5_shift_X5_isWithin : GoodIn wsX5_shift (wsV RX5 193 RX5 yX5_isWithin wsX5_isWithin) := goodIn_app (goodIn_of _ (by decide +kernel)) ggX5_shift_X5_isWithin
set_option maxRecDepth 20000 in
theorem ggX5_shift_X5_labelOf : GoodIn wsX5_shift wsX5_labelOf := goodIn_r _ [12, 13, 39, 40, 41, 42, 43, 44, 45, 46, 47, 48, 49, 50, 51] (by decide +kernel) (by decide +kernel)
set_option maxRecDepth 20000 in
theorem gX5_shift_X5_labelOf : GoodIn wsX5_shift (wsV RX5 196 RX5 yX5_labelOf wsX5_labelOf) := goodIn_app (goodIn_of _ (by decide +kernel)) ggX5_shift_X5_labelOf
set_option maxRecDepth 20000 in
theorem ggX5_shift_X5_mayHold : GoodIn wsX5_shift wsX5_mayHold := goodIn_r _ [25, 13, 3, 4, 5, 6, 7, 8, 9, 10, 11, 12, 39, 40, 41, 42, 43, 44, 45, 46, 47, 48, 49, 50, 51] (by decide +kernel) (by decide +kernel)
set_option maxRecDepth 20000 in
theorem gX5_shift_X5_mayHold : GoodIn wsX5_shift (wsV RX5 186 RX5 yX5_mayHold wsX5_mayHold) := goodIn_app (goodIn_of _ (by decide +kernel)) ggX5_shift_X5_mayHold
theorem dX5_shift_0 : decode cX5_shift 0 = .ok (.aload_n 1, 1) := by decide +kernel
theorem dX5_shift_1 : decode cX5_shift 1 = .ok (.getfield 164, 3) := by decide +kernel
theorem dX5_shift_4 : decode cX5_shift 4 = .ok (.istore_n 2, 1) := by decide +kernel
theorem dX5_shift_5 : decode cX5_shift 5 = .ok (.aload_n 0, 1) := by decide +kernel
theorem dX5_shift_6 : decode cX5_shift 6 = .ok (.iload_n 2, 1) := by decide +kernel
theorem dX5_shift_7 : decode cX5_shift 7 = .ok (.invokevirtual 173, 3) := by decide +kernel
theorem dX5_shift_10 : decode cX5_shift 10 = .ok (.ifCond .eq 32, 3) := by decide +kernel
theorem dX5_shift_13 : decode cX5_shift 13 = .ok (.aload_n 0, 1) := by decide +kernel
theorem dX5_shift_14 : decode cX5_shift 14 = .ok (.aload_n 1, 1) := by decide +kernel
theorem dX5_shift_15 : decode cX5_shift 15 = .ok (.getfield 180, 3) := by decide +kernel
theorem dX5_shift_18 : decode cX5_shift 18 = .ok (.iload_n 2, 1) := by decide +kernel
theorem dX5_shift_19 : decode cX5_shift 19 = .ok (.invokevirtual 193, 3) := by decide +kernel
theorem dX5_shift_22 : decode cX5_shift 22 = .ok (.ifCond .ne 20, 3) := by decide +kernel
theorem dX5_shift_25 : decode cX5_shift 25 = .ok (.aload_n 0, 1) := by decide +kernel
theorem dX5_shift_26 : decode cX5_shift 26 = .ok (.aload_n 1, 1) := by decide +kernel
theorem dX5_shift_27 : decode cX5_shift 27 = .ok (.getfield 180, 3) := by decide +kernel
theorem dX5_shift_30 : decode cX5_shift 30 = .ok (.aload_n 0, 1) := by decide +kernel
theorem dX5_shift_31 : decode cX5_shift 31 = .ok (.iload_n 2, 1) := by decide +kernel
theorem dX5_shift_32 : decode cX5_shift 32 = .ok (.invokevirtual 196, 3) := by decide +kernel
theorem dX5_shift_35 : decode cX5_shift 35 = .ok (.iload_n 2, 1) := by decide +kernel
theorem dX5_shift_36 : decode cX5_shift 36 = .ok (.invokevirtual 186, 3) := by decide +kernel
theorem dX5_shift_39 : decode cX5_shift 39 = .ok (.ifCond .ne 5, 3) := by decide +kernel
theorem dX5_shift_42 : decode cX5_shift 42 = .ok (.iconst 0, 1) := by decide +kernel
theorem dX5_shift_43 : decode cX5_shift 43 = .ok (.ireturn, 1) := by decide +kernel
theorem dX5_shift_44 : decode cX5_shift 44 = .ok (.aload_n 0, 1) := by decide +kernel
theorem dX5_shift_45 : decode cX5_shift 45 = .ok (.getfield 34, 3) := by decide +kernel
theorem dX5_shift_48 : decode cX5_shift 48 = .ok (.iload_n 2, 1) := by decide +kernel
theorem dX5_shift_49 : decode cX5_shift 49 = .ok (.aload_n 1, 1) := by decide +kernel
theorem dX5_shift_50 : decode cX5_shift 50 = .ok (.getfield 180, 3) := by decide +kernel
theorem dX5_shift_53 : decode cX5_shift 53 = .ok (.iastore, 1) := by decide +kernel
theorem dX5_shift_54 : decode cX5_shift 54 = .ok (.iconst 1, 1) := by decide +kernel
theorem dX5_shift_55 : decode cX5_shift 55 = .ok (.ireturn, 1) := by decide +kernel
set_option maxRecDepth 20000 in
theorem ggX5_remove_X5_isThere : GoodIn wsX5_remove wsX5_isThere := goodIn_r _ [6, 7, 8, 9, 5, 10, 1, 20, 21, 22, 23, 24, 25, 26, 27, 28, 29, 30, 31, 32] (by decide +kernel) (by decide +kernel)
set_option maxRecDepth 20000 in
theorem gX5_remove_X5_isThere : GoodIn wsX5_remove (wsV RX5 173 RX5 yX5_isThere wsX5_isThere) := goodIn_app (goodIn_of _ (by decide +kernel)) ggX5_remove_X5_isThere
set_option maxRecDepth 20000 in
theorem ggX5_remove_X5_isWithin : GoodIn wsX5_remove wsX5_isWithin := goodIn_r _ [14, 15, 16, 17, 5, 18, 19, 20, 21, 22, 23, 24, 25, 26, 27, 28, 29, 30, 31, 32] (by decide +kernel) (by decide +kernel)
set_option maxRecDepth 20000 in
theorem gX5_remove_X5_isWithin : GoodIn wsX5_remove (wsV RX5 193 RX5 yX5_isWithin wsX5_isWithin) := goodIn_app (goodIn_of _ (by decide +kernel)) ggX5_remove_X5_isWithin
theorem dX5_remove_0 : decode cX5_remove 0 = .ok (.aload_n 0, 1) := by decide +kernel
theorem dX5_remove_1 : decode cX5_remove 1 = .ok (.iload_n 1, 1) := by decide +kernel
theorem dX5_remove_2 : decode cX5_remove 2 = .ok (.invokevirtual 173, 3) := by decide +kernel
theorem dX5_remove_5 : decode cX5_remove 5 = .ok (.ifCond .ne 5, 3) := by decide +kernel
theorem dX5_remove_8 : decode cX5_remove 8 = .ok (.iconst 0, 1) := by decide +kernel
theorem dX5_remove_9 : decode cX5_remove 9 = .ok (.ireturn, 1) := by decide +kernel
theorem dX5_remove_10 : decode cX5_remove 10 = .ok (.iconst 0, 1) := by decide +kernel
theorem dX5_remove_11 : decode cX5_remove 11 = .ok (.istore_n 2, 1) := by decide +kernel
theorem dX5_remove_12 : decode cX5_remove 12 = .ok (.iload_n 2, 1) := by decide +kernel
theorem dX5_remove_13 : decode cX5_remove 13 = .ok (.bipush 20, 2) := by decide +kernel
theorem dX5_remove_15 : decode cX5_remove 15 = .ok (.if_icmp .ge 25, 3) := by decide +kernel
theorem dX5_remove_18 : decode cX5_remove 18 = .ok (.aload_n 0, 1) := by decide +kernel
theorem dX5_remove_19 : decode cX5_remove 19 = .ok (.iload_n 2, 1) := by decide +kernel
theorem dX5_remove_20 : decode cX5_remove 20 = .ok (.iload_n 1, 1) := by decide +kernel
theorem dX5_remove_21 : decode cX5_remove 21 = .ok (.invokevirtual 193, 3) := by decide +kernel
theorem dX5_remove_24 : decode cX5_remove 24 = .ok (.ifCond .eq 10, 3) := by decide +kernel
theorem dX5_remove_27 : decode cX5_remove 27 = .ok (.aload_n 0, 1) := by decide +kernel
theorem dX5_remove_28 : decode cX5_remove 28 = .ok (.getfield 31, 3) := by decide +kernel
theorem dX5_remove_31 : decode cX5_remove 31 = .ok (.iload_n 2, 1) := by decide +kernel
theorem dX5_remove_32 : decode cX5_remove 32 = .ok (.iconst (-1), 1) := by decide +kernel
theorem dX5_remove_33 : decode cX5_remove 33 = .ok (.iastore, 1) := by decide +kernel
theorem dX5_remove_34 : decode cX5_remove 34 = .ok (.iinc 2 1, 3) := by decide +kernel
theorem dX5_remove_37 : decode cX5_remove 37 = .ok (.goto (-25), 3) := by decide +kernel
theorem dX5_remove_40 : decode cX5_remove 40 = .ok (.iconst 1, 1) := by decide +kernel
theorem dX5_remove_41 : decode cX5_remove 41 = .ok (.ireturn, 1) := by decide +kernel
theorem dX5_retell_0 : decode cX5_retell 0 = .ok (.aload_n 1, 1) := by decide +kernel
theorem dX5_retell_1 : decode cX5_retell 1 = .ok (.getfield 164, 3) := by decide +kernel
theorem dX5_retell_4 : decode cX5_retell 4 = .ok (.istore_n 2, 1) := by decide +kernel
theorem dX5_retell_5 : decode cX5_retell 5 = .ok (.iload_n 2, 1) := by decide +kernel
theorem dX5_retell_6 : decode cX5_retell 6 = .ok (.ifCond .lt 18, 3) := by decide +kernel
theorem dX5_retell_9 : decode cX5_retell 9 = .ok (.iload_n 2, 1) := by decide +kernel
theorem dX5_retell_10 : decode cX5_retell 10 = .ok (.bipush 40, 2) := by decide +kernel
theorem dX5_retell_12 : decode cX5_retell 12 = .ok (.if_icmp .ge 12, 3) := by decide +kernel
theorem dX5_retell_15 : decode cX5_retell 15 = .ok (.aload_n 0, 1) := by decide +kernel
theorem dX5_retell_16 : decode cX5_retell 16 = .ok (.getfield 22, 3) := by decide +kernel
theorem dX5_retell_19 : decode cX5_retell 19 = .ok (.iload_n 2, 1) := by decide +kernel
theorem dX5_retell_20 : decode cX5_retell 20 = .ok (.iaload, 1) := by decide +kernel
theorem dX5_retell_21 : decode cX5_retell 21 = .ok (.ifCond .eq 5, 3) := by decide +kernel
theorem dX5_retell_24 : decode cX5_retell 24 = .ok (.iconst 0, 1) := by decide +kernel
theorem dX5_retell_25 : decode cX5_retell 25 = .ok (.ireturn, 1) := by decide +kernel
theorem dX5_retell_26 : decode cX5_retell 26 = .ok (.aload_n 0, 1) := by decide +kernel
theorem dX5_retell_27 : decode cX5_retell 27 = .ok (.getfield 27, 3) := by decide +kernel
theorem dX5_retell_30 : decode cX5_retell 30 = .ok (.iload_n 2, 1) := by decide +kernel
theorem dX5_retell_31 : decode cX5_retell 31 = .ok (.aload_n 1, 1) := by decide +kernel
theorem dX5_retell_32 : decode cX5_retell 32 = .ok (.getfield 199, 3) := by decide +kernel
theorem dX5_retell_35 : decode cX5_retell 35 = .ok (.aastore, 1) := by decide +kernel
theorem dX5_retell_36 : decode cX5_retell 36 = .ok (.iconst 1, 1) := by decide +kernel
theorem dX5_retell_37 : decode cX5_retell 37 = .ok (.ireturn, 1) := by decide +kernel
set_option maxRecDepth 20000 in
theorem ggX5_reword_X5_freshOf : GoodIn wsX5_reword wsX5_freshOf := goodIn_r _ [8, 2, 9, 10, 49, 50, 51, 52, 53, 54, 55, 56, 57, 58, 59, 60, 61, 62, 63, 64, 65, 66, 67, 68, 69, 70, 71, 72, 73, 74] (by decide +kernel) (by decide +kernel)
set_option maxRecDepth 20000 in
theorem gX5_reword_X5_freshOf : GoodIn wsX5_reword (wsV RX5 203 RX5 yX5_freshOf wsX5_freshOf) := goodIn_app (goodIn_of _ (by decide +kernel)) ggX5_reword_X5_freshOf
set_option maxRecDepth 20000 in
theorem ggX5_reword_X4_begin : GoodIn wsX5_reword wsX4_begin := goodIn_r _ [15, 16, 17, 18, 19, 14, 20, 21, 22, 23, 24, 25, 26, 27, 28, 75, 76, 77, 78, 79] (by decide +kernel) (by decide +kernel)
set_option maxRecDepth 20000 in
theorem gX5_reword_X4_begin : GoodIn wsX5_reword (wsV RX5 207 RX4 yX4_begin wsX4_begin) := goodIn_app (goodIn_of _ (by decide +kernel)) ggX5_reword_X4_begin
set_option maxRecDepth 20000 in
theorem ggX5_reword_X4_insert : GoodIn wsX5_reword wsX4_insert := goodIn_r _ [32, 21, 16, 17, 18, 19, 14, 20, 22, 23, 24, 25, 26, 27, 28, 33, 34, 35, 36, 37, 38, 39, 40, 78, 79, 75, 76, 77] (by decide +kernel) (by decide +kernel)
set_option maxRecDepth 20000 in
theorem gX5_reword_X4_insert : GoodIn wsX5_reword (wsV RX5 214 RX4 yX4_insert wsX4_insert) := goodIn_app (goodIn_of _ (by decide +kernel)) ggX5_reword_X4_insert
set_option maxRecDepth 20000 in
theorem ggX5_reword_X4_substitute : GoodIn wsX5_reword wsX4_substitute := goodIn_r _ [44, 21, 16, 33, 34, 35, 14, 36, 37, 38, 39, 40, 22, 28, 17, 18, 19, 20, 23, 24, 25, 26, 27, 78, 79, 75, 76, 77] (by decide +kernel) (by decide +kernel)
set_option maxRecDepth 20000 in
theorem gX5_reword_X4_substitute : GoodIn wsX5_reword (wsV RX5 218 RX4 yX4_substitute wsX4_substitute) := goodIn_app (goodIn_of _ (by decide +kernel)) ggX5_reword_X4_substitute
set_option maxRecDepth 20000 in
theorem ggX5_reword_X4_omit : GoodIn wsX5_reword wsX4_omit := goodIn_r _ [48, 16, 33, 34, 35, 14, 36, 21, 37, 38, 39, 40, 22, 28, 75, 76, 77, 78, 79] (by decide +kernel) (by decide +kernel)
set_option maxRecDepth 20000 in
theorem gX5_reword_X4_omit : GoodIn wsX5_reword (wsV RX5 221 RX4 yX4_omit wsX4_omit) := goodIn_app (goodIn_of _ (by decide +kernel)) ggX5_reword_X4_omit
theorem dX5_reword_0 : decode cX5_reword 0 = .ok (.aload_n 0, 1) := by decide +kernel
theorem dX5_reword_1 : decode cX5_reword 1 = .ok (.aload_n 1, 1) := by decide +kernel
theorem dX5_reword_2 : decode cX5_reword 2 = .ok (.invokevirtual 203, 3) := by decide +kernel
theorem dX5_reword_5 : decode cX5_reword 5 = .ok (.astore_n 3, 1) := by decide +kernel
theorem dX5_reword_6 : decode cX5_reword 6 = .ok (.aload_n 1, 1) := by decide +kernel
theorem dX5_reword_7 : decode cX5_reword 7 = .ok (.getfield 152, 3) := by decide +kernel
theorem dX5_reword_10 : decode cX5_reword 10 = .ok (.tableswitch 77 0 3 #[30, 40, 54, 68], 30) := by decide +kernel
theorem dX5_reword_40 : decode cX5_reword 40 = .ok (.aload_n 2, 1) := by decide +kernel
theorem dX5_reword_41 : decode cX5_reword 41 = .ok (.aload_n 3, 1) := by decide +kernel
theorem dX5_reword_42 : decode cX5_reword 42 = .ok (.aload_n 1, 1) := by decide +kernel
theorem dX5_reword_43 : decode cX5_reword 43 = .ok (.getfield 93, 3) := by decide +kernel
theorem dX5_reword_46 : decode cX5_reword 46 = .ok (.invokevirtual 207, 3) := by decide +kernel
theorem dX5_reword_49 : decode cX5_reword 49 = .ok (.ireturn, 1) := by decide +kernel
theorem dX5_reword_50 : decode cX5_reword 50 = .ok (.aload_n 2, 1) := by decide +kernel
theorem dX5_reword_51 : decode cX5_reword 51 = .ok (.aload_n 1, 1) := by decide +kernel
theorem dX5_reword_52 : decode cX5_reword 52 = .ok (.getfield 211, 3) := by decide +kernel
theorem dX5_reword_55 : decode cX5_reword 55 = .ok (.aload_n 3, 1) := by decide +kernel
theorem dX5_reword_56 : decode cX5_reword 56 = .ok (.aload_n 1, 1) := by decide +kernel
theorem dX5_reword_57 : decode cX5_reword 57 = .ok (.getfield 93, 3) := by decide +kernel
theorem dX5_reword_60 : decode cX5_reword 60 = .ok (.invokevirtual 214, 3) := by decide +kernel
theorem dX5_reword_63 : decode cX5_reword 63 = .ok (.ireturn, 1) := by decide +kernel
theorem dX5_reword_64 : decode cX5_reword 64 = .ok (.aload_n 2, 1) := by decide +kernel
theorem dX5_reword_65 : decode cX5_reword 65 = .ok (.aload_n 1, 1) := by decide +kernel
theorem dX5_reword_66 : decode cX5_reword 66 = .ok (.getfield 211, 3) := by decide +kernel
theorem dX5_reword_69 : decode cX5_reword 69 = .ok (.aload_n 3, 1) := by decide +kernel
theorem dX5_reword_70 : decode cX5_reword 70 = .ok (.aload_n 1, 1) := by decide +kernel
theorem dX5_reword_71 : decode cX5_reword 71 = .ok (.getfield 93, 3) := by decide +kernel
theorem dX5_reword_74 : decode cX5_reword 74 = .ok (.invokevirtual 218, 3) := by decide +kernel
theorem dX5_reword_77 : decode cX5_reword 77 = .ok (.ireturn, 1) := by decide +kernel
theorem dX5_reword_78 : decode cX5_reword 78 = .ok (.aload_n 2, 1) := by decide +kernel
theorem dX5_reword_79 : decode cX5_reword 79 = .ok (.aload_n 1, 1) := by decide +kernel
theorem dX5_reword_80 : decode cX5_reword 80 = .ok (.getfield 211, 3) := by decide +kernel
theorem dX5_reword_83 : decode cX5_reword 83 = .ok (.invokevirtual 221, 3) := by decide +kernel
theorem dX5_reword_86 : decode cX5_reword 86 = .ok (.ireturn, 1) := by decide +kernel
theorem dX5_reword_87 : decode cX5_reword 87 = .ok (.iconst 1, 1) := by decide +kernel
theorem dX5_reword_88 : decode cX5_reword 88 = .ok (.ireturn, 1) := by decide +kernel
theorem dX5_freshOf_0 : decode cX5_freshOf 0 = .ok (.aload_n 1, 1) := by decide +kernel
theorem dX5_freshOf_1 : decode cX5_freshOf 1 = .ok (.getfield 93, 3) := by decide +kernel
theorem dX5_freshOf_4 : decode cX5_freshOf 4 = .ok (.istore_n 2, 1) := by decide +kernel
theorem dX5_freshOf_5 : decode cX5_freshOf 5 = .ok (.iload_n 2, 1) := by decide +kernel
theorem dX5_freshOf_6 : decode cX5_freshOf 6 = .ok (.ifCond .lt 21, 3) := by decide +kernel
theorem dX5_freshOf_9 : decode cX5_freshOf 9 = .ok (.iload_n 2, 1) := by decide +kernel
theorem dX5_freshOf_10 : decode cX5_freshOf 10 = .ok (.aload_n 0, 1) := by decide +kernel
theorem dX5_freshOf_11 : decode cX5_freshOf 11 = .ok (.getfield 27, 3) := by decide +kernel
theorem dX5_freshOf_14 : decode cX5_freshOf 14 = .ok (.arraylength, 1) := by decide +kernel
theorem dX5_freshOf_15 : decode cX5_freshOf 15 = .ok (.if_icmp .ge 12, 3) := by decide +kernel
theorem dX5_freshOf_18 : decode cX5_freshOf 18 = .ok (.aload_n 0, 1) := by decide +kernel
theorem dX5_freshOf_19 : decode cX5_freshOf 19 = .ok (.getfield 27, 3) := by decide +kernel
theorem dX5_freshOf_22 : decode cX5_freshOf 22 = .ok (.iload_n 2, 1) := by decide +kernel
theorem dX5_freshOf_23 : decode cX5_freshOf 23 = .ok (.aaload, 1) := by decide +kernel
theorem dX5_freshOf_24 : decode cX5_freshOf 24 = .ok (.goto 4, 3) := by decide +kernel
theorem dX5_freshOf_27 : decode cX5_freshOf 27 = .ok (.aconst_null, 1) := by decide +kernel
theorem dX5_freshOf_28 : decode cX5_freshOf 28 = .ok (.astore_n 3, 1) := by decide +kernel
theorem dX5_freshOf_29 : decode cX5_freshOf 29 = .ok (.aload_n 3, 1) := by decide +kernel
theorem dX5_freshOf_30 : decode cX5_freshOf 30 = .ok (.ifnull 7, 3) := by decide +kernel
theorem dX5_freshOf_33 : decode cX5_freshOf 33 = .ok (.aload_n 3, 1) := by decide +kernel
theorem dX5_freshOf_34 : decode cX5_freshOf 34 = .ok (.goto 7, 3) := by decide +kernel
theorem dX5_freshOf_37 : decode cX5_freshOf 37 = .ok (.aload_n 1, 1) := by decide +kernel
theorem dX5_freshOf_38 : decode cX5_freshOf 38 = .ok (.getfield 199, 3) := by decide +kernel
theorem dX5_freshOf_41 : decode cX5_freshOf 41 = .ok (.areturn, 1) := by decide +kernel
set_option maxRecDepth 20000 in
theorem ggX5_mayHold_X5_isThere : GoodIn wsX5_mayHold wsX5_isThere := goodIn_r _ [7, 8, 9, 10, 6, 11, 1, 12, 13, 14, 15, 16, 17, 18, 19, 20, 21, 22, 23, 24] (by decide +kernel) (by decide +kernel)
set_option maxRecDepth 20000 in
theorem gX5_mayHold_X5_isThere : GoodIn wsX5_mayHold (wsV RX5 173 RX5 yX5_isThere wsX5_isThere) := goodIn_app (goodIn_of _ (by decide +kernel)) ggX5_mayHold_X5_isThere
theorem dX5_mayHold_0 : decode cX5_mayHold 0 = .ok (.iload_n 1, 1) := by decide +kernel
theorem dX5_mayHold_1 : decode cX5_mayHold 1 = .ok (.iconst (-1), 1) := by decide +kernel
theorem dX5_mayHold_2 : decode cX5_mayHold 2 = .ok (.if_icmp .eq 13, 3) := by decide +kernel
theorem dX5_mayHold_5 : decode cX5_mayHold 5 = .ok (.aload_n 0, 1) := by decide +kernel
theorem dX5_mayHold_6 : decode cX5_mayHold 6 = .ok (.iload_n 1, 1) := by decide +kernel
theorem dX5_mayHold_7 : decode cX5_mayHold 7 = .ok (.invokevirtual 173, 3) := by decide +kernel
theorem dX5_mayHold_10 : decode cX5_mayHold 10 = .ok (.ifCond .ne 5, 3) := by decide +kernel
theorem dX5_mayHold_13 : decode cX5_mayHold 13 = .ok (.iconst 0, 1) := by decide +kernel
theorem dX5_mayHold_14 : decode cX5_mayHold 14 = .ok (.ireturn, 1) := by decide +kernel
theorem dX5_mayHold_15 : decode cX5_mayHold 15 = .ok (.iconst 0, 1) := by decide +kernel
theorem dX5_mayHold_16 : decode cX5_mayHold 16 = .ok (.istore 4, 2) := by decide +kernel
theorem dX5_mayHold_18 : decode cX5_mayHold 18 = .ok (.iload 4, 2) := by decide +kernel
theorem dX5_mayHold_20 : decode cX5_mayHold 20 = .ok (.bipush 20, 2) := by decide +kernel
theorem dX5_mayHold_22 : decode cX5_mayHold 22 = .ok (.if_icmp .ge 39, 3) := by decide +kernel
theorem dX5_mayHold_25 : decode cX5_mayHold 25 = .ok (.iload 4, 2) := by decide +kernel
theorem dX5_mayHold_27 : decode cX5_mayHold 27 = .ok (.iload_n 3, 1) := by decide +kernel
theorem dX5_mayHold_28 : decode cX5_mayHold 28 = .ok (.if_icmp .eq 27, 3) := by decide +kernel
theorem dX5_mayHold_31 : decode cX5_mayHold 31 = .ok (.aload_n 0, 1) := by decide +kernel
theorem dX5_mayHold_32 : decode cX5_mayHold 32 = .ok (.getfield 31, 3) := by decide +kernel
theorem dX5_mayHold_35 : decode cX5_mayHold 35 = .ok (.iload 4, 2) := by decide +kernel
theorem dX5_mayHold_37 : decode cX5_mayHold 37 = .ok (.iaload, 1) := by decide +kernel
theorem dX5_mayHold_38 : decode cX5_mayHold 38 = .ok (.iload_n 2, 1) := by decide +kernel
theorem dX5_mayHold_39 : decode cX5_mayHold 39 = .ok (.if_icmp .ne 16, 3) := by decide +kernel
theorem dX5_mayHold_42 : decode cX5_mayHold 42 = .ok (.aload_n 0, 1) := by decide +kernel
theorem dX5_mayHold_43 : decode cX5_mayHold 43 = .ok (.getfield 34, 3) := by decide +kernel
theorem dX5_mayHold_46 : decode cX5_mayHold 46 = .ok (.iload 4, 2) := by decide +kernel
theorem dX5_mayHold_48 : decode cX5_mayHold 48 = .ok (.iaload, 1) := by decide +kernel
theorem dX5_mayHold_49 : decode cX5_mayHold 49 = .ok (.iload_n 1, 1) := by decide +kernel
theorem dX5_mayHold_50 : decode cX5_mayHold 50 = .ok (.if_icmp .ne 5, 3) := by decide +kernel
theorem dX5_mayHold_53 : decode cX5_mayHold 53 = .ok (.iconst 0, 1) := by decide +kernel
theorem dX5_mayHold_54 : decode cX5_mayHold 54 = .ok (.ireturn, 1) := by decide +kernel
theorem dX5_mayHold_55 : decode cX5_mayHold 55 = .ok (.iinc 4 1, 3) := by decide +kernel
theorem dX5_mayHold_58 : decode cX5_mayHold 58 = .ok (.goto (-40), 3) := by decide +kernel
theorem dX5_mayHold_61 : decode cX5_mayHold 61 = .ok (.iconst 1, 1) := by decide +kernel
theorem dX5_mayHold_62 : decode cX5_mayHold 62 = .ok (.ireturn, 1) := by decide +kernel
set_option maxRecDepth 20000 in
theorem ggX5_isWithin_X5_outerOf : GoodIn wsX5_isWithin wsX5_outerOf := goodIn_r _ [5, 6, 7, 8, 9, 10, 11, 12, 13, 14, 15, 16, 17, 18, 19] (by decide +kernel) (by decide +kernel)
set_option maxRecDepth 20000 in
theorem gX5_isWithin_X5_outerOf : GoodIn wsX5_isWithin (wsV RX5 190 RX5 yX5_outerOf wsX5_outerOf) := goodIn_app (goodIn_of _ (by decide +kernel)) ggX5_isWithin_X5_outerOf
theorem dX5_isWithin_0 : decode cX5_isWithin 0 = .ok (.iload_n 1, 1) := by decide +kernel
theorem dX5_isWithin_1 : decode cX5_isWithin 1 = .ok (.istore_n 3, 1) := by decide +kernel
theorem dX5_isWithin_2 : decode cX5_isWithin 2 = .ok (.iconst 0, 1) := by decide +kernel
theorem dX5_isWithin_3 : decode cX5_isWithin 3 = .ok (.istore 4, 2) := by decide +kernel
theorem dX5_isWithin_5 : decode cX5_isWithin 5 = .ok (.iload 4, 2) := by decide +kernel
theorem dX5_isWithin_7 : decode cX5_isWithin 7 = .ok (.bipush 20, 2) := by decide +kernel
theorem dX5_isWithin_9 : decode cX5_isWithin 9 = .ok (.if_icmp .ge 27, 3) := by decide +kernel
theorem dX5_isWithin_12 : decode cX5_isWithin 12 = .ok (.iload_n 3, 1) := by decide +kernel
theorem dX5_isWithin_13 : decode cX5_isWithin 13 = .ok (.iconst (-1), 1) := by decide +kernel
theorem dX5_isWithin_14 : decode cX5_isWithin 14 = .ok (.if_icmp .eq 22, 3) := by decide +kernel
theorem dX5_isWithin_17 : decode cX5_isWithin 17 = .ok (.iload_n 3, 1) := by decide +kernel
theorem dX5_isWithin_18 : decode cX5_isWithin 18 = .ok (.iload_n 2, 1) := by decide +kernel
theorem dX5_isWithin_19 : decode cX5_isWithin 19 = .ok (.if_icmp .ne 5, 3) := by decide +kernel
theorem dX5_isWithin_22 : decode cX5_isWithin 22 = .ok (.iconst 1, 1) := by decide +kernel
theorem dX5_isWithin_23 : decode cX5_isWithin 23 = .ok (.ireturn, 1) := by decide +kernel
theorem dX5_isWithin_24 : decode cX5_isWithin 24 = .ok (.aload_n 0, 1) := by decide +kernel
theorem dX5_isWithin_25 : decode cX5_isWithin 25 = .ok (.iload_n 3, 1) := by decide +kernel
theorem dX5_isWithin_26 : decode cX5_isWithin 26 = .ok (.invokevirtual 190, 3) := by decide +kernel
theorem dX5_isWithin_29 : decode cX5_isWithin 29 = .ok (.istore_n 3, 1) := by decide +kernel
theorem dX5_isWithin_30 : decode cX5_isWithin 30 = .ok (.iinc 4 1, 3) := by decide +kernel
theorem dX5_isWithin_33 : decode cX5_isWithin 33 = .ok (.goto (-28), 3) := by decide +kernel
theorem dX5_isWithin_36 : decode cX5_isWithin 36 = .ok (.iconst 0, 1) := by decide +kernel
theorem dX5_isWithin_37 : decode cX5_isWithin 37 = .ok (.ireturn, 1) := by decide +kernel
set_option maxRecDepth 20000 in
theorem ggX5_listInOrder_X5_innerBehind : GoodIn wsX5_listInOrder wsX5_innerBehind := goodIn_r _ [7, 8, 9, 10, 11, 6, 12, 21, 22, 23, 24, 25, 26, 27, 28, 29, 30, 31, 32, 33] (by decide +kernel) (by decide +kernel)
set_option maxRecDepth 20000 in
theorem gX5_listInOrder_X5_innerBehind : GoodIn wsX5_listInOrder (wsV RX5 225 RX5 yX5_innerBehind wsX5_innerBehind) := goodIn_app (goodIn_of _ (by decide +kernel)) ggX5_listInOrder_X5_innerBehind
set_option maxRecDepth 20000 in
theorem ggX5_listInOrder_X5_labelOf : GoodIn wsX5_listInOrder wsX5_labelOf := goodIn_r _ [16, 8, 21, 22, 23, 24, 25, 26, 27, 28, 29, 30, 31, 32, 33] (by decide +kernel) (by decide +kernel)
set_option maxRecDepth 20000 in
theorem gX5_listInOrder_X5_labelOf : GoodIn wsX5_listInOrder (wsV RX5 196 RX5 yX5_labelOf wsX5_labelOf) := goodIn_app (goodIn_of _ (by decide +kernel)) ggX5_listInOrder_X5_labelOf
set_option maxRecDepth 20000 in
theorem ggX5_listInOrder_X5_rank : GoodIn wsX5_listInOrder wsX5_rank := goodIn_r _ [12] (by decide +kernel) (by decide +kernel)
set_option maxRecDepth 20000 in
theorem gX5_listInOrder_X5_rank : GoodIn wsX5_listInOrder (va_wsS RX5 229 yX5_rank wsX5_rank) := goodIn_app (goodIn_of _ (by decide +kernel)) ggX5_listInOrder_X5_rank
set_option maxRecDepth 20000 in
theorem ggX5_listInOrder_X5_outerOf : GoodIn wsX5_listInOrder wsX5_outerOf := goodIn_r _ [20, 9, 21, 22, 23, 24, 25, 26, 27, 28, 29, 30, 31, 32, 33] (by decide +kernel) (by decide +kernel)
set_option maxRecDepth 20000 in
theorem gX5_listInOrder_X5_outerOf : GoodIn wsX5_listInOrder (wsV RX5 190 RX5 yX5_outerOf wsX5_outerOf) := goodIn_app (goodIn_of _ (by decide +kernel)) ggX5_listInOrder_X5_outerOf
theorem dX5_listInOrder_0 : decode cX5_listInOrder 0 = .ok (.iconst (-1), 1) := by decide +kernel
theorem dX5_listInOrder_1 : decode cX5_listInOrder 1 = .ok (.istore_n 1, 1) := by decide +kernel
theorem dX5_listInOrder_2 : decode cX5_listInOrder 2 = .ok (.iconst (-1), 1) := by decide +kernel
theorem dX5_listInOrder_3 : decode cX5_listInOrder 3 = .ok (.istore_n 2, 1) := by decide +kernel
theorem dX5_listInOrder_4 : decode cX5_listInOrder 4 = .ok (.iconst 0, 1) := by decide +kernel
theorem dX5_listInOrder_5 : decode cX5_listInOrder 5 = .ok (.istore_n 3, 1) := by decide +kernel
theorem dX5_listInOrder_6 : decode cX5_listInOrder 6 = .ok (.iload_n 3, 1) := by decide +kernel
theorem dX5_listInOrder_7 : decode cX5_listInOrder 7 = .ok (.bipush 40, 2) := by decide +kernel
theorem dX5_listInOrder_9 : decode cX5_listInOrder 9 = .ok (.if_icmp .gt 88, 3) := by decide +kernel
theorem dX5_listInOrder_12 : decode cX5_listInOrder 12 = .ok (.aload_n 0, 1) := by decide +kernel
theorem dX5_listInOrder_13 : decode cX5_listInOrder 13 = .ok (.iload_n 1, 1) := by decide +kernel
theorem dX5_listInOrder_14 : decode cX5_listInOrder 14 = .ok (.iload_n 2, 1) := by decide +kernel
theorem dX5_listInOrder_15 : decode cX5_listInOrder 15 = .ok (.invokevirtual 225, 3) := by decide +kernel
theorem dX5_listInOrder_18 : decode cX5_listInOrder 18 = .ok (.istore 4, 2) := by decide +kernel
theorem dX5_listInOrder_20 : decode cX5_listInOrder 20 = .ok (.iload 4, 2) := by decide +kernel
theorem dX5_listInOrder_22 : decode cX5_listInOrder 22 = .ok (.iconst (-1), 1) := by decide +kernel
theorem dX5_listInOrder_23 : decode cX5_listInOrder 23 = .ok (.if_icmp .eq 44, 3) := by decide +kernel
theorem dX5_listInOrder_26 : decode cX5_listInOrder 26 = .ok (.aload_n 0, 1) := by decide +kernel
theorem dX5_listInOrder_27 : decode cX5_listInOrder 27 = .ok (.getfield 51, 3) := by decide +kernel
theorem dX5_listInOrder_30 : decode cX5_listInOrder 30 = .ok (.aload_n 0, 1) := by decide +kernel
theorem dX5_listInOrder_31 : decode cX5_listInOrder 31 = .ok (.getfield 48, 3) := by decide +kernel
theorem dX5_listInOrder_34 : decode cX5_listInOrder 34 = .ok (.arraylength, 1) := by decide +kernel
theorem dX5_listInOrder_35 : decode cX5_listInOrder 35 = .ok (.if_icmp .ge 32, 3) := by decide +kernel
theorem dX5_listInOrder_38 : decode cX5_listInOrder 38 = .ok (.aload_n 0, 1) := by decide +kernel
theorem dX5_listInOrder_39 : decode cX5_listInOrder 39 = .ok (.getfield 48, 3) := by decide +kernel
theorem dX5_listInOrder_42 : decode cX5_listInOrder 42 = .ok (.aload_n 0, 1) := by decide +kernel
theorem dX5_listInOrder_43 : decode cX5_listInOrder 43 = .ok (.getfield 51, 3) := by decide +kernel
theorem dX5_listInOrder_46 : decode cX5_listInOrder 46 = .ok (.iload 4, 2) := by decide +kernel
theorem dX5_listInOrder_48 : decode cX5_listInOrder 48 = .ok (.iastore, 1) := by decide +kernel
theorem dX5_listInOrder_49 : decode cX5_listInOrder 49 = .ok (.aload_n 0, 1) := by decide +kernel
theorem dX5_listInOrder_50 : decode cX5_listInOrder 50 = .ok (.dup, 1) := by decide +kernel
theorem dX5_listInOrder_51 : decode cX5_listInOrder 51 = .ok (.getfield 51, 3) := by decide +kernel
theorem dX5_listInOrder_54 : decode cX5_listInOrder 54 = .ok (.iconst 1, 1) := by decide +kernel
theorem dX5_listInOrder_55 : decode cX5_listInOrder 55 = .ok (.iadd, 1) := by decide +kernel
theorem dX5_listInOrder_56 : decode cX5_listInOrder 56 = .ok (.putfield 51, 3) := by decide +kernel
theorem dX5_listInOrder_59 : decode cX5_listInOrder 59 = .ok (.iload 4, 2) := by decide +kernel
theorem dX5_listInOrder_61 : decode cX5_listInOrder 61 = .ok (.istore_n 1, 1) := by decide +kernel
theorem dX5_listInOrder_62 : decode cX5_listInOrder 62 = .ok (.iconst (-1), 1) := by decide +kernel
theorem dX5_listInOrder_63 : decode cX5_listInOrder 63 = .ok (.istore_n 2, 1) := by decide +kernel
theorem dX5_listInOrder_64 : decode cX5_listInOrder 64 = .ok (.goto 27, 3) := by decide +kernel
theorem dX5_listInOrder_67 : decode cX5_listInOrder 67 = .ok (.iload_n 1, 1) := by decide +kernel
theorem dX5_listInOrder_68 : decode cX5_listInOrder 68 = .ok (.iconst (-1), 1) := by decide +kernel
theorem dX5_listInOrder_69 : decode cX5_listInOrder 69 = .ok (.if_icmp .eq 21, 3) := by decide +kernel
theorem dX5_listInOrder_72 : decode cX5_listInOrder 72 = .ok (.aload_n 0, 1) := by decide +kernel
theorem dX5_listInOrder_73 : decode cX5_listInOrder 73 = .ok (.iload_n 1, 1) := by decide +kernel
theorem dX5_listInOrder_74 : decode cX5_listInOrder 74 = .ok (.invokevirtual 196, 3) := by decide +kernel
theorem dX5_listInOrder_77 : decode cX5_listInOrder 77 = .ok (.invokestatic 229, 3) := by decide +kernel
theorem dX5_listInOrder_80 : decode cX5_listInOrder 80 = .ok (.istore_n 2, 1) := by decide +kernel
theorem dX5_listInOrder_81 : decode cX5_listInOrder 81 = .ok (.aload_n 0, 1) := by decide +kernel
theorem dX5_listInOrder_82 : decode cX5_listInOrder 82 = .ok (.iload_n 1, 1) := by decide +kernel
theorem dX5_listInOrder_83 : decode cX5_listInOrder 83 = .ok (.invokevirtual 190, 3) := by decide +kernel
theorem dX5_listInOrder_86 : decode cX5_listInOrder 86 = .ok (.istore_n 1, 1) := by decide +kernel
theorem dX5_listInOrder_87 : decode cX5_listInOrder 87 = .ok (.goto 4, 3) := by decide +kernel
theorem dX5_listInOrder_90 : decode cX5_listInOrder 90 = .ok (.return_, 1) := by decide +kernel
theorem dX5_listInOrder_91 : decode cX5_listInOrder 91 = .ok (.iinc 3 1, 3) := by decide +kernel
theorem dX5_listInOrder_94 : decode cX5_listInOrder 94 = .ok (.goto (-88), 3) := by decide +kernel
theorem dX5_listInOrder_97 : decode cX5_listInOrder 97 = .ok (.return_, 1) := by decide +kernel
set_option maxRecDepth 20000 in
theorem ggX5_innerBehind_X5_rank : GoodIn wsX5_innerBehind wsX5_rank := goodIn_r _ [6] (by decide +kernel) (by decide +kernel)
set_option maxRecDepth 20000 in
theorem gX5_innerBehind_X5_rank : GoodIn wsX5_innerBehind (va_wsS RX5 229 yX5_rank wsX5_rank) := goodIn_app (goodIn_of _ (by decide +kernel)) ggX5_innerBehind_X5_rank
theorem dX5_innerBehind_0 : decode cX5_innerBehind 0 = .ok (.iconst (-1), 1) := by decide +kernel
theorem dX5_innerBehind_1 : decode cX5_innerBehind 1 = .ok (.istore_n 3, 1) := by decide +kernel
theorem dX5_innerBehind_2 : decode cX5_innerBehind 2 = .ok (.iconst (-1), 1) := by decide +kernel
theorem dX5_innerBehind_3 : decode cX5_innerBehind 3 = .ok (.istore 4, 2) := by decide +kernel
theorem dX5_innerBehind_5 : decode cX5_innerBehind 5 = .ok (.iconst 0, 1) := by decide +kernel
theorem dX5_innerBehind_6 : decode cX5_innerBehind 6 = .ok (.istore 5, 2) := by decide +kernel
theorem dX5_innerBehind_8 : decode cX5_innerBehind 8 = .ok (.iload 5, 2) := by decide +kernel
theorem dX5_innerBehind_10 : decode cX5_innerBehind 10 = .ok (.bipush 20, 2) := by decide +kernel
theorem dX5_innerBehind_12 : decode cX5_innerBehind 12 = .ok (.if_icmp .ge 68, 3) := by decide +kernel
theorem dX5_innerBehind_15 : decode cX5_innerBehind 15 = .ok (.aload_n 0, 1) := by decide +kernel
theorem dX5_innerBehind_16 : decode cX5_innerBehind 16 = .ok (.getfield 31, 3) := by decide +kernel
theorem dX5_innerBehind_19 : decode cX5_innerBehind 19 = .ok (.iload 5, 2) := by decide +kernel
theorem dX5_innerBehind_21 : decode cX5_innerBehind 21 = .ok (.iaload, 1) := by decide +kernel
theorem dX5_innerBehind_22 : decode cX5_innerBehind 22 = .ok (.invokestatic 229, 3) := by decide +kernel
theorem dX5_innerBehind_25 : decode cX5_innerBehind 25 = .ok (.istore 6, 2) := by decide +kernel
theorem dX5_innerBehind_27 : decode cX5_innerBehind 27 = .ok (.aload_n 0, 1) := by decide +kernel
theorem dX5_innerBehind_28 : decode cX5_innerBehind 28 = .ok (.getfield 31, 3) := by decide +kernel
theorem dX5_innerBehind_31 : decode cX5_innerBehind 31 = .ok (.iload 5, 2) := by decide +kernel
theorem dX5_innerBehind_33 : decode cX5_innerBehind 33 = .ok (.iaload, 1) := by decide +kernel
theorem dX5_innerBehind_34 : decode cX5_innerBehind 34 = .ok (.iconst (-1), 1) := by decide +kernel
theorem dX5_innerBehind_35 : decode cX5_innerBehind 35 = .ok (.if_icmp .eq 39, 3) := by decide +kernel
theorem dX5_innerBehind_38 : decode cX5_innerBehind 38 = .ok (.aload_n 0, 1) := by decide +kernel
theorem dX5_innerBehind_39 : decode cX5_innerBehind 39 = .ok (.getfield 34, 3) := by decide +kernel
theorem dX5_innerBehind_42 : decode cX5_innerBehind 42 = .ok (.iload 5, 2) := by decide +kernel
theorem dX5_innerBehind_44 : decode cX5_innerBehind 44 = .ok (.iaload, 1) := by decide +kernel
theorem dX5_innerBehind_45 : decode cX5_innerBehind 45 = .ok (.iload_n 1, 1) := by decide +kernel
theorem dX5_innerBehind_46 : decode cX5_innerBehind 46 = .ok (.if_icmp .ne 28, 3) := by decide +kernel
theorem dX5_innerBehind_49 : decode cX5_innerBehind 49 = .ok (.iload 6, 2) := by decide +kernel
theorem dX5_innerBehind_51 : decode cX5_innerBehind 51 = .ok (.iload_n 2, 1) := by decide +kernel
theorem dX5_innerBehind_52 : decode cX5_innerBehind 52 = .ok (.if_icmp .le 22, 3) := by decide +kernel
theorem dX5_innerBehind_55 : decode cX5_innerBehind 55 = .ok (.iload_n 3, 1) := by decide +kernel
theorem dX5_innerBehind_56 : decode cX5_innerBehind 56 = .ok (.iconst (-1), 1) := by decide +kernel
theorem dX5_innerBehind_57 : decode cX5_innerBehind 57 = .ok (.if_icmp .eq 10, 3) := by decide +kernel
theorem dX5_innerBehind_60 : decode cX5_innerBehind 60 = .ok (.iload 6, 2) := by decide +kernel
theorem dX5_innerBehind_62 : decode cX5_innerBehind 62 = .ok (.iload 4, 2) := by decide +kernel
theorem dX5_innerBehind_64 : decode cX5_innerBehind 64 = .ok (.if_icmp .ge 10, 3) := by decide +kernel
theorem dX5_innerBehind_67 : decode cX5_innerBehind 67 = .ok (.iload 5, 2) := by decide +kernel
theorem dX5_innerBehind_69 : decode cX5_innerBehind 69 = .ok (.istore_n 3, 1) := by decide +kernel
theorem dX5_innerBehind_70 : decode cX5_innerBehind 70 = .ok (.iload 6, 2) := by decide +kernel
theorem dX5_innerBehind_72 : decode cX5_innerBehind 72 = .ok (.istore 4, 2) := by decide +kernel
theorem dX5_innerBehind_74 : decode cX5_innerBehind 74 = .ok (.iinc 5 1, 3) := by decide +kernel
theorem dX5_innerBehind_77 : decode cX5_innerBehind 77 = .ok (.goto (-69), 3) := by decide +kernel
theorem dX5_innerBehind_80 : decode cX5_innerBehind 80 = .ok (.iload_n 3, 1) := by decide +kernel
theorem dX5_innerBehind_81 : decode cX5_innerBehind 81 = .ok (.ireturn, 1) := by decide +kernel
theorem dX5_rank_0 : decode cX5_rank 0 = .ok (.iload_n 0, 1) := by decide +kernel
theorem dX5_rank_1 : decode cX5_rank 1 = .ok (.sipush 1000, 3) := by decide +kernel
theorem dX5_rank_4 : decode cX5_rank 4 = .ok (.irem, 1) := by decide +kernel
theorem dX5_rank_5 : decode cX5_rank 5 = .ok (.istore_n 1, 1) := by decide +kernel
theorem dX5_rank_6 : decode cX5_rank 6 = .ok (.iload_n 0, 1) := by decide +kernel
theorem dX5_rank_7 : decode cX5_rank 7 = .ok (.iload_n 1, 1) := by decide +kernel
theorem dX5_rank_8 : decode cX5_rank 8 = .ok (.isub, 1) := by decide +kernel
theorem dX5_rank_9 : decode cX5_rank 9 = .ok (.iload_n 1, 1) := by decide +kernel
theorem dX5_rank_10 : decode cX5_rank 10 = .ok (.bipush 27, 2) := by decide +kernel
theorem dX5_rank_12 : decode cX5_rank 12 = .ok (.if_icmp .ge 10, 3) := by decide +kernel
theorem dX5_rank_15 : decode cX5_rank 15 = .ok (.iload_n 1, 1) := by decide +kernel
theorem dX5_rank_16 : decode cX5_rank 16 = .ok (.bipush 27, 2) := by decide +kernel
theorem dX5_rank_18 : decode cX5_rank 18 = .ok (.imul, 1) := by decide +kernel
theorem dX5_rank_19 : decode cX5_rank 19 = .ok (.goto 4, 3) := by decide +kernel
theorem dX5_rank_22 : decode cX5_rank 22 = .ok (.iload_n 1, 1) := by decide +kernel
theorem dX5_rank_23 : decode cX5_rank 23 = .ok (.iadd, 1) := by decide +kernel
theorem dX5_rank_24 : decode cX5_rank 24 = .ok (.ireturn, 1) := by decide +kernel
set_option maxRecDepth 20000 in
theorem ggX5_isThere_X5_labelOf : GoodIn wsX5_isThere wsX5_labelOf := goodIn_r _ [5, 6, 7, 8, 9, 10, 11, 12, 13, 14, 15, 16, 17, 18, 19] (by decide +kernel) (by decide +kernel)
set_option maxRecDepth 20000 in
theorem gX5_isThere_X5_labelOf : GoodIn wsX5_isThere (wsV RX5 196 RX5 yX5_labelOf wsX5_labelOf) := goodIn_app (goodIn_of _ (by decide +kernel)) ggX5_isThere_X5_labelOf
theorem dX5_isThere_0 : decode cX5_isThere 0 = .ok (.aload_n 0, 1) := by decide +kernel
theorem dX5_isThere_1 : decode cX5_isThere 1 = .ok (.iload_n 1, 1) := by decide +kernel
theorem dX5_isThere_2 : decode cX5_isThere 2 = .ok (.invokevirtual 196, 3) := by decide +kernel
theorem dX5_isThere_5 : decode cX5_isThere 5 = .ok (.iconst (-1), 1) := by decide +kernel
theorem dX5_isThere_6 : decode cX5_isThere 6 = .ok (.if_icmp .eq 7, 3) := by decide +kernel
theorem dX5_isThere_9 : decode cX5_isThere 9 = .ok (.iconst 1, 1) := by decide +kernel
theorem dX5_isThere_10 : decode cX5_isThere 10 = .ok (.goto 4, 3) := by decide +kernel
theorem dX5_isThere_13 : decode cX5_isThere 13 = .ok (.iconst 0, 1) := by decide +kernel
theorem dX5_isThere_14 : decode cX5_isThere 14 = .ok (.ireturn, 1) := by decide +kernel
theorem dX5_labelOf_0 : decode cX5_labelOf 0 = .ok (.iload_n 1, 1) := by decide +kernel
theorem dX5_labelOf_1 : decode cX5_labelOf 1 = .ok (.ifCond .lt 21, 3) := by decide +kernel
theorem dX5_labelOf_4 : decode cX5_labelOf 4 = .ok (.iload_n 1, 1) := by decide +kernel
theorem dX5_labelOf_5 : decode cX5_labelOf 5 = .ok (.aload_n 0, 1) := by decide +kernel
theorem dX5_labelOf_6 : decode cX5_labelOf 6 = .ok (.getfield 31, 3) := by decide +kernel
theorem dX5_labelOf_9 : decode cX5_labelOf 9 = .ok (.arraylength, 1) := by decide +kernel
theorem dX5_labelOf_10 : decode cX5_labelOf 10 = .ok (.if_icmp .ge 12, 3) := by decide +kernel
theorem dX5_labelOf_13 : decode cX5_labelOf 13 = .ok (.aload_n 0, 1) := by decide +kernel
theorem dX5_labelOf_14 : decode cX5_labelOf 14 = .ok (.getfield 31, 3) := by decide +kernel
theorem dX5_labelOf_17 : decode cX5_labelOf 17 = .ok (.iload_n 1, 1) := by decide +kernel
theorem dX5_labelOf_18 : decode cX5_labelOf 18 = .ok (.iaload, 1) := by decide +kernel
theorem dX5_labelOf_19 : decode cX5_labelOf 19 = .ok (.goto 4, 3) := by decide +kernel
theorem dX5_labelOf_22 : decode cX5_labelOf 22 = .ok (.iconst (-1), 1) := by decide +kernel
theorem dX5_labelOf_23 : decode cX5_labelOf 23 = .ok (.ireturn, 1) := by decide +kernel
theorem dX5_outerOf_0 : decode cX5_outerOf 0 = .ok (.iload_n 1, 1) := by decide +kernel
theorem dX5_outerOf_1 : decode cX5_outerOf 1 = .ok (.ifCond .lt 21, 3) := by decide +kernel
theorem dX5_outerOf_4 : decode cX5_outerOf 4 = .ok (.iload_n 1, 1) := by decide +kernel
theorem dX5_outerOf_5 : decode cX5_outerOf 5 = .ok (.aload_n 0, 1) := by decide +kernel
theorem dX5_outerOf_6 : decode cX5_outerOf 6 = .ok (.getfield 34, 3) := by decide +kernel
theorem dX5_outerOf_9 : decode cX5_outerOf 9 = .ok (.arraylength, 1) := by decide +kernel
theorem dX5_outerOf_10 : decode cX5_outerOf 10 = .ok (.if_icmp .ge 12, 3) := by decide +kernel
theorem dX5_outerOf_13 : decode cX5_outerOf 13 = .ok (.aload_n 0, 1) := by decide +kernel
theorem dX5_outerOf_14 : decode cX5_outerOf 14 = .ok (.getfield 34, 3) := by decide +kernel
theorem dX5_outerOf_17 : decode cX5_outerOf 17 = .ok (.iload_n 1, 1) := by decide +kernel
theorem dX5_outerOf_18 : decode cX5_outerOf 18 = .ok (.iaload, 1) := by decide +kernel
theorem dX5_outerOf_19 : decode cX5_outerOf 19 = .ok (.goto 4, 3) := by decide +kernel
theorem dX5_outerOf_22 : decode cX5_outerOf 22 = .ok (.iconst (-1), 1) := by decide +kernel
theorem dX5_outerOf_23 : decode cX5_outerOf 23 = .ok (.ireturn, 1) := by decide +kernel
set_option maxRecDepth 20000 in
theorem ggX5_countOf_X5_isThere : GoodIn wsX5_countOf wsX5_isThere := goodIn_r _ [6, 7, 8, 9, 5, 10, 11, 12, 13, 14, 15, 16, 17, 18, 19, 20, 21, 22, 23, 24] (by decide +kernel) (by decide +kernel)
set_option maxRecDepth 20000 in
theorem gX5_countOf_X5_isThere : GoodIn wsX5_countOf (wsV RX5 173 RX5 yX5_isThere wsX5_isThere) := goodIn_app (goodIn_of _ (by decide +kernel)) ggX5_countOf_X5_isThere
theorem dX5_countOf_0 : decode cX5_countOf 0 = .ok (.aload_n 0, 1) := by decide +kernel
theorem dX5_countOf_1 : decode cX5_countOf 1 = .ok (.iload_n 1, 1) := by decide +kernel
theorem dX5_countOf_2 : decode cX5_countOf 2 = .ok (.invokevirtual 173, 3) := by decide +kernel
theorem dX5_countOf_5 : decode cX5_countOf 5 = .ok (.ifCond .eq 15, 3) := by decide +kernel
theorem dX5_countOf_8 : decode cX5_countOf 8 = .ok (.aload_n 0, 1) := by decide +kernel
theorem dX5_countOf_9 : decode cX5_countOf 9 = .ok (.getfield 39, 3) := by decide +kernel
theorem dX5_countOf_12 : decode cX5_countOf 12 = .ok (.iload_n 1, 1) := by decide +kernel
theorem dX5_countOf_13 : decode cX5_countOf 13 = .ok (.aaload, 1) := by decide +kernel
theorem dX5_countOf_14 : decode cX5_countOf 14 = .ok (.getfield 232, 3) := by decide +kernel
theorem dX5_countOf_17 : decode cX5_countOf 17 = .ok (.goto 4, 3) := by decide +kernel
theorem dX5_countOf_20 : decode cX5_countOf 20 = .ok (.iconst (-1), 1) := by decide +kernel
theorem dX5_countOf_21 : decode cX5_countOf 21 = .ok (.ireturn, 1) := by decide +kernel
set_option maxRecDepth 20000 in
theorem ggX5_readAt_X5_isThere : GoodIn wsX5_readAt wsX5_isThere := goodIn_r _ [6, 7, 8, 9, 5, 10, 11, 19, 20, 21, 22, 23, 24, 25, 26, 27, 28, 29, 30, 31] (by decide +kernel) (by decide +kernel)
set_option maxRecDepth 20000 in
theorem gX5_readAt_X5_isThere : GoodIn wsX5_readAt (wsV RX5 173 RX5 yX5_isThere wsX5_isThere) := goodIn_app (goodIn_of _ (by decide +kernel)) ggX5_readAt_X5_isThere
set_option maxRecDepth 20000 in
theorem ggX5_readAt_X4_readAt : GoodIn wsX5_readAt wsX4_readAt := goodIn_r _ [16, 17, 18, 32, 33, 34] (by decide +kernel) (by decide +kernel)
set_option maxRecDepth 20000 in
theorem gX5_readAt_X4_readAt : GoodIn wsX5_readAt (wsV RX5 235 RX4 yX4_readAt wsX4_readAt) := goodIn_app (goodIn_of _ (by decide +kernel)) ggX5_readAt_X4_readAt
theorem dX5_readAt_0 : decode cX5_readAt 0 = .ok (.aload_n 0, 1) := by decide +kernel
theorem dX5_readAt_1 : decode cX5_readAt 1 = .ok (.iload_n 1, 1) := by decide +kernel
theorem dX5_readAt_2 : decode cX5_readAt 2 = .ok (.invokevirtual 173, 3) := by decide +kernel
theorem dX5_readAt_5 : decode cX5_readAt 5 = .ok (.ifCond .eq 16, 3) := by decide +kernel
theorem dX5_readAt_8 : decode cX5_readAt 8 = .ok (.aload_n 0, 1) := by decide +kernel
theorem dX5_readAt_9 : decode cX5_readAt 9 = .ok (.getfield 39, 3) := by decide +kernel
theorem dX5_readAt_12 : decode cX5_readAt 12 = .ok (.iload_n 1, 1) := by decide +kernel
theorem dX5_readAt_13 : decode cX5_readAt 13 = .ok (.aaload, 1) := by decide +kernel
theorem dX5_readAt_14 : decode cX5_readAt 14 = .ok (.iload_n 2, 1) := by decide +kernel
theorem dX5_readAt_15 : decode cX5_readAt 15 = .ok (.invokevirtual 235, 3) := by decide +kernel
theorem dX5_readAt_18 : decode cX5_readAt 18 = .ok (.goto 4, 3) := by decide +kernel
theorem dX5_readAt_21 : decode cX5_readAt 21 = .ok (.iconst (-1), 1) := by decide +kernel
theorem dX5_readAt_22 : decode cX5_readAt 22 = .ok (.ireturn, 1) := by decide +kernel
set_option maxRecDepth 20000 in
theorem ggX5_sourceAt_X5_isThere : GoodIn wsX5_sourceAt wsX5_isThere := goodIn_r _ [6, 7, 8, 9, 5, 10, 11, 19, 20, 21, 22, 23, 24, 25, 26, 27, 28, 29, 30, 31] (by decide +kernel) (by decide +kernel)
set_option maxRecDepth 20000 in
theorem gX5_sourceAt_X5_isThere : GoodIn wsX5_sourceAt (wsV RX5 173 RX5 yX5_isThere wsX5_isThere) := goodIn_app (goodIn_of _ (by decide +kernel)) ggX5_sourceAt_X5_isThere
set_option maxRecDepth 20000 in
theorem ggX5_sourceAt_X4_sourceAt : GoodIn wsX5_sourceAt wsX4_sourceAt := goodIn_r _ [16, 17, 18, 32, 33, 34] (by decide +kernel) (by decide +kernel)
set_option maxRecDepth 20000 in
theorem gX5_sourceAt_X4_sourceAt : GoodIn wsX5_sourceAt (wsV RX5 238 RX4 yX4_sourceAt wsX4_sourceAt) := goodIn_app (goodIn_of _ (by decide +kernel)) ggX5_sourceAt_X4_sourceAt
theorem dX5_sourceAt_0 : decode cX5_sourceAt 0 = .ok (.aload_n 0, 1) := by decide +kernel
theorem dX5_sourceAt_1 : decode cX5_sourceAt 1 = .ok (.iload_n 1, 1) := by decide +kernel
theorem dX5_sourceAt_2 : decode cX5_sourceAt 2 = .ok (.invokevirtual 173, 3) := by decide +kernel
theorem dX5_sourceAt_5 : decode cX5_sourceAt 5 = .ok (.ifCond .eq 16, 3) := by decide +kernel
theorem dX5_sourceAt_8 : decode cX5_sourceAt 8 = .ok (.aload_n 0, 1) := by decide +kernel
theorem dX5_sourceAt_9 : decode cX5_sourceAt 9 = .ok (.getfield 39, 3) := by decide +kernel
theorem dX5_sourceAt_12 : decode cX5_sourceAt 12 = .ok (.iload_n 1, 1) := by decide +kernel
theorem dX5_sourceAt_13 : decode cX5_sourceAt 13 = .ok (.aaload, 1) := by decide +kernel
theorem dX5_sourceAt_14 : decode cX5_sourceAt 14 = .ok (.iload_n 2, 1) := by decide +kernel
theorem dX5_sourceAt_15 : decode cX5_sourceAt 15 = .ok (.invokevirtual 238, 3) := by decide +kernel
theorem dX5_sourceAt_18 : decode cX5_sourceAt 18 = .ok (.goto 4, 3) := by decide +kernel
theorem dX5_sourceAt_21 : decode cX5_sourceAt 21 = .ok (.iconst (-1), 1) := by decide +kernel
theorem dX5_sourceAt_22 : decode cX5_sourceAt 22 = .ok (.ireturn, 1) := by decide +kernel
theorem dX5_listedAt_0 : decode cX5_listedAt 0 = .ok (.iload_n 1, 1) := by decide +kernel
theorem dX5_listedAt_1 : decode cX5_listedAt 1 = .ok (.ifCond .lt 29, 3) := by decide +kernel
theorem dX5_listedAt_4 : decode cX5_listedAt 4 = .ok (.iload_n 1, 1) := by decide +kernel
theorem dX5_listedAt_5 : decode cX5_listedAt 5 = .ok (.aload_n 0, 1) := by decide +kernel
theorem dX5_listedAt_6 : decode cX5_listedAt 6 = .ok (.getfield 51, 3) := by decide +kernel
theorem dX5_listedAt_9 : decode cX5_listedAt 9 = .ok (.if_icmp .ge 21, 3) := by decide +kernel
theorem dX5_listedAt_12 : decode cX5_listedAt 12 = .ok (.iload_n 1, 1) := by decide +kernel
theorem dX5_listedAt_13 : decode cX5_listedAt 13 = .ok (.aload_n 0, 1) := by decide +kernel
theorem dX5_listedAt_14 : decode cX5_listedAt 14 = .ok (.getfield 48, 3) := by decide +kernel
theorem dX5_listedAt_17 : decode cX5_listedAt 17 = .ok (.arraylength, 1) := by decide +kernel
theorem dX5_listedAt_18 : decode cX5_listedAt 18 = .ok (.if_icmp .ge 12, 3) := by decide +kernel
theorem dX5_listedAt_21 : decode cX5_listedAt 21 = .ok (.aload_n 0, 1) := by decide +kernel
theorem dX5_listedAt_22 : decode cX5_listedAt 22 = .ok (.getfield 48, 3) := by decide +kernel
theorem dX5_listedAt_25 : decode cX5_listedAt 25 = .ok (.iload_n 1, 1) := by decide +kernel
theorem dX5_listedAt_26 : decode cX5_listedAt 26 = .ok (.iaload, 1) := by decide +kernel
theorem dX5_listedAt_27 : decode cX5_listedAt 27 = .ok (.goto 4, 3) := by decide +kernel
theorem dX5_listedAt_30 : decode cX5_listedAt 30 = .ok (.iconst (-1), 1) := by decide +kernel
theorem dX5_listedAt_31 : decode cX5_listedAt 31 = .ok (.ireturn, 1) := by decide +kernel
theorem dX5_stateOf_0 : decode cX5_stateOf 0 = .ok (.iload_n 1, 1) := by decide +kernel
theorem dX5_stateOf_1 : decode cX5_stateOf 1 = .ok (.ifCond .lt 21, 3) := by decide +kernel
theorem dX5_stateOf_4 : decode cX5_stateOf 4 = .ok (.iload_n 1, 1) := by decide +kernel
theorem dX5_stateOf_5 : decode cX5_stateOf 5 = .ok (.aload_n 0, 1) := by decide +kernel
theorem dX5_stateOf_6 : decode cX5_stateOf 6 = .ok (.getfield 22, 3) := by decide +kernel
theorem dX5_stateOf_9 : decode cX5_stateOf 9 = .ok (.arraylength, 1) := by decide +kernel
theorem dX5_stateOf_10 : decode cX5_stateOf 10 = .ok (.if_icmp .ge 12, 3) := by decide +kernel
theorem dX5_stateOf_13 : decode cX5_stateOf 13 = .ok (.aload_n 0, 1) := by decide +kernel
theorem dX5_stateOf_14 : decode cX5_stateOf 14 = .ok (.getfield 22, 3) := by decide +kernel
theorem dX5_stateOf_17 : decode cX5_stateOf 17 = .ok (.iload_n 1, 1) := by decide +kernel
theorem dX5_stateOf_18 : decode cX5_stateOf 18 = .ok (.iaload, 1) := by decide +kernel
theorem dX5_stateOf_19 : decode cX5_stateOf 19 = .ok (.goto 4, 3) := by decide +kernel
theorem dX5_stateOf_22 : decode cX5_stateOf 22 = .ok (.iconst 0, 1) := by decide +kernel
theorem dX5_stateOf_23 : decode cX5_stateOf 23 = .ok (.ireturn, 1) := by decide +kernel
theorem dX5_beginningOf_0 : decode cX5_beginningOf 0 = .ok (.iload_n 1, 1) := by decide +kernel
theorem dX5_beginningOf_1 : decode cX5_beginningOf 1 = .ok (.ifCond .lt 21, 3) := by decide +kernel
theorem dX5_beginningOf_4 : decode cX5_beginningOf 4 = .ok (.iload_n 1, 1) := by decide +kernel
theorem dX5_beginningOf_5 : decode cX5_beginningOf 5 = .ok (.aload_n 0, 1) := by decide +kernel
theorem dX5_beginningOf_6 : decode cX5_beginningOf 6 = .ok (.getfield 18, 3) := by decide +kernel
theorem dX5_beginningOf_9 : decode cX5_beginningOf 9 = .ok (.arraylength, 1) := by decide +kernel
theorem dX5_beginningOf_10 : decode cX5_beginningOf 10 = .ok (.if_icmp .ge 12, 3) := by decide +kernel
theorem dX5_beginningOf_13 : decode cX5_beginningOf 13 = .ok (.aload_n 0, 1) := by decide +kernel
theorem dX5_beginningOf_14 : decode cX5_beginningOf 14 = .ok (.getfield 18, 3) := by decide +kernel
theorem dX5_beginningOf_17 : decode cX5_beginningOf 17 = .ok (.iload_n 1, 1) := by decide +kernel
theorem dX5_beginningOf_18 : decode cX5_beginningOf 18 = .ok (.iaload, 1) := by decide +kernel
theorem dX5_beginningOf_19 : decode cX5_beginningOf 19 = .ok (.goto 4, 3) := by decide +kernel
theorem dX5_beginningOf_22 : decode cX5_beginningOf 22 = .ok (.iconst (-1), 1) := by decide +kernel
theorem dX5_beginningOf_23 : decode cX5_beginningOf 23 = .ok (.ireturn, 1) := by decide +kernel
set_option maxRecDepth 20000 in
theorem ggX5_findAnew_X5_isThere : GoodIn wsX5_findAnew wsX5_isThere := goodIn_r _ [9, 10, 11, 12, 8, 13, 14, 104, 105, 106, 107, 108, 109, 110, 111, 112, 113, 114, 115, 116] (by decide +kernel) (by decide +kernel)
set_option maxRecDepth 20000 in
theorem gX5_findAnew_X5_isThere : GoodIn wsX5_findAnew (wsV RX5 173 RX5 yX5_isThere wsX5_isThere) := goodIn_app (goodIn_of _ (by decide +kernel)) ggX5_findAnew_X5_isThere
set_option maxRecDepth 20000 in
theorem ggX5_findAnew_Jx4a65c_size_8abf5 : GoodIn wsX5_findAnew wsJx4a65c_size_8abf5 := goodIn_r _ [19, 20, 130, 131, 132] (by decide +kernel) (by decide +kernel)
set_option maxRecDepth 20000 in
theorem gX5_findAnew_Jx4a65c_size_8abf5 : GoodIn wsX5_findAnew (wsV RX5 67 RJx4a65c yJx4a65c_size_8abf5 wsJx4a65c_size_8abf5) := goodIn_app (goodIn_of _ (by decide +kernel)) ggX5_findAnew_Jx4a65c_size_8abf5
set_option maxRecDepth 20000 in
theorem ggX5_findAnew_Jx4a65c_get_915e3 : GoodIn wsX5_findAnew wsJx4a65c_get_915e3 := goodIn_r _ [24, 20, 25, 26, 27, 28, 29, 30, 31, 32, 33, 34, 35, 18, 36, 37, 130, 131, 132] (by decide +kernel) (by decide +kernel)
set_option maxRecDepth 20000 in
theorem gX5_findAnew_Jx4a65c_get_915e3 : GoodIn wsX5_findAnew (wsV RX5 71 RJx4a65c yJx4a65c_get_915e3 wsJx4a65c_get_915e3) := goodIn_app (goodIn_of _ (by decide +kernel)) ggX5_findAnew_Jx4a65c_get_915e3
set_option maxRecDepth 20000 in
theorem ggX5_findAnew_X0_isOf : GoodIn wsX5_findAnew wsX0_isOf := goodIn_r _ [42, 43, 44, 117, 118, 119, 120, 121, 122, 123, 124, 125, 126, 127, 128, 129] (by decide +kernel) (by decide +kernel)
set_option maxRecDepth 20000 in
theorem gX5_findAnew_X0_isOf : GoodIn wsX5_findAnew (wsV RX5 241 RX0 yX0_isOf wsX0_isOf) := goodIn_app (goodIn_of _ (by decide +kernel)) ggX5_findAnew_X0_isOf
set_option maxRecDepth 20000 in
theorem ggX5_findAnew_X5_stateOf : GoodIn wsX5_findAnew wsX5_stateOf := goodIn_r _ [48, 49, 104, 105, 106, 107, 108, 109, 110, 111, 112, 113, 114, 115, 116] (by decide +kernel) (by decide +kernel)
set_option maxRecDepth 20000 in
theorem gX5_findAnew_X5_stateOf : GoodIn wsX5_findAnew (wsV RX5 244 RX5 yX5_stateOf wsX5_stateOf) := goodIn_app (goodIn_of _ (by decide +kernel)) ggX5_findAnew_X5_stateOf
set_option maxRecDepth 20000 in
theorem ggX5_findAnew_X5_reword : GoodIn wsX5_findAnew wsX5_reword := goodIn_r _ [53, 54, 3, 55, 56, 57, 58, 8, 59, 60, 61, 62, 63, 64, 65, 66, 67, 68, 69, 70, 71, 72, 73, 74, 75, 76, 77, 78, 79, 80, 81, 82, 83, 84, 85, 86, 87, 88, 89, 90, 91, 92, 93, 94, 95, 96, 97, 98, 99, 117, 118, 119, 120, 121, 122, 123, 124, 125, 126, 127, 128, 129, 104, 105, 106, 107, 108, 109, 110, 111, 112, 113, 114, 115, 116, 133, 134, 135, 136, 137] (by decide +kernel) (by decide +kernel)
set_option maxRecDepth 20000 in
theorem gX5_findAnew_X5_reword : GoodIn wsX5_findAnew (wsV RX5 176 RX5 yX5_reword wsX5_reword) := goodIn_app (goodIn_of _ (by decide +kernel)) ggX5_findAnew_X5_reword
set_option maxRecDepth 20000 in
theorem ggX5_findAnew_X4_readAt : GoodIn wsX5_findAnew wsX4_readAt := goodIn_r _ [103, 67, 73, 133, 134, 135] (by decide +kernel) (by decide +kernel)
set_option maxRecDepth 20000 in
theorem gX5_findAnew_X4_readAt : GoodIn wsX5_findAnew (wsV RX5 235 RX4 yX4_readAt wsX4_readAt) := goodIn_app (goodIn_of _ (by decide +kernel)) ggX5_findAnew_X4_readAt
theorem dX5_findAnew_0 : decode cX5_findAnew 0 = .ok (.aload_n 0, 1) := by decide +kernel
theorem dX5_findAnew_1 : decode cX5_findAnew 1 = .ok (.iload_n 1, 1) := by decide +kernel
theorem dX5_findAnew_2 : decode cX5_findAnew 2 = .ok (.invokevirtual 173, 3) := by decide +kernel
theorem dX5_findAnew_5 : decode cX5_findAnew 5 = .ok (.ifCond .ne 5, 3) := by decide +kernel
theorem dX5_findAnew_8 : decode cX5_findAnew 8 = .ok (.iconst (-1), 1) := by decide +kernel
theorem dX5_findAnew_9 : decode cX5_findAnew 9 = .ok (.ireturn, 1) := by decide +kernel
theorem dX5_findAnew_10 : decode cX5_findAnew 10 = .ok (.iconst 0, 1) := by decide +kernel
theorem dX5_findAnew_11 : decode cX5_findAnew 11 = .ok (.istore_n 3, 1) := by decide +kernel
theorem dX5_findAnew_12 : decode cX5_findAnew 12 = .ok (.iload_n 3, 1) := by decide +kernel
theorem dX5_findAnew_13 : decode cX5_findAnew 13 = .ok (.aload_n 0, 1) := by decide +kernel
theorem dX5_findAnew_14 : decode cX5_findAnew 14 = .ok (.getfield 12, 3) := by decide +kernel
theorem dX5_findAnew_17 : decode cX5_findAnew 17 = .ok (.invokevirtual 67, 3) := by decide +kernel
theorem dX5_findAnew_20 : decode cX5_findAnew 20 = .ok (.if_icmp .ge 55, 3) := by decide +kernel
theorem dX5_findAnew_23 : decode cX5_findAnew 23 = .ok (.aload_n 0, 1) := by decide +kernel
theorem dX5_findAnew_24 : decode cX5_findAnew 24 = .ok (.getfield 12, 3) := by decide +kernel
theorem dX5_findAnew_27 : decode cX5_findAnew 27 = .ok (.iload_n 3, 1) := by decide +kernel
theorem dX5_findAnew_28 : decode cX5_findAnew 28 = .ok (.invokevirtual 71, 3) := by decide +kernel
theorem dX5_findAnew_31 : decode cX5_findAnew 31 = .ok (.checkcast 75, 3) := by decide +kernel
theorem dX5_findAnew_34 : decode cX5_findAnew 34 = .ok (.astore 4, 2) := by decide +kernel
theorem dX5_findAnew_36 : decode cX5_findAnew 36 = .ok (.aload 4, 2) := by decide +kernel
theorem dX5_findAnew_38 : decode cX5_findAnew 38 = .ok (.iload_n 1, 1) := by decide +kernel
theorem dX5_findAnew_39 : decode cX5_findAnew 39 = .ok (.invokevirtual 241, 3) := by decide +kernel
theorem dX5_findAnew_42 : decode cX5_findAnew 42 = .ok (.ifCond .eq 27, 3) := by decide +kernel
theorem dX5_findAnew_45 : decode cX5_findAnew 45 = .ok (.aload_n 0, 1) := by decide +kernel
theorem dX5_findAnew_46 : decode cX5_findAnew 46 = .ok (.aload 4, 2) := by decide +kernel
theorem dX5_findAnew_48 : decode cX5_findAnew 48 = .ok (.getfield 93, 3) := by decide +kernel
theorem dX5_findAnew_51 : decode cX5_findAnew 51 = .ok (.invokevirtual 244, 3) := by decide +kernel
theorem dX5_findAnew_54 : decode cX5_findAnew 54 = .ok (.iconst 1, 1) := by decide +kernel
theorem dX5_findAnew_55 : decode cX5_findAnew 55 = .ok (.if_icmp .ne 14, 3) := by decide +kernel
theorem dX5_findAnew_58 : decode cX5_findAnew 58 = .ok (.aload_n 0, 1) := by decide +kernel
theorem dX5_findAnew_59 : decode cX5_findAnew 59 = .ok (.aload 4, 2) := by decide +kernel
theorem dX5_findAnew_61 : decode cX5_findAnew 61 = .ok (.aload_n 0, 1) := by decide +kernel
theorem dX5_findAnew_62 : decode cX5_findAnew 62 = .ok (.getfield 44, 3) := by decide +kernel
theorem dX5_findAnew_65 : decode cX5_findAnew 65 = .ok (.invokevirtual 176, 3) := by decide +kernel
theorem dX5_findAnew_68 : decode cX5_findAnew 68 = .ok (.pop, 1) := by decide +kernel
theorem dX5_findAnew_69 : decode cX5_findAnew 69 = .ok (.iinc 3 1, 3) := by decide +kernel
theorem dX5_findAnew_72 : decode cX5_findAnew 72 = .ok (.goto (-60), 3) := by decide +kernel
theorem dX5_findAnew_75 : decode cX5_findAnew 75 = .ok (.aload_n 0, 1) := by decide +kernel
theorem dX5_findAnew_76 : decode cX5_findAnew 76 = .ok (.getfield 44, 3) := by decide +kernel
theorem dX5_findAnew_79 : decode cX5_findAnew 79 = .ok (.iload_n 2, 1) := by decide +kernel
theorem dX5_findAnew_80 : decode cX5_findAnew 80 = .ok (.invokevirtual 235, 3) := by decide +kernel
theorem dX5_findAnew_83 : decode cX5_findAnew 83 = .ok (.ireturn, 1) := by decide +kernel
set_option maxRecDepth 20000 in
theorem ggX5_countConflicts_Jx4a65c_size_8abf5 : GoodIn wsX5_countConflicts wsJx4a65c_size_8abf5 := goodIn_r _ [7, 8, 67, 68, 69] (by decide +kernel) (by decide +kernel)
set_option maxRecDepth 20000 in
theorem gX5_countConflicts_Jx4a65c_size_8abf5 : GoodIn wsX5_countConflicts (wsV RX5 67 RJx4a65c yJx4a65c_size_8abf5 wsJx4a65c_size_8abf5) := goodIn_app (goodIn_of _ (by decide +kernel)) ggX5_countConflicts_Jx4a65c_size_8abf5
set_option maxRecDepth 20000 in
theorem ggX5_countConflicts_Jx4a65c_get_915e3 : GoodIn wsX5_countConflicts wsJx4a65c_get_915e3 := goodIn_r _ [12, 8, 13, 14, 15, 16, 17, 18, 19, 20, 21, 22, 23, 6, 24, 25, 67, 68, 69] (by decide +kernel) (by decide +kernel)
set_option maxRecDepth 20000 in
theorem gX5_countConflicts_Jx4a65c_get_915e3 : GoodIn wsX5_countConflicts (wsV RX5 71 RJx4a65c yJx4a65c_get_915e3 wsJx4a65c_get_915e3) := goodIn_app (goodIn_of _ (by decide +kernel)) ggX5_countConflicts_Jx4a65c_get_915e3
set_option maxRecDepth 20000 in
theorem ggX5_countConflicts_X5_conflict : GoodIn wsX5_countConflicts wsX5_conflict := goodIn_r _ [30, 31, 32, 33, 34, 35, 36, 37, 38, 39, 40, 41, 42, 43, 44, 45, 46, 29, 47, 48, 49, 50, 51, 52, 53, 70, 71, 72, 73, 74, 75, 76, 77, 78, 79, 80, 81, 82, 54, 55, 56, 57, 58, 59, 60, 61, 62, 63, 64, 65, 66] (by decide +kernel) (by decide +kernel)
set_option maxRecDepth 20000 in
theorem gX5_countConflicts_X5_conflict : GoodIn wsX5_countConflicts (wsV RX5 247 RX5 yX5_conflict wsX5_conflict) := goodIn_app (goodIn_of _ (by decide +kernel)) ggX5_countConflicts_X5_conflict
theorem dX5_countConflicts_0 : decode cX5_countConflicts 0 = .ok (.iconst 0, 1) := by decide +kernel
theorem dX5_countConflicts_1 : decode cX5_countConflicts 1 = .ok (.istore_n 1, 1) := by decide +kernel
theorem dX5_countConflicts_2 : decode cX5_countConflicts 2 = .ok (.iconst 0, 1) := by decide +kernel
theorem dX5_countConflicts_3 : decode cX5_countConflicts 3 = .ok (.istore_n 2, 1) := by decide +kernel
theorem dX5_countConflicts_4 : decode cX5_countConflicts 4 = .ok (.iload_n 2, 1) := by decide +kernel
theorem dX5_countConflicts_5 : decode cX5_countConflicts 5 = .ok (.aload_n 0, 1) := by decide +kernel
theorem dX5_countConflicts_6 : decode cX5_countConflicts 6 = .ok (.getfield 12, 3) := by decide +kernel
theorem dX5_countConflicts_9 : decode cX5_countConflicts 9 = .ok (.invokevirtual 67, 3) := by decide +kernel
theorem dX5_countConflicts_12 : decode cX5_countConflicts 12 = .ok (.if_icmp .ge 54, 3) := by decide +kernel
theorem dX5_countConflicts_15 : decode cX5_countConflicts 15 = .ok (.iconst 0, 1) := by decide +kernel
theorem dX5_countConflicts_16 : decode cX5_countConflicts 16 = .ok (.istore_n 3, 1) := by decide +kernel
theorem dX5_countConflicts_17 : decode cX5_countConflicts 17 = .ok (.iload_n 3, 1) := by decide +kernel
theorem dX5_countConflicts_18 : decode cX5_countConflicts 18 = .ok (.iload_n 2, 1) := by decide +kernel
theorem dX5_countConflicts_19 : decode cX5_countConflicts 19 = .ok (.if_icmp .ge 41, 3) := by decide +kernel
theorem dX5_countConflicts_22 : decode cX5_countConflicts 22 = .ok (.aload_n 0, 1) := by decide +kernel
theorem dX5_countConflicts_23 : decode cX5_countConflicts 23 = .ok (.aload_n 0, 1) := by decide +kernel
theorem dX5_countConflicts_24 : decode cX5_countConflicts 24 = .ok (.getfield 12, 3) := by decide +kernel
theorem dX5_countConflicts_27 : decode cX5_countConflicts 27 = .ok (.iload_n 2, 1) := by decide +kernel
theorem dX5_countConflicts_28 : decode cX5_countConflicts 28 = .ok (.invokevirtual 71, 3) := by decide +kernel
theorem dX5_countConflicts_31 : decode cX5_countConflicts 31 = .ok (.checkcast 75, 3) := by decide +kernel
theorem dX5_countConflicts_34 : decode cX5_countConflicts 34 = .ok (.aload_n 0, 1) := by decide +kernel
theorem dX5_countConflicts_35 : decode cX5_countConflicts 35 = .ok (.getfield 12, 3) := by decide +kernel
theorem dX5_countConflicts_38 : decode cX5_countConflicts 38 = .ok (.iload_n 3, 1) := by decide +kernel
theorem dX5_countConflicts_39 : decode cX5_countConflicts 39 = .ok (.invokevirtual 71, 3) := by decide +kernel
theorem dX5_countConflicts_42 : decode cX5_countConflicts 42 = .ok (.checkcast 75, 3) := by decide +kernel
theorem dX5_countConflicts_45 : decode cX5_countConflicts 45 = .ok (.invokevirtual 247, 3) := by decide +kernel
theorem dX5_countConflicts_48 : decode cX5_countConflicts 48 = .ok (.ifCond .eq 6, 3) := by decide +kernel
theorem dX5_countConflicts_51 : decode cX5_countConflicts 51 = .ok (.iinc 1 1, 3) := by decide +kernel
theorem dX5_countConflicts_54 : decode cX5_countConflicts 54 = .ok (.iinc 3 1, 3) := by decide +kernel
theorem dX5_countConflicts_57 : decode cX5_countConflicts 57 = .ok (.goto (-40), 3) := by decide +kernel
theorem dX5_countConflicts_60 : decode cX5_countConflicts 60 = .ok (.iinc 2 1, 3) := by decide +kernel
theorem dX5_countConflicts_63 : decode cX5_countConflicts 63 = .ok (.goto (-59), 3) := by decide +kernel
theorem dX5_countConflicts_66 : decode cX5_countConflicts 66 = .ok (.iload_n 1, 1) := by decide +kernel
theorem dX5_countConflicts_67 : decode cX5_countConflicts 67 = .ok (.ireturn, 1) := by decide +kernel
set_option maxRecDepth 20000 in
theorem ggX5_conflict_X0_mayConflictWith : GoodIn wsX5_conflict wsX0_mayConflictWith := goodIn_r _ [6, 7, 8, 9, 10, 11, 12, 5, 13, 25, 26, 27, 28, 29, 30, 31, 32, 33, 34, 35, 36, 37] (by decide +kernel) (by decide +kernel)
set_option maxRecDepth 20000 in
theorem gX5_conflict_X0_mayConflictWith : GoodIn wsX5_conflict (wsV RX5 251 RX0 yX0_mayConflictWith wsX0_mayConflictWith) := goodIn_app (goodIn_of _ (by decide +kernel)) ggX5_conflict_X0_mayConflictWith
set_option maxRecDepth 20000 in
theorem ggX5_conflict_X5_stateOf : GoodIn wsX5_conflict wsX5_stateOf := goodIn_r _ [18, 19, 38, 39, 40, 41, 42, 43, 44, 45, 46, 47, 48, 49, 50] (by decide +kernel) (by decide +kernel)
set_option maxRecDepth 20000 in
theorem gX5_conflict_X5_stateOf : GoodIn wsX5_conflict (wsV RX5 244 RX5 yX5_stateOf wsX5_stateOf) := goodIn_app (goodIn_of _ (by decide +kernel)) ggX5_conflict_X5_stateOf
set_option maxRecDepth 20000 in
theorem ggX5_conflict_X5_beginningOf : GoodIn wsX5_conflict wsX5_beginningOf := goodIn_r _ [23, 24, 38, 39, 40, 41, 42, 43, 44, 45, 46, 47, 48, 49, 50] (by decide +kernel) (by decide +kernel)
set_option maxRecDepth 20000 in
theorem gX5_conflict_X5_beginningOf : GoodIn wsX5_conflict (wsV RX5 128 RX5 yX5_beginningOf wsX5_beginningOf) := goodIn_app (goodIn_of _ (by decide +kernel)) ggX5_conflict_X5_beginningOf
theorem dX5_conflict_0 : decode cX5_conflict 0 = .ok (.aload_n 1, 1) := by decide +kernel
theorem dX5_conflict_1 : decode cX5_conflict 1 = .ok (.aload_n 2, 1) := by decide +kernel
theorem dX5_conflict_2 : decode cX5_conflict 2 = .ok (.invokevirtual 251, 3) := by decide +kernel
theorem dX5_conflict_5 : decode cX5_conflict 5 = .ok (.ifCond .eq 50, 3) := by decide +kernel
theorem dX5_conflict_8 : decode cX5_conflict 8 = .ok (.aload_n 0, 1) := by decide +kernel
theorem dX5_conflict_9 : decode cX5_conflict 9 = .ok (.aload_n 1, 1) := by decide +kernel
theorem dX5_conflict_10 : decode cX5_conflict 10 = .ok (.getfield 93, 3) := by decide +kernel
theorem dX5_conflict_13 : decode cX5_conflict 13 = .ok (.invokevirtual 244, 3) := by decide +kernel
theorem dX5_conflict_16 : decode cX5_conflict 16 = .ok (.iconst 1, 1) := by decide +kernel
theorem dX5_conflict_17 : decode cX5_conflict 17 = .ok (.if_icmp .ne 38, 3) := by decide +kernel
theorem dX5_conflict_20 : decode cX5_conflict 20 = .ok (.aload_n 0, 1) := by decide +kernel
theorem dX5_conflict_21 : decode cX5_conflict 21 = .ok (.aload_n 2, 1) := by decide +kernel
theorem dX5_conflict_22 : decode cX5_conflict 22 = .ok (.getfield 93, 3) := by decide +kernel
theorem dX5_conflict_25 : decode cX5_conflict 25 = .ok (.invokevirtual 244, 3) := by decide +kernel
theorem dX5_conflict_28 : decode cX5_conflict 28 = .ok (.iconst 1, 1) := by decide +kernel
theorem dX5_conflict_29 : decode cX5_conflict 29 = .ok (.if_icmp .ne 26, 3) := by decide +kernel
theorem dX5_conflict_32 : decode cX5_conflict 32 = .ok (.aload_n 0, 1) := by decide +kernel
theorem dX5_conflict_33 : decode cX5_conflict 33 = .ok (.aload_n 1, 1) := by decide +kernel
theorem dX5_conflict_34 : decode cX5_conflict 34 = .ok (.getfield 93, 3) := by decide +kernel
theorem dX5_conflict_37 : decode cX5_conflict 37 = .ok (.invokevirtual 128, 3) := by decide +kernel
theorem dX5_conflict_40 : decode cX5_conflict 40 = .ok (.aload_n 0, 1) := by decide +kernel
theorem dX5_conflict_41 : decode cX5_conflict 41 = .ok (.aload_n 2, 1) := by decide +kernel
theorem dX5_conflict_42 : decode cX5_conflict 42 = .ok (.getfield 93, 3) := by decide +kernel
theorem dX5_conflict_45 : decode cX5_conflict 45 = .ok (.invokevirtual 128, 3) := by decide +kernel
theorem dX5_conflict_48 : decode cX5_conflict 48 = .ok (.if_icmp .ne 7, 3) := by decide +kernel
theorem dX5_conflict_51 : decode cX5_conflict 51 = .ok (.iconst 1, 1) := by decide +kernel
theorem dX5_conflict_52 : decode cX5_conflict 52 = .ok (.goto 4, 3) := by decide +kernel
theorem dX5_conflict_55 : decode cX5_conflict 55 = .ok (.iconst 0, 1) := by decide +kernel
theorem dX5_conflict_56 : decode cX5_conflict 56 = .ok (.ireturn, 1) := by decide +kernel
set_option maxRecDepth 20000 in
theorem ggX5_fold_X5_countOf : GoodIn wsX5_fold wsX5_countOf := goodIn_r _ [9, 10, 11, 12, 13, 8, 14, 15, 16, 17, 18, 19, 40, 41, 42, 43, 44, 45, 46, 47, 48, 49, 50, 51, 52, 53, 54, 55] (by decide +kernel) (by decide +kernel)
set_option maxRecDepth 20000 in
theorem gX5_fold_X5_countOf : GoodIn wsX5_fold (wsV RX5 256 RX5 yX5_countOf wsX5_countOf) := goodIn_app (goodIn_of _ (by decide +kernel)) ggX5_fold_X5_countOf
set_option maxRecDepth 20000 in
theorem ggX5_fold_X5_labelOf : GoodIn wsX5_fold wsX5_labelOf := goodIn_r _ [18, 19, 40, 41, 42, 43, 44, 45, 46, 47, 48, 49, 50, 51, 52] (by decide +kernel) (by decide +kernel)
set_option maxRecDepth 20000 in
theorem gX5_fold_X5_labelOf : GoodIn wsX5_fold (wsV RX5 196 RX5 yX5_labelOf wsX5_labelOf) := goodIn_app (goodIn_of _ (by decide +kernel)) ggX5_fold_X5_labelOf
set_option maxRecDepth 20000 in
theorem ggX5_fold_X5_readAt : GoodIn wsX5_fold wsX5_readAt := goodIn_r _ [23, 10, 11, 12, 13, 8, 14, 15, 16, 17, 18, 19, 24, 25, 26, 27, 28, 29, 30, 40, 41, 42, 43, 44, 45, 46, 47, 48, 49, 50, 51, 52, 53, 54, 55] (by decide +kernel) (by decide +kernel)
set_option maxRecDepth 20000 in
theorem gX5_fold_X5_readAt : GoodIn wsX5_fold (wsV RX5 261 RX5 yX5_readAt wsX5_readAt) := goodIn_app (goodIn_of _ (by decide +kernel)) ggX5_fold_X5_readAt
set_option maxRecDepth 20000 in
theorem ggX5_fold_X5_sourceAt : GoodIn wsX5_fold wsX5_sourceAt := goodIn_r _ [34, 10, 11, 12, 13, 8, 14, 15, 16, 17, 18, 19, 35, 36, 37, 27, 38, 29, 39, 40, 41, 42, 43, 44, 45, 46, 47, 48, 49, 50, 51, 52, 53, 54, 55] (by decide +kernel) (by decide +kernel)
set_option maxRecDepth 20000 in
theorem gX5_fold_X5_sourceAt : GoodIn wsX5_fold (wsV RX5 263 RX5 yX5_sourceAt wsX5_sourceAt) := goodIn_app (goodIn_of _ (by decide +kernel)) ggX5_fold_X5_sourceAt
theorem dX5_fold_0 : decode cX5_fold 0 = .ok (.ldc2_w 254, 3) := by decide +kernel
theorem dX5_fold_3 : decode cX5_fold 3 = .ok (.lstore_n 1, 1) := by decide +kernel
theorem dX5_fold_4 : decode cX5_fold 4 = .ok (.iconst 0, 1) := by decide +kernel
theorem dX5_fold_5 : decode cX5_fold 5 = .ok (.istore_n 3, 1) := by decide +kernel
theorem dX5_fold_6 : decode cX5_fold 6 = .ok (.iload_n 3, 1) := by decide +kernel
theorem dX5_fold_7 : decode cX5_fold 7 = .ok (.aload_n 0, 1) := by decide +kernel
theorem dX5_fold_8 : decode cX5_fold 8 = .ok (.getfield 51, 3) := by decide +kernel
theorem dX5_fold_11 : decode cX5_fold 11 = .ok (.if_icmp .ge 123, 3) := by decide +kernel
theorem dX5_fold_14 : decode cX5_fold 14 = .ok (.iload_n 3, 1) := by decide +kernel
theorem dX5_fold_15 : decode cX5_fold 15 = .ok (.aload_n 0, 1) := by decide +kernel
theorem dX5_fold_16 : decode cX5_fold 16 = .ok (.getfield 48, 3) := by decide +kernel
theorem dX5_fold_19 : decode cX5_fold 19 = .ok (.arraylength, 1) := by decide +kernel
theorem dX5_fold_20 : decode cX5_fold 20 = .ok (.if_icmp .ge 114, 3) := by decide +kernel
theorem dX5_fold_23 : decode cX5_fold 23 = .ok (.aload_n 0, 1) := by decide +kernel
theorem dX5_fold_24 : decode cX5_fold 24 = .ok (.getfield 48, 3) := by decide +kernel
theorem dX5_fold_27 : decode cX5_fold 27 = .ok (.iload_n 3, 1) := by decide +kernel
theorem dX5_fold_28 : decode cX5_fold 28 = .ok (.iaload, 1) := by decide +kernel
theorem dX5_fold_29 : decode cX5_fold 29 = .ok (.istore 4, 2) := by decide +kernel
theorem dX5_fold_31 : decode cX5_fold 31 = .ok (.aload_n 0, 1) := by decide +kernel
theorem dX5_fold_32 : decode cX5_fold 32 = .ok (.iload 4, 2) := by decide +kernel
theorem dX5_fold_34 : decode cX5_fold 34 = .ok (.invokevirtual 256, 3) := by decide +kernel
theorem dX5_fold_37 : decode cX5_fold 37 = .ok (.istore 5, 2) := by decide +kernel
theorem dX5_fold_39 : decode cX5_fold 39 = .ok (.ldc2_w 259, 3) := by decide +kernel
theorem dX5_fold_42 : decode cX5_fold 42 = .ok (.lload_n 1, 1) := by decide +kernel
theorem dX5_fold_43 : decode cX5_fold 43 = .ok (.lmul, 1) := by decide +kernel
theorem dX5_fold_44 : decode cX5_fold 44 = .ok (.iload 4, 2) := by decide +kernel
theorem dX5_fold_46 : decode cX5_fold 46 = .ok (.i2l, 1) := by decide +kernel
theorem dX5_fold_47 : decode cX5_fold 47 = .ok (.ladd, 1) := by decide +kernel
theorem dX5_fold_48 : decode cX5_fold 48 = .ok (.lstore_n 1, 1) := by decide +kernel
theorem dX5_fold_49 : decode cX5_fold 49 = .ok (.ldc2_w 259, 3) := by decide +kernel
theorem dX5_fold_52 : decode cX5_fold 52 = .ok (.lload_n 1, 1) := by decide +kernel
theorem dX5_fold_53 : decode cX5_fold 53 = .ok (.lmul, 1) := by decide +kernel
theorem dX5_fold_54 : decode cX5_fold 54 = .ok (.aload_n 0, 1) := by decide +kernel
theorem dX5_fold_55 : decode cX5_fold 55 = .ok (.iload 4, 2) := by decide +kernel
theorem dX5_fold_57 : decode cX5_fold 57 = .ok (.invokevirtual 196, 3) := by decide +kernel
theorem dX5_fold_60 : decode cX5_fold 60 = .ok (.i2l, 1) := by decide +kernel
theorem dX5_fold_61 : decode cX5_fold 61 = .ok (.ladd, 1) := by decide +kernel
theorem dX5_fold_62 : decode cX5_fold 62 = .ok (.lstore_n 1, 1) := by decide +kernel
theorem dX5_fold_63 : decode cX5_fold 63 = .ok (.ldc2_w 259, 3) := by decide +kernel
theorem dX5_fold_66 : decode cX5_fold 66 = .ok (.lload_n 1, 1) := by decide +kernel
theorem dX5_fold_67 : decode cX5_fold 67 = .ok (.lmul, 1) := by decide +kernel
theorem dX5_fold_68 : decode cX5_fold 68 = .ok (.iload 5, 2) := by decide +kernel
theorem dX5_fold_70 : decode cX5_fold 70 = .ok (.i2l, 1) := by decide +kernel
theorem dX5_fold_71 : decode cX5_fold 71 = .ok (.ladd, 1) := by decide +kernel
theorem dX5_fold_72 : decode cX5_fold 72 = .ok (.lstore_n 1, 1) := by decide +kernel
theorem dX5_fold_73 : decode cX5_fold 73 = .ok (.iconst 0, 1) := by decide +kernel
theorem dX5_fold_74 : decode cX5_fold 74 = .ok (.istore 6, 2) := by decide +kernel
theorem dX5_fold_76 : decode cX5_fold 76 = .ok (.iload 6, 2) := by decide +kernel
theorem dX5_fold_78 : decode cX5_fold 78 = .ok (.iload 5, 2) := by decide +kernel
theorem dX5_fold_80 : decode cX5_fold 80 = .ok (.if_icmp .ge 48, 3) := by decide +kernel
theorem dX5_fold_83 : decode cX5_fold 83 = .ok (.iload 6, 2) := by decide +kernel
theorem dX5_fold_85 : decode cX5_fold 85 = .ok (.bipush 12, 2) := by decide +kernel
theorem dX5_fold_87 : decode cX5_fold 87 = .ok (.if_icmp .ge 41, 3) := by decide +kernel
theorem dX5_fold_90 : decode cX5_fold 90 = .ok (.ldc2_w 259, 3) := by decide +kernel
theorem dX5_fold_93 : decode cX5_fold 93 = .ok (.lload_n 1, 1) := by decide +kernel
theorem dX5_fold_94 : decode cX5_fold 94 = .ok (.lmul, 1) := by decide +kernel
theorem dX5_fold_95 : decode cX5_fold 95 = .ok (.aload_n 0, 1) := by decide +kernel
theorem dX5_fold_96 : decode cX5_fold 96 = .ok (.iload 4, 2) := by decide +kernel
theorem dX5_fold_98 : decode cX5_fold 98 = .ok (.iload 6, 2) := by decide +kernel
theorem dX5_fold_100 : decode cX5_fold 100 = .ok (.invokevirtual 261, 3) := by decide +kernel
theorem dX5_fold_103 : decode cX5_fold 103 = .ok (.i2l, 1) := by decide +kernel
theorem dX5_fold_104 : decode cX5_fold 104 = .ok (.ladd, 1) := by decide +kernel
theorem dX5_fold_105 : decode cX5_fold 105 = .ok (.lstore_n 1, 1) := by decide +kernel
theorem dX5_fold_106 : decode cX5_fold 106 = .ok (.ldc2_w 259, 3) := by decide +kernel
theorem dX5_fold_109 : decode cX5_fold 109 = .ok (.lload_n 1, 1) := by decide +kernel
theorem dX5_fold_110 : decode cX5_fold 110 = .ok (.lmul, 1) := by decide +kernel
theorem dX5_fold_111 : decode cX5_fold 111 = .ok (.aload_n 0, 1) := by decide +kernel
theorem dX5_fold_112 : decode cX5_fold 112 = .ok (.iload 4, 2) := by decide +kernel
theorem dX5_fold_114 : decode cX5_fold 114 = .ok (.iload 6, 2) := by decide +kernel
theorem dX5_fold_116 : decode cX5_fold 116 = .ok (.invokevirtual 263, 3) := by decide +kernel
theorem dX5_fold_119 : decode cX5_fold 119 = .ok (.i2l, 1) := by decide +kernel
theorem dX5_fold_120 : decode cX5_fold 120 = .ok (.ladd, 1) := by decide +kernel
theorem dX5_fold_121 : decode cX5_fold 121 = .ok (.lstore_n 1, 1) := by decide +kernel
theorem dX5_fold_122 : decode cX5_fold 122 = .ok (.iinc 6 1, 3) := by decide +kernel
theorem dX5_fold_125 : decode cX5_fold 125 = .ok (.goto (-49), 3) := by decide +kernel
theorem dX5_fold_128 : decode cX5_fold 128 = .ok (.iinc 3 1, 3) := by decide +kernel
theorem dX5_fold_131 : decode cX5_fold 131 = .ok (.goto (-125), 3) := by decide +kernel
theorem dX5_fold_134 : decode cX5_fold 134 = .ok (.lload_n 1, 1) := by decide +kernel
theorem dX5_fold_135 : decode cX5_fold 135 = .ok (.lreturn, 1) := by decide +kernel
set_option maxRecDepth 20000 in
theorem ggX6_init_Jx4a65c_init_da8c8 : GoodIn wsX6_init wsJx4a65c_init_da8c8 := goodIn_r _ [26, 27, 28, 29, 30, 31, 32, 33, 34, 35, 36, 37, 38, 2, 3, 122, 123, 124] (by decide +kernel) (by decide +kernel)
set_option maxRecDepth 20000 in
theorem gX6_init_Jx4a65c_init_da8c8 : GoodIn wsX6_init (wsJx4a65c_init_da8c8) := ggX6_init_Jx4a65c_init_da8c8
set_option maxRecDepth 20000 in
theorem ggX6_init_X5_init : GoodIn wsX6_init wsX5_init := goodIn_r _ [41, 42, 2, 3, 43, 5, 6, 44, 45, 46, 47, 48, 49, 50, 51, 52, 53, 54, 55, 56, 57, 58, 59, 60, 61, 62, 25, 26, 27, 28, 29, 30, 31, 32, 33, 34, 35, 36, 37, 38, 63, 64, 65, 66, 67, 68, 69, 70, 71, 10, 72, 73, 74, 75, 76, 77, 78, 79, 122, 123, 124, 133, 134, 135, 136, 137, 138, 139, 140, 141, 142, 143, 144, 145, 163, 164, 165] (by decide +kernel) (by decide +kernel)
set_option maxRecDepth 20000 in
theorem gX6_init_X5_init : GoodIn wsX6_init (wsX5_init) := ggX6_init_X5_init
set_option maxRecDepth 20000 in
theorem ggX6_init_X3_init : GoodIn wsX6_init wsX3_init := goodIn_r _ [82, 83, 2, 3, 84, 85, 86, 87, 159, 160, 161, 162] (by decide +kernel) (by decide +kernel)
set_option maxRecDepth 20000 in
theorem gX6_init_X3_init : GoodIn wsX6_init (wsX3_init) := ggX6_init_X3_init
set_option maxRecDepth 20000 in
theorem ggX6_init_X0_init : GoodIn wsX6_init wsX0_init := goodIn_r _ [90, 91, 2, 3, 92, 93, 94, 95, 96, 97, 98, 99, 100, 101, 102, 103, 104, 105, 106, 107, 108, 109, 110, 111, 112, 113, 45, 114, 115, 116, 117, 118, 119, 120, 121, 146, 147, 148, 149, 150, 151, 152, 153, 154, 155, 156, 157, 158, 166, 167, 168, 169, 170] (by decide +kernel) (by decide +kernel)
set_option maxRecDepth 20000 in
theorem gX6_init_X0_init : GoodIn wsX6_init (wsX0_init) := ggX6_init_X0_init
theorem dX6_init_0 : decode cX6_init 0 = .ok (.aload_n 0, 1) := by decide +kernel
theorem dX6_init_1 : decode cX6_init 1 = .ok (.invokespecial 1, 3) := by decide +kernel
theorem dX6_init_4 : decode cX6_init 4 = .ok (.aload_n 0, 1) := by decide +kernel
theorem dX6_init_5 : decode cX6_init 5 = .ok (.new 7, 3) := by decide +kernel
theorem dX6_init_8 : decode cX6_init 8 = .ok (.dup, 1) := by decide +kernel
theorem dX6_init_9 : decode cX6_init 9 = .ok (.invokespecial 9, 3) := by decide +kernel
theorem dX6_init_12 : decode cX6_init 12 = .ok (.putfield 10, 3) := by decide +kernel
theorem dX6_init_15 : decode cX6_init 15 = .ok (.aload_n 0, 1) := by decide +kernel
theorem dX6_init_16 : decode cX6_init 16 = .ok (.new 16, 3) := by decide +kernel
theorem dX6_init_19 : decode cX6_init 19 = .ok (.dup, 1) := by decide +kernel
theorem dX6_init_20 : decode cX6_init 20 = .ok (.invokespecial 18, 3) := by decide +kernel
theorem dX6_init_23 : decode cX6_init 23 = .ok (.putfield 19, 3) := by decide +kernel
theorem dX6_init_26 : decode cX6_init 26 = .ok (.aload_n 0, 1) := by decide +kernel
theorem dX6_init_27 : decode cX6_init 27 = .ok (.new 16, 3) := by decide +kernel
theorem dX6_init_30 : decode cX6_init 30 = .ok (.dup, 1) := by decide +kernel
theorem dX6_init_31 : decode cX6_init 31 = .ok (.invokespecial 18, 3) := by decide +kernel
theorem dX6_init_34 : decode cX6_init 34 = .ok (.putfield 23, 3) := by decide +kernel
theorem dX6_init_37 : decode cX6_init 37 = .ok (.aload_n 0, 1) := by decide +kernel
theorem dX6_init_38 : decode cX6_init 38 = .ok (.new 26, 3) := by decide +kernel
theorem dX6_init_41 : decode cX6_init 41 = .ok (.dup, 1) := by decide +kernel
theorem dX6_init_42 : decode cX6_init 42 = .ok (.new 28, 3) := by decide +kernel
theorem dX6_init_45 : decode cX6_init 45 = .ok (.dup, 1) := by decide +kernel
theorem dX6_init_46 : decode cX6_init 46 = .ok (.iconst 0, 1) := by decide +kernel
theorem dX6_init_47 : decode cX6_init 47 = .ok (.iconst 0, 1) := by decide +kernel
theorem dX6_init_48 : decode cX6_init 48 = .ok (.bipush 7, 2) := by decide +kernel
theorem dX6_init_50 : decode cX6_init 50 = .ok (.iconst (-1), 1) := by decide +kernel
theorem dX6_init_51 : decode cX6_init 51 = .ok (.invokespecial 30, 3) := by decide +kernel
theorem dX6_init_54 : decode cX6_init 54 = .ok (.invokespecial 33, 3) := by decide +kernel
theorem dX6_init_57 : decode cX6_init 57 = .ok (.putfield 36, 3) := by decide +kernel
theorem dX6_init_60 : decode cX6_init 60 = .ok (.aload_n 0, 1) := by decide +kernel
theorem dX6_init_61 : decode cX6_init 61 = .ok (.iconst 0, 1) := by decide +kernel
theorem dX6_init_62 : decode cX6_init 62 = .ok (.putfield 40, 3) := by decide +kernel
theorem dX6_init_65 : decode cX6_init 65 = .ok (.aload_n 0, 1) := by decide +kernel
theorem dX6_init_66 : decode cX6_init 66 = .ok (.iconst 0, 1) := by decide +kernel
theorem dX6_init_67 : decode cX6_init 67 = .ok (.putfield 44, 3) := by decide +kernel
theorem dX6_init_70 : decode cX6_init 70 = .ok (.aload_n 0, 1) := by decide +kernel
theorem dX6_init_71 : decode cX6_init 71 = .ok (.iconst (-1), 1) := by decide +kernel
theorem dX6_init_72 : decode cX6_init 72 = .ok (.putfield 47, 3) := by decide +kernel
theorem dX6_init_75 : decode cX6_init 75 = .ok (.aload_n 0, 1) := by decide +kernel
theorem dX6_init_76 : decode cX6_init 76 = .ok (.iconst 0, 1) := by decide +kernel
theorem dX6_init_77 : decode cX6_init 77 = .ok (.putfield 50, 3) := by decide +kernel
theorem dX6_init_80 : decode cX6_init 80 = .ok (.return_, 1) := by decide +kernel
theorem dX6_pass_0 : decode cX6_pass 0 = .ok (.iload_n 1, 1) := by decide +kernel
theorem dX6_pass_1 : decode cX6_pass 1 = .ok (.iconst 1, 1) := by decide +kernel
theorem dX6_pass_2 : decode cX6_pass 2 = .ok (.if_icmp .lt 10, 3) := by decide +kernel
theorem dX6_pass_5 : decode cX6_pass 5 = .ok (.iload_n 1, 1) := by decide +kernel
theorem dX6_pass_6 : decode cX6_pass 6 = .ok (.sipush 500, 3) := by decide +kernel
theorem dX6_pass_9 : decode cX6_pass 9 = .ok (.if_icmp .le 13, 3) := by decide +kernel
theorem dX6_pass_12 : decode cX6_pass 12 = .ok (.new 53, 3) := by decide +kernel
theorem dX6_pass_15 : decode cX6_pass 15 = .ok (.dup, 1) := by decide +kernel
theorem dX6_pass_16 : decode cX6_pass 16 = .ok (.ldc 55, 2) := by decide +kernel
theorem dX6_pass_18 : decode cX6_pass 18 = .ok (.invokespecial 57, 3) := by decide +kernel
theorem dX6_pass_21 : decode cX6_pass 21 = .ok (.athrow, 1) := by decide +kernel
theorem dX6_pass_22 : decode cX6_pass 22 = .ok (.aload_n 0, 1) := by decide +kernel
theorem dX6_pass_23 : decode cX6_pass 23 = .ok (.getfield 40, 3) := by decide +kernel
theorem dX6_pass_26 : decode cX6_pass 26 = .ok (.iload_n 1, 1) := by decide +kernel
theorem dX6_pass_27 : decode cX6_pass 27 = .ok (.iadd, 1) := by decide +kernel
theorem dX6_pass_28 : decode cX6_pass 28 = .ok (.sipush 5000, 3) := by decide +kernel
theorem dX6_pass_31 : decode cX6_pass 31 = .ok (.if_icmp .le 13, 3) := by decide +kernel
theorem dX6_pass_34 : decode cX6_pass 34 = .ok (.new 60, 3) := by decide +kernel
theorem dX6_pass_37 : decode cX6_pass 37 = .ok (.dup, 1) := by decide +kernel
theorem dX6_pass_38 : decode cX6_pass 38 = .ok (.ldc 62, 2) := by decide +kernel
theorem dX6_pass_40 : decode cX6_pass 40 = .ok (.invokespecial 64, 3) := by decide +kernel
theorem dX6_pass_43 : decode cX6_pass 43 = .ok (.athrow, 1) := by decide +kernel
theorem dX6_pass_44 : decode cX6_pass 44 = .ok (.aload_n 0, 1) := by decide +kernel
theorem dX6_pass_45 : decode cX6_pass 45 = .ok (.dup, 1) := by decide +kernel
theorem dX6_pass_46 : decode cX6_pass 46 = .ok (.getfield 40, 3) := by decide +kernel
theorem dX6_pass_49 : decode cX6_pass 49 = .ok (.iload_n 1, 1) := by decide +kernel
theorem dX6_pass_50 : decode cX6_pass 50 = .ok (.iadd, 1) := by decide +kernel
theorem dX6_pass_51 : decode cX6_pass 51 = .ok (.putfield 40, 3) := by decide +kernel
theorem dX6_pass_54 : decode cX6_pass 54 = .ok (.aload_n 0, 1) := by decide +kernel
theorem dX6_pass_55 : decode cX6_pass 55 = .ok (.getfield 40, 3) := by decide +kernel
theorem dX6_pass_58 : decode cX6_pass 58 = .ok (.ireturn, 1) := by decide +kernel
theorem dX6_act_0 : decode cX6_act 0 = .ok (.aload_n 0, 1) := by decide +kernel
theorem dX6_act_1 : decode cX6_act 1 = .ok (.getfield 44, 3) := by decide +kernel
theorem dX6_act_4 : decode cX6_act 4 = .ok (.bipush 10, 2) := by decide +kernel
theorem dX6_act_6 : decode cX6_act 6 = .ok (.if_icmp .lt 13, 3) := by decide +kernel
theorem dX6_act_9 : decode cX6_act 9 = .ok (.new 60, 3) := by decide +kernel
theorem dX6_act_12 : decode cX6_act 12 = .ok (.dup, 1) := by decide +kernel
theorem dX6_act_13 : decode cX6_act 13 = .ok (.ldc 65, 2) := by decide +kernel
theorem dX6_act_15 : decode cX6_act 15 = .ok (.invokespecial 64, 3) := by decide +kernel
theorem dX6_act_18 : decode cX6_act 18 = .ok (.athrow, 1) := by decide +kernel
theorem dX6_act_19 : decode cX6_act 19 = .ok (.aload_n 0, 1) := by decide +kernel
theorem dX6_act_20 : decode cX6_act 20 = .ok (.aload_n 0, 1) := by decide +kernel
theorem dX6_act_21 : decode cX6_act 21 = .ok (.getfield 40, 3) := by decide +kernel
theorem dX6_act_24 : decode cX6_act 24 = .ok (.putfield 47, 3) := by decide +kernel
theorem dX6_act_27 : decode cX6_act 27 = .ok (.aload_n 0, 1) := by decide +kernel
theorem dX6_act_28 : decode cX6_act 28 = .ok (.dup, 1) := by decide +kernel
theorem dX6_act_29 : decode cX6_act 29 = .ok (.getfield 44, 3) := by decide +kernel
theorem dX6_act_32 : decode cX6_act 32 = .ok (.iconst 1, 1) := by decide +kernel
theorem dX6_act_33 : decode cX6_act 33 = .ok (.iadd, 1) := by decide +kernel
theorem dX6_act_34 : decode cX6_act 34 = .ok (.putfield 44, 3) := by decide +kernel
theorem dX6_act_37 : decode cX6_act 37 = .ok (.aload_n 0, 1) := by decide +kernel
theorem dX6_act_38 : decode cX6_act 38 = .ok (.getfield 44, 3) := by decide +kernel
theorem dX6_act_41 : decode cX6_act 41 = .ok (.iconst 1, 1) := by decide +kernel
theorem dX6_act_42 : decode cX6_act 42 = .ok (.isub, 1) := by decide +kernel
theorem dX6_act_43 : decode cX6_act 43 = .ok (.ireturn, 1) := by decide +kernel
set_option maxRecDepth 20000 in
theorem ggX6_terms_X6_needInstruction : GoodIn wsX6_terms wsX6_needInstruction := goodIn_ca (goodIn_r _ [12, 13, 14, 15, 16, 17, 18, 19, 20, 21, 22, 23, 24, 25, 26, 27, 28, 29, 30, 31, 32, 33, 34, 35, 36, 37, 38, 39, 53, 54, 55, 56, 57, 58, 59, 60, 78, 79, 80] (by decide +kernel) (by decide +kernel)) (goodIn_sub (fun _ h => List.mem_cons_of_mem _ (List.mem_append_right _ h)) (by decide +kernel))
set_option maxRecDepth 20000 in
theorem gX6_terms_X6_needInstruction : GoodIn wsX6_terms (wsV RX6 67 RX6 yX6_needInstruction wsX6_needInstruction) := goodIn_app (goodIn_of _ (by decide +kernel)) ggX6_terms_X6_needInstruction
set_option maxRecDepth 20000 in
theorem ggX6_terms_X6_needDay : GoodIn wsX6_terms wsX6_needDay := goodIn_ca (goodIn_r _ [42, 1, 2] (by decide +kernel) (by decide +kernel)) (goodIn_sub (fun _ h => List.mem_cons_of_mem _ (List.mem_append_left _ (List.mem_append_right _ h))) (by decide +kernel))
set_option maxRecDepth 20000 in
theorem gX6_terms_X6_needDay : GoodIn wsX6_terms (va_wsS RX6 73 yX6_needDay wsX6_needDay) := goodIn_app (goodIn_of _ (by decide +kernel)) ggX6_terms_X6_needDay
set_option maxRecDepth 20000 in
theorem ggX6_terms_X3_init : GoodIn wsX6_terms wsX3_init := goodIn_r _ [45, 46, 47, 48, 49, 50, 51, 52, 61, 62, 63, 64] (by decide +kernel) (by decide +kernel)
set_option maxRecDepth 20000 in
theorem gX6_terms_X3_init : GoodIn wsX6_terms (wsX3_init) := ggX6_terms_X3_init
theorem dX6_terms_0 : decode cX6_terms 0 = .ok (.iload_n 1, 1) := by decide +kernel
theorem dX6_terms_1 : decode cX6_terms 1 = .ok (.iconst 2, 1) := by decide +kernel
theorem dX6_terms_2 : decode cX6_terms 2 = .ok (.if_icmp .ne 9, 3) := by decide +kernel
theorem dX6_terms_5 : decode cX6_terms 5 = .ok (.aload_n 0, 1) := by decide +kernel
theorem dX6_terms_6 : decode cX6_terms 6 = .ok (.iload_n 2, 1) := by decide +kernel
theorem dX6_terms_7 : decode cX6_terms 7 = .ok (.invokevirtual 67, 3) := by decide +kernel
theorem dX6_terms_10 : decode cX6_terms 10 = .ok (.pop, 1) := by decide +kernel
theorem dX6_terms_11 : decode cX6_terms 11 = .ok (.iload_n 1, 1) := by decide +kernel
theorem dX6_terms_12 : decode cX6_terms 12 = .ok (.ifCond .lt 8, 3) := by decide +kernel
theorem dX6_terms_15 : decode cX6_terms 15 = .ok (.iload_n 1, 1) := by decide +kernel
theorem dX6_terms_16 : decode cX6_terms 16 = .ok (.iconst 2, 1) := by decide +kernel
theorem dX6_terms_17 : decode cX6_terms 17 = .ok (.if_icmp .le 13, 3) := by decide +kernel
theorem dX6_terms_20 : decode cX6_terms 20 = .ok (.new 53, 3) := by decide +kernel
theorem dX6_terms_23 : decode cX6_terms 23 = .ok (.dup, 1) := by decide +kernel
theorem dX6_terms_24 : decode cX6_terms 24 = .ok (.ldc 71, 2) := by decide +kernel
theorem dX6_terms_26 : decode cX6_terms 26 = .ok (.invokespecial 57, 3) := by decide +kernel
theorem dX6_terms_29 : decode cX6_terms 29 = .ok (.athrow, 1) := by decide +kernel
theorem dX6_terms_30 : decode cX6_terms 30 = .ok (.iload_n 1, 1) := by decide +kernel
theorem dX6_terms_31 : decode cX6_terms 31 = .ok (.ifCond .ne 7, 3) := by decide +kernel
theorem dX6_terms_34 : decode cX6_terms 34 = .ok (.iload_n 2, 1) := by decide +kernel
theorem dX6_terms_35 : decode cX6_terms 35 = .ok (.invokestatic 73, 3) := by decide +kernel
theorem dX6_terms_38 : decode cX6_terms 38 = .ok (.iload_n 3, 1) := by decide +kernel
theorem dX6_terms_39 : decode cX6_terms 39 = .ok (.iconst 1, 1) := by decide +kernel
theorem dX6_terms_40 : decode cX6_terms 40 = .ok (.if_icmp .lt 9, 3) := by decide +kernel
theorem dX6_terms_43 : decode cX6_terms 43 = .ok (.iload_n 3, 1) := by decide +kernel
theorem dX6_terms_44 : decode cX6_terms 44 = .ok (.bipush 7, 2) := by decide +kernel
theorem dX6_terms_46 : decode cX6_terms 46 = .ok (.if_icmp .le 13, 3) := by decide +kernel
theorem dX6_terms_49 : decode cX6_terms 49 = .ok (.new 53, 3) := by decide +kernel
theorem dX6_terms_52 : decode cX6_terms 52 = .ok (.dup, 1) := by decide +kernel
theorem dX6_terms_53 : decode cX6_terms 53 = .ok (.ldc 77, 2) := by decide +kernel
theorem dX6_terms_55 : decode cX6_terms 55 = .ok (.invokespecial 57, 3) := by decide +kernel
theorem dX6_terms_58 : decode cX6_terms 58 = .ok (.athrow, 1) := by decide +kernel
theorem dX6_terms_59 : decode cX6_terms 59 = .ok (.iload 4, 2) := by decide +kernel
theorem dX6_terms_61 : decode cX6_terms 61 = .ok (.iconst (-1), 1) := by decide +kernel
theorem dX6_terms_62 : decode cX6_terms 62 = .ok (.if_icmp .eq 8, 3) := by decide +kernel
theorem dX6_terms_65 : decode cX6_terms 65 = .ok (.iload 4, 2) := by decide +kernel
theorem dX6_terms_67 : decode cX6_terms 67 = .ok (.invokestatic 73, 3) := by decide +kernel
theorem dX6_terms_70 : decode cX6_terms 70 = .ok (.aload_n 0, 1) := by decide +kernel
theorem dX6_terms_71 : decode cX6_terms 71 = .ok (.getfield 36, 3) := by decide +kernel
theorem dX6_terms_74 : decode cX6_terms 74 = .ok (.new 28, 3) := by decide +kernel
theorem dX6_terms_77 : decode cX6_terms 77 = .ok (.dup, 1) := by decide +kernel
theorem dX6_terms_78 : decode cX6_terms 78 = .ok (.iload_n 1, 1) := by decide +kernel
theorem dX6_terms_79 : decode cX6_terms 79 = .ok (.iload_n 2, 1) := by decide +kernel
theorem dX6_terms_80 : decode cX6_terms 80 = .ok (.iload_n 3, 1) := by decide +kernel
theorem dX6_terms_81 : decode cX6_terms 81 = .ok (.iload 4, 2) := by decide +kernel
theorem dX6_terms_83 : decode cX6_terms 83 = .ok (.invokespecial 30, 3) := by decide +kernel
theorem dX6_terms_86 : decode cX6_terms 86 = .ok (.putfield 79, 3) := by decide +kernel
theorem dX6_terms_89 : decode cX6_terms 89 = .ok (.return_, 1) := by decide +kernel
set_option maxRecDepth 20000 in
theorem ggX6_word_X2_append : GoodIn wsX6_word wsX2_append := goodIn_r _ [13, 14, 15, 37, 38] (by decide +kernel) (by decide +kernel)
set_option maxRecDepth 20000 in
theorem gX6_word_X2_append : GoodIn wsX6_word (wsV RX6 92 RX2 yX2_append wsX2_append) := goodIn_app (goodIn_of _ (by decide +kernel)) ggX6_word_X2_append
theorem dX6_word_0 : decode cX6_word 0 = .ok (.iload_n 1, 1) := by decide +kernel
theorem dX6_word_1 : decode cX6_word 1 = .ok (.ifCond .lt 10, 3) := by decide +kernel
theorem dX6_word_4 : decode cX6_word 4 = .ok (.iload_n 1, 1) := by decide +kernel
theorem dX6_word_5 : decode cX6_word 5 = .ok (.sipush 139, 3) := by decide +kernel
theorem dX6_word_8 : decode cX6_word 8 = .ok (.if_icmp .le 13, 3) := by decide +kernel
theorem dX6_word_11 : decode cX6_word 11 = .ok (.new 53, 3) := by decide +kernel
theorem dX6_word_14 : decode cX6_word 14 = .ok (.dup, 1) := by decide +kernel
theorem dX6_word_15 : decode cX6_word 15 = .ok (.ldc 83, 2) := by decide +kernel
theorem dX6_word_17 : decode cX6_word 17 = .ok (.invokespecial 57, 3) := by decide +kernel
theorem dX6_word_20 : decode cX6_word 20 = .ok (.athrow, 1) := by decide +kernel
theorem dX6_word_21 : decode cX6_word 21 = .ok (.iload_n 2, 1) := by decide +kernel
theorem dX6_word_22 : decode cX6_word 22 = .ok (.ifCond .eq 13, 3) := by decide +kernel
theorem dX6_word_25 : decode cX6_word 25 = .ok (.aload_n 0, 1) := by decide +kernel
theorem dX6_word_26 : decode cX6_word 26 = .ok (.getfield 36, 3) := by decide +kernel
theorem dX6_word_29 : decode cX6_word 29 = .ok (.getfield 85, 3) := by decide +kernel
theorem dX6_word_32 : decode cX6_word 32 = .ok (.goto 10, 3) := by decide +kernel
theorem dX6_word_35 : decode cX6_word 35 = .ok (.aload_n 0, 1) := by decide +kernel
theorem dX6_word_36 : decode cX6_word 36 = .ok (.getfield 36, 3) := by decide +kernel
theorem dX6_word_39 : decode cX6_word 39 = .ok (.getfield 89, 3) := by decide +kernel
theorem dX6_word_42 : decode cX6_word 42 = .ok (.astore_n 3, 1) := by decide +kernel
theorem dX6_word_43 : decode cX6_word 43 = .ok (.aload_n 3, 1) := by decide +kernel
theorem dX6_word_44 : decode cX6_word 44 = .ok (.iload_n 1, 1) := by decide +kernel
theorem dX6_word_45 : decode cX6_word 45 = .ok (.invokevirtual 92, 3) := by decide +kernel
theorem dX6_word_48 : decode cX6_word 48 = .ok (.ifCond .ne 13, 3) := by decide +kernel
theorem dX6_word_51 : decode cX6_word 51 = .ok (.new 60, 3) := by decide +kernel
theorem dX6_word_54 : decode cX6_word 54 = .ok (.dup, 1) := by decide +kernel
theorem dX6_word_55 : decode cX6_word 55 = .ok (.ldc 98, 2) := by decide +kernel
theorem dX6_word_57 : decode cX6_word 57 = .ok (.invokespecial 64, 3) := by decide +kernel
theorem dX6_word_60 : decode cX6_word 60 = .ok (.athrow, 1) := by decide +kernel
theorem dX6_word_61 : decode cX6_word 61 = .ok (.aload_n 3, 1) := by decide +kernel
theorem dX6_word_62 : decode cX6_word 62 = .ok (.getfield 100, 3) := by decide +kernel
theorem dX6_word_65 : decode cX6_word 65 = .ok (.ireturn, 1) := by decide +kernel
set_option maxRecDepth 20000 in
theorem ggX6_enact_X6_needProvisionOrTop : GoodIn wsX6_enact wsX6_needProvisionOrTop := goodIn_ca (goodIn_r _ [15, 16, 17, 18, 14, 19, 20, 21, 3, 352, 353, 354, 355, 356, 357, 358, 359] (by decide +kernel) (by decide +kernel)) (goodIn_sub (fun _ h => List.mem_cons_of_mem _ (List.mem_append_left _ (List.mem_append_right _ h))) (by decide +kernel))
set_option maxRecDepth 20000 in
theorem gX6_enact_X6_needProvisionOrTop : GoodIn wsX6_enact (wsV RX6 103 RX6 yX6_needProvisionOrTop wsX6_needProvisionOrTop) := goodIn_app (goodIn_of _ (by decide +kernel)) ggX6_enact_X6_needProvisionOrTop
set_option maxRecDepth 20000 in
theorem ggX6_enact_X6_needLabel : GoodIn wsX6_enact wsX6_needLabel := goodIn_ca (goodIn_r _ [24, 25, 26] (by decide +kernel) (by decide +kernel)) (goodIn_sub (fun _ h => List.mem_cons_of_mem _ (List.mem_append_right _ h)) (by decide +kernel))
set_option maxRecDepth 20000 in
theorem gX6_enact_X6_needLabel : GoodIn wsX6_enact (va_wsS RX6 106 yX6_needLabel wsX6_needLabel) := goodIn_app (goodIn_of _ (by decide +kernel)) ggX6_enact_X6_needLabel
set_option maxRecDepth 20000 in
theorem ggX6_enact_X6_needRoomInAct : GoodIn wsX6_enact wsX6_needRoomInAct := goodIn_ca (goodIn_r _ [30, 1, 2, 31, 32, 10, 33, 34, 35, 36, 37, 38, 352, 353, 354, 355, 356, 357, 358, 359, 375, 376, 377] (by decide +kernel) (by decide +kernel)) (goodIn_sub (fun _ h => List.mem_cons_of_mem _ (List.mem_append_left _ (List.mem_append_left _ (List.mem_append_right _ h)))) (by decide +kernel))
set_option maxRecDepth 20000 in
theorem gX6_enact_X6_needRoomInAct : GoodIn wsX6_enact (wsV RX6 110 RX6 yX6_needRoomInAct wsX6_needRoomInAct) := goodIn_app (goodIn_of _ (by decide +kernel)) ggX6_enact_X6_needRoomInAct
set_option maxRecDepth 20000 in
theorem ggX6_enact_X6_joinLabel : GoodIn wsX6_enact wsX6_joinLabel := goodIn_r _ [41] (by decide +kernel) (by decide +kernel)
set_option maxRecDepth 20000 in
theorem gX6_enact_X6_joinLabel : GoodIn wsX6_enact (va_wsS RX6 120 yX6_joinLabel wsX6_joinLabel) := goodIn_app (goodIn_of _ (by decide +kernel)) ggX6_enact_X6_joinLabel
set_option maxRecDepth 20000 in
theorem ggX6_enact_X6_add : GoodIn wsX6_enact wsX6_add := goodIn_r _ [45, 4, 10, 46, 47, 48, 32, 49, 50, 51, 52, 53, 54, 55, 33, 34, 35, 36, 37, 38, 56, 57, 58, 59, 60, 61, 62, 63, 64, 65, 66, 67, 68, 69, 70, 71, 72, 73, 74, 75, 76, 77, 78, 79, 80, 81, 82, 83, 84, 85, 86, 87, 88, 89, 90, 91, 92, 93, 94, 95, 96, 97, 98, 99, 100, 101, 102, 103, 104, 105, 106, 107, 108, 109, 110, 111, 112, 113, 114, 115, 116, 117, 118, 119, 120, 121, 122, 123, 124, 125, 126, 127, 128, 129, 130, 131, 132, 133, 134, 135, 136, 137, 138, 139, 140, 141, 142, 143, 144, 145, 146, 352, 353, 354, 355, 356, 357, 358, 359, 360, 361, 362, 363, 364, 365, 366, 367, 368, 369, 370, 371, 372, 375, 376, 377, 373, 374, 378, 379, 380] (by decide +kernel) (by decide +kernel)
set_option maxRecDepth 20000 in
theorem gX6_enact_X6_add : GoodIn wsX6_enact (wsV RX6 127 RX6 yX6_add wsX6_add) := goodIn_app (goodIn_of _ (by decide +kernel)) ggX6_enact_X6_add
set_option maxRecDepth 20000 in
theorem ggX6_enact_X5_build : GoodIn wsX6_enact wsX5_build := goodIn_r _ [151, 152, 153, 154, 155, 156, 157, 158, 159, 150, 160, 161, 162, 163, 164, 165, 166, 167, 36, 168, 60, 61, 62, 38, 169, 34, 35, 37, 170, 171, 172, 173, 174, 175, 176, 177, 178, 179, 180, 181, 182, 183, 184, 185, 186, 187, 188, 189, 190, 191, 192, 193, 194, 195, 196, 197, 198, 199, 130, 200, 144, 201, 202, 203, 204, 205, 206, 207, 208, 209, 210, 211, 212, 213, 214, 215, 216, 217, 218, 219, 220, 221, 222, 223, 224, 225, 226, 227, 228, 229, 230, 231, 145, 146, 232, 233, 234, 235, 236, 237, 238, 239, 240, 241, 107, 108, 109, 242, 243, 244, 245, 67, 68, 69, 70, 71, 72, 73, 74, 75, 76, 77, 78, 79, 80, 81, 82, 83, 84, 85, 86, 87, 88, 89, 90, 91, 92, 93, 94, 95, 96, 97, 98, 99, 100, 101, 102, 103, 104, 105, 106, 246, 247, 248, 249, 250, 251, 252, 253, 254, 255, 256, 257, 258, 259, 260, 261, 262, 263, 264, 265, 266, 267, 268, 269, 270, 271, 272, 273, 274, 275, 276, 277, 278, 279, 280, 281, 282, 283, 284, 285, 286, 287, 288, 289, 290, 291, 292, 293, 294, 295, 296, 297, 298, 299, 300, 301, 302, 303, 304, 305, 306, 307, 308, 309, 310, 311, 312, 313, 314, 315, 316, 317, 318, 319, 320, 321, 322, 323, 324, 325, 326, 327, 328, 329, 330, 331, 332, 333, 334, 335, 336, 337, 338, 339, 340, 341, 342, 343, 344, 345, 346, 347, 348, 349, 350, 351, 381, 382, 383, 384, 385, 386, 387, 388, 389, 390, 391, 392, 393, 360, 361, 362, 363, 364, 365, 366, 367, 368, 369, 370, 371, 372, 375, 376, 377, 394, 395, 396, 397, 378, 379, 380, 398, 399, 400, 373, 374] (by decide +kernel) (by decide +kernel)
set_option maxRecDepth 20000 in
theorem gX6_enact_X5_build : GoodIn wsX6_enact (wsV RX6 130 RX5 yX5_build wsX5_build) := goodIn_app (goodIn_of _ (by decide +kernel)) ggX6_enact_X5_build
theorem dX6_enact_0 : decode cX6_enact 0 = .ok (.aload_n 0, 1) := by decide +kernel
theorem dX6_enact_1 : decode cX6_enact 1 = .ok (.iload_n 1, 1) := by decide +kernel
theorem dX6_enact_2 : decode cX6_enact 2 = .ok (.invokevirtual 103, 3) := by decide +kernel
theorem dX6_enact_5 : decode cX6_enact 5 = .ok (.iload_n 2, 1) := by decide +kernel
theorem dX6_enact_6 : decode cX6_enact 6 = .ok (.iload_n 3, 1) := by decide +kernel
theorem dX6_enact_7 : decode cX6_enact 7 = .ok (.invokestatic 106, 3) := by decide +kernel
theorem dX6_enact_10 : decode cX6_enact 10 = .ok (.aload_n 0, 1) := by decide +kernel
theorem dX6_enact_11 : decode cX6_enact 11 = .ok (.invokevirtual 110, 3) := by decide +kernel
theorem dX6_enact_14 : decode cX6_enact 14 = .ok (.aload_n 0, 1) := by decide +kernel
theorem dX6_enact_15 : decode cX6_enact 15 = .ok (.getfield 50, 3) := by decide +kernel
theorem dX6_enact_18 : decode cX6_enact 18 = .ok (.bipush 20, 2) := by decide +kernel
theorem dX6_enact_20 : decode cX6_enact 20 = .ok (.if_icmp .lt 13, 3) := by decide +kernel
theorem dX6_enact_23 : decode cX6_enact 23 = .ok (.new 60, 3) := by decide +kernel
