theorem dX5_cross_16 : decode cX5_cross 16 = .ok (.ldc 145, 2) := by decide +kernel
theorem dX5_cross_18 : decode cX5_cross 18 = .ok (.ireturn, 1) := by decide +kernel
theorem dX5_cross_19 : decode cX5_cross 19 = .ok (.aload_n 0, 1) := by decide +kernel
theorem dX5_cross_20 : decode cX5_cross 20 = .ok (.iload_n 1, 1) := by decide +kernel
theorem dX5_cross_21 : decode cX5_cross 21 = .ok (.invokevirtual 177, 3) := by decide +kernel
theorem dX5_cross_24 : decode cX5_cross 24 = .ok (.ifCond .eq 20, 3) := by decide +kernel
theorem dX5_cross_27 : decode cX5_cross 27 = .ok (.aload_n 0, 1) := by decide +kernel
theorem dX5_cross_28 : decode cX5_cross 28 = .ok (.iload_n 2, 1) := by decide +kernel
theorem dX5_cross_29 : decode cX5_cross 29 = .ok (.invokevirtual 177, 3) := by decide +kernel
theorem dX5_cross_32 : decode cX5_cross 32 = .ok (.ifCond .eq 12, 3) := by decide +kernel
theorem dX5_cross_35 : decode cX5_cross 35 = .ok (.aload_n 0, 1) := by decide +kernel
theorem dX5_cross_36 : decode cX5_cross 36 = .ok (.iload_n 1, 1) := by decide +kernel
theorem dX5_cross_37 : decode cX5_cross 37 = .ok (.iload_n 2, 1) := by decide +kernel
theorem dX5_cross_38 : decode cX5_cross 38 = .ok (.invokevirtual 196, 3) := by decide +kernel
theorem dX5_cross_41 : decode cX5_cross 41 = .ok (.goto 5, 3) := by decide +kernel
theorem dX5_cross_44 : decode cX5_cross 44 = .ok (.ldc 78, 2) := by decide +kernel
theorem dX5_cross_46 : decode cX5_cross 46 = .ok (.ireturn, 1) := by decide +kernel
theorem dX5_put_0 : decode cX5_put 0 = .ok (.iconst 0, 1) := by decide +kernel
theorem dX5_put_1 : decode cX5_put 1 = .ok (.istore_n 3, 1) := by decide +kernel
theorem dX5_put_2 : decode cX5_put 2 = .ok (.iload_n 3, 1) := by decide +kernel
theorem dX5_put_3 : decode cX5_put 3 = .ok (.aload_n 0, 1) := by decide +kernel
theorem dX5_put_4 : decode cX5_put 4 = .ok (.getfield 85, 3) := by decide +kernel
theorem dX5_put_7 : decode cX5_put 7 = .ok (.if_icmp .ge 33, 3) := by decide +kernel
theorem dX5_put_10 : decode cX5_put 10 = .ok (.aload_n 0, 1) := by decide +kernel
theorem dX5_put_11 : decode cX5_put 11 = .ok (.getfield 16, 3) := by decide +kernel
theorem dX5_put_14 : decode cX5_put 14 = .ok (.bipush 20, 2) := by decide +kernel
theorem dX5_put_16 : decode cX5_put 16 = .ok (.iload_n 1, 1) := by decide +kernel
theorem dX5_put_17 : decode cX5_put 17 = .ok (.imul, 1) := by decide +kernel
theorem dX5_put_18 : decode cX5_put 18 = .ok (.iload_n 3, 1) := by decide +kernel
theorem dX5_put_19 : decode cX5_put 19 = .ok (.iadd, 1) := by decide +kernel
theorem dX5_put_20 : decode cX5_put 20 = .ok (.aload_n 0, 1) := by decide +kernel
theorem dX5_put_21 : decode cX5_put 21 = .ok (.getfield 40, 3) := by decide +kernel
theorem dX5_put_24 : decode cX5_put 24 = .ok (.iload_n 3, 1) := by decide +kernel
theorem dX5_put_25 : decode cX5_put 25 = .ok (.iload_n 2, 1) := by decide +kernel
theorem dX5_put_26 : decode cX5_put 26 = .ok (.iadd, 1) := by decide +kernel
theorem dX5_put_27 : decode cX5_put 27 = .ok (.aload_n 0, 1) := by decide +kernel
theorem dX5_put_28 : decode cX5_put 28 = .ok (.getfield 85, 3) := by decide +kernel
theorem dX5_put_31 : decode cX5_put 31 = .ok (.irem, 1) := by decide +kernel
theorem dX5_put_32 : decode cX5_put 32 = .ok (.iaload, 1) := by decide +kernel
theorem dX5_put_33 : decode cX5_put 33 = .ok (.iastore, 1) := by decide +kernel
theorem dX5_put_34 : decode cX5_put 34 = .ok (.iinc 3 1, 3) := by decide +kernel
theorem dX5_put_37 : decode cX5_put 37 = .ok (.goto (-35), 3) := by decide +kernel
theorem dX5_put_40 : decode cX5_put 40 = .ok (.return_, 1) := by decide +kernel
set_option maxRecDepth 20000 in
theorem ggX5_turn_X5_isRoad : GoodIn wsX5_turn wsX5_isRoad := goodIn_r _ [8, 9, 10, 11, 7, 12, 32, 33, 34, 35, 36, 37, 38, 39, 40, 41, 42, 43, 44, 45, 46, 47, 48, 49, 50, 51, 52, 53, 54, 55, 56, 57, 58, 59, 60, 61, 62, 63, 64, 65, 66] (by decide +kernel) (by decide +kernel)
set_option maxRecDepth 20000 in
theorem gX5_turn_X5_isRoad : GoodIn wsX5_turn (wsV RX5 142 RX5 yX5_isRoad wsX5_isRoad) := goodIn_app (goodIn_of _ (by decide +kernel)) ggX5_turn_X5_isRoad
set_option maxRecDepth 20000 in
theorem ggX5_turn_X5_within : GoodIn wsX5_turn wsX5_within := goodIn_r _ [12] (by decide +kernel) (by decide +kernel)
set_option maxRecDepth 20000 in
theorem gX5_turn_X5_within : GoodIn wsX5_turn (va_wsS RX5 50 yX5_within wsX5_within) := goodIn_app (goodIn_of _ (by decide +kernel)) ggX5_turn_X5_within
set_option maxRecDepth 20000 in
theorem ggX5_turn_X5_look : GoodIn wsX5_turn wsX5_look := goodIn_r _ [16, 2, 17, 18, 19, 32, 33, 34, 35, 36, 37, 38, 39, 40, 41, 42, 43, 44, 45, 46, 47, 48, 49, 50, 51, 52, 53, 54, 55, 56, 57, 58, 59, 60, 61, 62, 63, 64, 65, 66] (by decide +kernel) (by decide +kernel)
set_option maxRecDepth 20000 in
theorem gX5_turn_X5_look : GoodIn wsX5_turn (wsV RX5 91 RX5 yX5_look wsX5_look) := goodIn_app (goodIn_of _ (by decide +kernel)) ggX5_turn_X5_look
set_option maxRecDepth 20000 in
theorem ggX5_turn_X5_put : GoodIn wsX5_turn wsX5_put := goodIn_r _ [23, 17, 19, 18, 32, 33, 34, 35, 36, 37, 38, 39, 40, 41, 42, 43, 44, 45, 46, 47, 48, 49, 50, 51, 52, 53, 54, 55, 56, 57, 58, 59, 60, 61, 62, 63, 64, 65, 66] (by decide +kernel) (by decide +kernel)
set_option maxRecDepth 20000 in
theorem gX5_turn_X5_put : GoodIn wsX5_turn (wsV RX5 199 RX5 yX5_put wsX5_put) := goodIn_app (goodIn_of _ (by decide +kernel)) ggX5_turn_X5_put
set_option maxRecDepth 20000 in
theorem ggX5_turn_X5_periodNow : GoodIn wsX5_turn wsX5_periodNow := goodIn_r _ [27, 17, 28, 29, 30, 7, 31, 18, 32, 33, 34, 35, 36, 37, 38, 39, 40, 41, 42, 43, 44, 45, 46, 47, 48, 49, 50, 51, 52, 53, 54, 55, 56, 57, 58, 59, 60, 61, 62, 63, 64, 65, 66] (by decide +kernel) (by decide +kernel)
set_option maxRecDepth 20000 in
theorem gX5_turn_X5_periodNow : GoodIn wsX5_turn (wsV RX5 129 RX5 yX5_periodNow wsX5_periodNow) := goodIn_app (goodIn_of _ (by decide +kernel)) ggX5_turn_X5_periodNow
theorem dX5_turn_0 : decode cX5_turn 0 = .ok (.aload_n 0, 1) := by decide +kernel
theorem dX5_turn_1 : decode cX5_turn 1 = .ok (.iload_n 1, 1) := by decide +kernel
theorem dX5_turn_2 : decode cX5_turn 2 = .ok (.invokevirtual 142, 3) := by decide +kernel
theorem dX5_turn_5 : decode cX5_turn 5 = .ok (.ifCond .ne 6, 3) := by decide +kernel
theorem dX5_turn_8 : decode cX5_turn 8 = .ok (.ldc 145, 2) := by decide +kernel
theorem dX5_turn_10 : decode cX5_turn 10 = .ok (.ireturn, 1) := by decide +kernel
theorem dX5_turn_11 : decode cX5_turn 11 = .ok (.iload_n 2, 1) := by decide +kernel
theorem dX5_turn_12 : decode cX5_turn 12 = .ok (.iconst 0, 1) := by decide +kernel
theorem dX5_turn_13 : decode cX5_turn 13 = .ok (.aload_n 0, 1) := by decide +kernel
theorem dX5_turn_14 : decode cX5_turn 14 = .ok (.getfield 13, 3) := by decide +kernel
theorem dX5_turn_17 : decode cX5_turn 17 = .ok (.iload_n 1, 1) := by decide +kernel
theorem dX5_turn_18 : decode cX5_turn 18 = .ok (.iaload, 1) := by decide +kernel
theorem dX5_turn_19 : decode cX5_turn 19 = .ok (.iconst 1, 1) := by decide +kernel
theorem dX5_turn_20 : decode cX5_turn 20 = .ok (.isub, 1) := by decide +kernel
theorem dX5_turn_21 : decode cX5_turn 21 = .ok (.invokestatic 50, 3) := by decide +kernel
theorem dX5_turn_24 : decode cX5_turn 24 = .ok (.ifCond .ne 6, 3) := by decide +kernel
theorem dX5_turn_27 : decode cX5_turn 27 = .ok (.ldc 54, 2) := by decide +kernel
theorem dX5_turn_29 : decode cX5_turn 29 = .ok (.ireturn, 1) := by decide +kernel
theorem dX5_turn_30 : decode cX5_turn 30 = .ok (.aload_n 0, 1) := by decide +kernel
theorem dX5_turn_31 : decode cX5_turn 31 = .ok (.iload_n 1, 1) := by decide +kernel
theorem dX5_turn_32 : decode cX5_turn 32 = .ok (.invokevirtual 91, 3) := by decide +kernel
theorem dX5_turn_35 : decode cX5_turn 35 = .ok (.aload_n 0, 1) := by decide +kernel
theorem dX5_turn_36 : decode cX5_turn 36 = .ok (.iload_n 1, 1) := by decide +kernel
theorem dX5_turn_37 : decode cX5_turn 37 = .ok (.iload_n 2, 1) := by decide +kernel
theorem dX5_turn_38 : decode cX5_turn 38 = .ok (.invokevirtual 199, 3) := by decide +kernel
theorem dX5_turn_41 : decode cX5_turn 41 = .ok (.aload_n 0, 1) := by decide +kernel
theorem dX5_turn_42 : decode cX5_turn 42 = .ok (.invokevirtual 129, 3) := by decide +kernel
theorem dX5_turn_45 : decode cX5_turn 45 = .ok (.ireturn, 1) := by decide +kernel
set_option maxRecDepth 20000 in
theorem ggX5_change_X5_isRoad : GoodIn wsX5_change wsX5_isRoad := goodIn_r _ [10, 11, 12, 13, 9, 14, 50, 51, 52, 53, 54, 55, 56, 57, 58, 59, 60, 61, 62, 63, 64, 65, 66, 67, 68, 69, 70, 71, 72, 73, 74, 75, 76, 77, 78, 79, 80, 81, 82, 83, 84] (by decide +kernel) (by decide +kernel)
set_option maxRecDepth 20000 in
theorem gX5_change_X5_isRoad : GoodIn wsX5_change (wsV RX5 142 RX5 yX5_isRoad wsX5_isRoad) := goodIn_app (goodIn_of _ (by decide +kernel)) ggX5_change_X5_isRoad
set_option maxRecDepth 20000 in
theorem ggX5_change_X5_within : GoodIn wsX5_change wsX5_within := goodIn_r _ [14] (by decide +kernel) (by decide +kernel)
set_option maxRecDepth 20000 in
theorem gX5_change_X5_within : GoodIn wsX5_change (va_wsS RX5 50 yX5_within wsX5_within) := goodIn_app (goodIn_of _ (by decide +kernel)) ggX5_change_X5_within
set_option maxRecDepth 20000 in
theorem ggX5_change_X5_look : GoodIn wsX5_change wsX5_look := goodIn_r _ [18, 19, 3, 20, 4, 50, 51, 52, 53, 54, 55, 56, 57, 58, 59, 60, 61, 62, 63, 64, 65, 66, 67, 68, 69, 70, 71, 72, 73, 74, 75, 76, 77, 78, 79, 80, 81, 82, 83, 84] (by decide +kernel) (by decide +kernel)
set_option maxRecDepth 20000 in
theorem gX5_change_X5_look : GoodIn wsX5_change (wsV RX5 91 RX5 yX5_look wsX5_look) := goodIn_app (goodIn_of _ (by decide +kernel)) ggX5_change_X5_look
set_option maxRecDepth 20000 in
theorem ggX5_change_X5_leastTurnNow : GoodIn wsX5_change wsX5_leastTurnNow := goodIn_r _ [24, 3, 25, 26, 27, 9, 28, 20, 50, 51, 52, 53, 54, 55, 56, 57, 58, 59, 60, 61, 62, 63, 64, 65, 66, 67, 68, 69, 70, 71, 72, 73, 74, 75, 76, 77, 78, 79, 80, 81, 82, 83, 84] (by decide +kernel) (by decide +kernel)
set_option maxRecDepth 20000 in
theorem gX5_change_X5_leastTurnNow : GoodIn wsX5_change (wsV RX5 132 RX5 yX5_leastTurnNow wsX5_leastTurnNow) := goodIn_app (goodIn_of _ (by decide +kernel)) ggX5_change_X5_leastTurnNow
set_option maxRecDepth 20000 in
theorem ggX5_change_X5_put : GoodIn wsX5_change wsX5_put := goodIn_r _ [32, 3, 4, 20, 50, 51, 52, 53, 54, 55, 56, 57, 58, 59, 60, 61, 62, 63, 64, 65, 66, 67, 68, 69, 70, 71, 72, 73, 74, 75, 76, 77, 78, 79, 80, 81, 82, 83, 84] (by decide +kernel) (by decide +kernel)
set_option maxRecDepth 20000 in
theorem gX5_change_X5_put : GoodIn wsX5_change (wsV RX5 199 RX5 yX5_put wsX5_put) := goodIn_app (goodIn_of _ (by decide +kernel)) ggX5_change_X5_put
set_option maxRecDepth 20000 in
theorem ggX5_change_X5_layOther : GoodIn wsX5_change wsX5_layOther := goodIn_r _ [36, 3, 37, 20, 5, 50, 51, 52, 53, 54, 55, 56, 57, 58, 59, 60, 61, 62, 63, 64, 65, 66, 67, 68, 69, 70, 71, 72, 73, 74, 75, 76, 77, 78, 79, 80, 81, 82, 83, 84] (by decide +kernel) (by decide +kernel)
set_option maxRecDepth 20000 in
theorem gX5_change_X5_layOther : GoodIn wsX5_change (wsV RX5 107 RX5 yX5_layOther wsX5_layOther) := goodIn_app (goodIn_of _ (by decide +kernel)) ggX5_change_X5_layOther
set_option maxRecDepth 20000 in
theorem ggX5_change_X5_traceNow : GoodIn wsX5_change wsX5_traceNow := goodIn_r _ [41, 42, 43, 44, 45, 46, 9, 47, 48, 49, 3, 20, 50, 51, 52, 53, 54, 55, 56, 57, 58, 59, 60, 61, 62, 63, 64, 65, 66, 67, 68, 69, 70, 71, 72, 73, 74, 75, 76, 77, 78, 79, 80, 81, 82, 83, 84] (by decide +kernel) (by decide +kernel)
set_option maxRecDepth 20000 in
theorem gX5_change_X5_traceNow : GoodIn wsX5_change (wsV RX5 135 RX5 yX5_traceNow wsX5_traceNow) := goodIn_app (goodIn_of _ (by decide +kernel)) ggX5_change_X5_traceNow
theorem dX5_change_0 : decode cX5_change 0 = .ok (.aload_n 0, 1) := by decide +kernel
theorem dX5_change_1 : decode cX5_change 1 = .ok (.iload_n 1, 1) := by decide +kernel
theorem dX5_change_2 : decode cX5_change 2 = .ok (.invokevirtual 142, 3) := by decide +kernel
theorem dX5_change_5 : decode cX5_change 5 = .ok (.ifCond .ne 6, 3) := by decide +kernel
theorem dX5_change_8 : decode cX5_change 8 = .ok (.ldc 145, 2) := by decide +kernel
theorem dX5_change_10 : decode cX5_change 10 = .ok (.ireturn, 1) := by decide +kernel
theorem dX5_change_11 : decode cX5_change 11 = .ok (.iload_n 2, 1) := by decide +kernel
theorem dX5_change_12 : decode cX5_change 12 = .ok (.iconst 0, 1) := by decide +kernel
theorem dX5_change_13 : decode cX5_change 13 = .ok (.iconst 2, 1) := by decide +kernel
theorem dX5_change_14 : decode cX5_change 14 = .ok (.invokestatic 50, 3) := by decide +kernel
theorem dX5_change_17 : decode cX5_change 17 = .ok (.ifCond .ne 6, 3) := by decide +kernel
theorem dX5_change_20 : decode cX5_change 20 = .ok (.ldc 54, 2) := by decide +kernel
theorem dX5_change_22 : decode cX5_change 22 = .ok (.ireturn, 1) := by decide +kernel
theorem dX5_change_23 : decode cX5_change 23 = .ok (.aload_n 0, 1) := by decide +kernel
theorem dX5_change_24 : decode cX5_change 24 = .ok (.iload_n 1, 1) := by decide +kernel
theorem dX5_change_25 : decode cX5_change 25 = .ok (.invokevirtual 91, 3) := by decide +kernel
theorem dX5_change_28 : decode cX5_change 28 = .ok (.iload_n 2, 1) := by decide +kernel
theorem dX5_change_29 : decode cX5_change 29 = .ok (.iconst 2, 1) := by decide +kernel
theorem dX5_change_30 : decode cX5_change 30 = .ok (.if_icmp .ne 15, 3) := by decide +kernel
theorem dX5_change_33 : decode cX5_change 33 = .ok (.aload_n 0, 1) := by decide +kernel
theorem dX5_change_34 : decode cX5_change 34 = .ok (.iload_n 1, 1) := by decide +kernel
theorem dX5_change_35 : decode cX5_change 35 = .ok (.aload_n 0, 1) := by decide +kernel
theorem dX5_change_36 : decode cX5_change 36 = .ok (.invokevirtual 132, 3) := by decide +kernel
theorem dX5_change_39 : decode cX5_change 39 = .ok (.invokevirtual 199, 3) := by decide +kernel
theorem dX5_change_42 : decode cX5_change 42 = .ok (.goto 59, 3) := by decide +kernel
theorem dX5_change_45 : decode cX5_change 45 = .ok (.aload_n 0, 1) := by decide +kernel
theorem dX5_change_46 : decode cX5_change 46 = .ok (.iload_n 2, 1) := by decide +kernel
theorem dX5_change_47 : decode cX5_change 47 = .ok (.ifCond .ne 7, 3) := by decide +kernel
theorem dX5_change_50 : decode cX5_change 50 = .ok (.iconst 1, 1) := by decide +kernel
theorem dX5_change_51 : decode cX5_change 51 = .ok (.goto 4, 3) := by decide +kernel
theorem dX5_change_54 : decode cX5_change 54 = .ok (.iconst 0, 1) := by decide +kernel
theorem dX5_change_55 : decode cX5_change 55 = .ok (.iload_n 2, 1) := by decide +kernel
theorem dX5_change_56 : decode cX5_change 56 = .ok (.iconst 1, 1) := by decide +kernel
theorem dX5_change_57 : decode cX5_change 57 = .ok (.if_icmp .ne 7, 3) := by decide +kernel
theorem dX5_change_60 : decode cX5_change 60 = .ok (.iconst 1, 1) := by decide +kernel
theorem dX5_change_61 : decode cX5_change 61 = .ok (.goto 4, 3) := by decide +kernel
theorem dX5_change_64 : decode cX5_change 64 = .ok (.iconst 0, 1) := by decide +kernel
theorem dX5_change_65 : decode cX5_change 65 = .ok (.invokevirtual 107, 3) := by decide +kernel
theorem dX5_change_68 : decode cX5_change 68 = .ok (.iconst 0, 1) := by decide +kernel
theorem dX5_change_69 : decode cX5_change 69 = .ok (.istore_n 3, 1) := by decide +kernel
theorem dX5_change_70 : decode cX5_change 70 = .ok (.iload_n 3, 1) := by decide +kernel
theorem dX5_change_71 : decode cX5_change 71 = .ok (.aload_n 0, 1) := by decide +kernel
theorem dX5_change_72 : decode cX5_change 72 = .ok (.getfield 85, 3) := by decide +kernel
theorem dX5_change_75 : decode cX5_change 75 = .ok (.if_icmp .ge 26, 3) := by decide +kernel
theorem dX5_change_78 : decode cX5_change 78 = .ok (.aload_n 0, 1) := by decide +kernel
theorem dX5_change_79 : decode cX5_change 79 = .ok (.getfield 16, 3) := by decide +kernel
theorem dX5_change_82 : decode cX5_change 82 = .ok (.bipush 20, 2) := by decide +kernel
theorem dX5_change_84 : decode cX5_change 84 = .ok (.iload_n 1, 1) := by decide +kernel
theorem dX5_change_85 : decode cX5_change 85 = .ok (.imul, 1) := by decide +kernel
theorem dX5_change_86 : decode cX5_change 86 = .ok (.iload_n 3, 1) := by decide +kernel
theorem dX5_change_87 : decode cX5_change 87 = .ok (.iadd, 1) := by decide +kernel
theorem dX5_change_88 : decode cX5_change 88 = .ok (.aload_n 0, 1) := by decide +kernel
theorem dX5_change_89 : decode cX5_change 89 = .ok (.getfield 43, 3) := by decide +kernel
theorem dX5_change_92 : decode cX5_change 92 = .ok (.iload_n 3, 1) := by decide +kernel
theorem dX5_change_93 : decode cX5_change 93 = .ok (.iaload, 1) := by decide +kernel
theorem dX5_change_94 : decode cX5_change 94 = .ok (.iastore, 1) := by decide +kernel
theorem dX5_change_95 : decode cX5_change 95 = .ok (.iinc 3 1, 3) := by decide +kernel
theorem dX5_change_98 : decode cX5_change 98 = .ok (.goto (-28), 3) := by decide +kernel
theorem dX5_change_101 : decode cX5_change 101 = .ok (.aload_n 0, 1) := by decide +kernel
theorem dX5_change_102 : decode cX5_change 102 = .ok (.iload_n 1, 1) := by decide +kernel
theorem dX5_change_103 : decode cX5_change 103 = .ok (.invokevirtual 91, 3) := by decide +kernel
theorem dX5_change_106 : decode cX5_change 106 = .ok (.aload_n 0, 1) := by decide +kernel
theorem dX5_change_107 : decode cX5_change 107 = .ok (.invokevirtual 135, 3) := by decide +kernel
theorem dX5_change_110 : decode cX5_change 110 = .ok (.ireturn, 1) := by decide +kernel
theorem dX5_addRoad_0 : decode cX5_addRoad 0 = .ok (.iconst 0, 1) := by decide +kernel
theorem dX5_addRoad_1 : decode cX5_addRoad 1 = .ok (.istore_n 2, 1) := by decide +kernel
theorem dX5_addRoad_2 : decode cX5_addRoad 2 = .ok (.iload_n 2, 1) := by decide +kernel
theorem dX5_addRoad_3 : decode cX5_addRoad 3 = .ok (.aload_n 0, 1) := by decide +kernel
theorem dX5_addRoad_4 : decode cX5_addRoad 4 = .ok (.getfield 13, 3) := by decide +kernel
theorem dX5_addRoad_7 : decode cX5_addRoad 7 = .ok (.iload_n 1, 1) := by decide +kernel
theorem dX5_addRoad_8 : decode cX5_addRoad 8 = .ok (.iaload, 1) := by decide +kernel
theorem dX5_addRoad_9 : decode cX5_addRoad 9 = .ok (.if_icmp .ge 39, 3) := by decide +kernel
theorem dX5_addRoad_12 : decode cX5_addRoad 12 = .ok (.aload_n 0, 1) := by decide +kernel
theorem dX5_addRoad_13 : decode cX5_addRoad 13 = .ok (.getfield 37, 3) := by decide +kernel
theorem dX5_addRoad_16 : decode cX5_addRoad 16 = .ok (.aload_n 0, 1) := by decide +kernel
theorem dX5_addRoad_17 : decode cX5_addRoad 17 = .ok (.getfield 60, 3) := by decide +kernel
theorem dX5_addRoad_20 : decode cX5_addRoad 20 = .ok (.aload_n 0, 1) := by decide +kernel
theorem dX5_addRoad_21 : decode cX5_addRoad 21 = .ok (.getfield 16, 3) := by decide +kernel
theorem dX5_addRoad_24 : decode cX5_addRoad 24 = .ok (.bipush 20, 2) := by decide +kernel
theorem dX5_addRoad_26 : decode cX5_addRoad 26 = .ok (.iload_n 1, 1) := by decide +kernel
theorem dX5_addRoad_27 : decode cX5_addRoad 27 = .ok (.imul, 1) := by decide +kernel
theorem dX5_addRoad_28 : decode cX5_addRoad 28 = .ok (.iload_n 2, 1) := by decide +kernel
theorem dX5_addRoad_29 : decode cX5_addRoad 29 = .ok (.iadd, 1) := by decide +kernel
theorem dX5_addRoad_30 : decode cX5_addRoad 30 = .ok (.iaload, 1) := by decide +kernel
theorem dX5_addRoad_31 : decode cX5_addRoad 31 = .ok (.iastore, 1) := by decide +kernel
theorem dX5_addRoad_32 : decode cX5_addRoad 32 = .ok (.aload_n 0, 1) := by decide +kernel
theorem dX5_addRoad_33 : decode cX5_addRoad 33 = .ok (.dup, 1) := by decide +kernel
theorem dX5_addRoad_34 : decode cX5_addRoad 34 = .ok (.getfield 60, 3) := by decide +kernel
theorem dX5_addRoad_37 : decode cX5_addRoad 37 = .ok (.iconst 1, 1) := by decide +kernel
theorem dX5_addRoad_38 : decode cX5_addRoad 38 = .ok (.iadd, 1) := by decide +kernel
theorem dX5_addRoad_39 : decode cX5_addRoad 39 = .ok (.putfield 60, 3) := by decide +kernel
theorem dX5_addRoad_42 : decode cX5_addRoad 42 = .ok (.iinc 2 1, 3) := by decide +kernel
theorem dX5_addRoad_45 : decode cX5_addRoad 45 = .ok (.goto (-43), 3) := by decide +kernel
theorem dX5_addRoad_48 : decode cX5_addRoad 48 = .ok (.return_, 1) := by decide +kernel
set_option maxRecDepth 20000 in
theorem ggX5_join_X5_isRoad : GoodIn wsX5_join wsX5_isRoad := goodIn_r _ [11, 4, 12, 13, 10, 14, 25, 26, 27, 28, 29, 30, 31, 32, 33, 34, 35, 36, 37, 38, 39, 40, 41, 42, 43, 44, 45, 46, 47, 48, 49, 50, 51, 52, 53, 54, 55, 56, 57, 58, 59] (by decide +kernel) (by decide +kernel)
set_option maxRecDepth 20000 in
theorem gX5_join_X5_isRoad : GoodIn wsX5_join (wsV RX5 142 RX5 yX5_isRoad wsX5_isRoad) := goodIn_app (goodIn_of _ (by decide +kernel)) ggX5_join_X5_isRoad
set_option maxRecDepth 20000 in
theorem ggX5_join_X5_addRoad : GoodIn wsX5_join wsX5_addRoad := goodIn_r _ [18, 2, 19, 6, 20, 25, 26, 27, 28, 29, 30, 31, 32, 33, 34, 35, 36, 37, 38, 39, 40, 41, 42, 43, 44, 45, 46, 47, 48, 49, 50, 51, 52, 53, 54, 55, 56, 57, 58, 59] (by decide +kernel) (by decide +kernel)
set_option maxRecDepth 20000 in
theorem gX5_join_X5_addRoad : GoodIn wsX5_join (wsV RX5 203 RX5 yX5_addRoad wsX5_addRoad) := goodIn_app (goodIn_of _ (by decide +kernel)) ggX5_join_X5_addRoad
set_option maxRecDepth 20000 in
theorem ggX5_join_X5_keepNew : GoodIn wsX5_join wsX5_keepNew := goodIn_r _ [24, 2, 4, 6, 20, 19, 25, 26, 27, 28, 29, 30, 31, 32, 33, 34, 35, 36, 37, 38, 39, 40, 41, 42, 43, 44, 45, 46, 47, 48, 49, 50, 51, 52, 53, 54, 55, 56, 57, 58, 59] (by decide +kernel) (by decide +kernel)
set_option maxRecDepth 20000 in
theorem gX5_join_X5_keepNew : GoodIn wsX5_join (wsV RX5 82 RX5 yX5_keepNew wsX5_keepNew) := goodIn_app (goodIn_of _ (by decide +kernel)) ggX5_join_X5_keepNew
theorem dX5_join_0 : decode cX5_join 0 = .ok (.aload_n 0, 1) := by decide +kernel
theorem dX5_join_1 : decode cX5_join 1 = .ok (.iload_n 1, 1) := by decide +kernel
theorem dX5_join_2 : decode cX5_join 2 = .ok (.invokevirtual 142, 3) := by decide +kernel
theorem dX5_join_5 : decode cX5_join 5 = .ok (.ifCond .eq 11, 3) := by decide +kernel
theorem dX5_join_8 : decode cX5_join 8 = .ok (.aload_n 0, 1) := by decide +kernel
theorem dX5_join_9 : decode cX5_join 9 = .ok (.iload_n 2, 1) := by decide +kernel
theorem dX5_join_10 : decode cX5_join 10 = .ok (.invokevirtual 142, 3) := by decide +kernel
theorem dX5_join_13 : decode cX5_join 13 = .ok (.ifCond .ne 6, 3) := by decide +kernel
theorem dX5_join_16 : decode cX5_join 16 = .ok (.ldc 145, 2) := by decide +kernel
theorem dX5_join_18 : decode cX5_join 18 = .ok (.ireturn, 1) := by decide +kernel
theorem dX5_join_19 : decode cX5_join 19 = .ok (.aload_n 0, 1) := by decide +kernel
theorem dX5_join_20 : decode cX5_join 20 = .ok (.getfield 13, 3) := by decide +kernel
theorem dX5_join_23 : decode cX5_join 23 = .ok (.iload_n 1, 1) := by decide +kernel
theorem dX5_join_24 : decode cX5_join 24 = .ok (.iaload, 1) := by decide +kernel
theorem dX5_join_25 : decode cX5_join 25 = .ok (.aload_n 0, 1) := by decide +kernel
theorem dX5_join_26 : decode cX5_join 26 = .ok (.getfield 13, 3) := by decide +kernel
theorem dX5_join_29 : decode cX5_join 29 = .ok (.iload_n 2, 1) := by decide +kernel
theorem dX5_join_30 : decode cX5_join 30 = .ok (.iaload, 1) := by decide +kernel
theorem dX5_join_31 : decode cX5_join 31 = .ok (.iadd, 1) := by decide +kernel
theorem dX5_join_32 : decode cX5_join 32 = .ok (.bipush 20, 2) := by decide +kernel
theorem dX5_join_34 : decode cX5_join 34 = .ok (.if_icmp .le 6, 3) := by decide +kernel
theorem dX5_join_37 : decode cX5_join 37 = .ok (.ldc 78, 2) := by decide +kernel
theorem dX5_join_39 : decode cX5_join 39 = .ok (.ireturn, 1) := by decide +kernel
theorem dX5_join_40 : decode cX5_join 40 = .ok (.aload_n 0, 1) := by decide +kernel
theorem dX5_join_41 : decode cX5_join 41 = .ok (.getfield 75, 3) := by decide +kernel
theorem dX5_join_44 : decode cX5_join 44 = .ok (.bipush 6, 2) := by decide +kernel
theorem dX5_join_46 : decode cX5_join 46 = .ok (.if_icmp .ne 6, 3) := by decide +kernel
theorem dX5_join_49 : decode cX5_join 49 = .ok (.ldc 59, 2) := by decide +kernel
theorem dX5_join_51 : decode cX5_join 51 = .ok (.ireturn, 1) := by decide +kernel
theorem dX5_join_52 : decode cX5_join 52 = .ok (.aload_n 0, 1) := by decide +kernel
theorem dX5_join_53 : decode cX5_join 53 = .ok (.iconst 0, 1) := by decide +kernel
theorem dX5_join_54 : decode cX5_join 54 = .ok (.putfield 60, 3) := by decide +kernel
theorem dX5_join_57 : decode cX5_join 57 = .ok (.aload_n 0, 1) := by decide +kernel
theorem dX5_join_58 : decode cX5_join 58 = .ok (.iload_n 1, 1) := by decide +kernel
theorem dX5_join_59 : decode cX5_join 59 = .ok (.invokevirtual 203, 3) := by decide +kernel
theorem dX5_join_62 : decode cX5_join 62 = .ok (.aload_n 0, 1) := by decide +kernel
theorem dX5_join_63 : decode cX5_join 63 = .ok (.iload_n 2, 1) := by decide +kernel
theorem dX5_join_64 : decode cX5_join 64 = .ok (.invokevirtual 203, 3) := by decide +kernel
theorem dX5_join_67 : decode cX5_join 67 = .ok (.aload_n 0, 1) := by decide +kernel
theorem dX5_join_68 : decode cX5_join 68 = .ok (.invokevirtual 82, 3) := by decide +kernel
theorem dX5_join_71 : decode cX5_join 71 = .ok (.ireturn, 1) := by decide +kernel
set_option maxRecDepth 20000 in
theorem ggX5_times_X5_isRoad : GoodIn wsX5_times wsX5_isRoad := goodIn_r _ [12, 5, 13, 14, 11, 15, 26, 27, 28, 29, 30, 31, 32, 33, 34, 35, 36, 37, 38, 39, 40, 41, 42, 43, 44, 45, 46, 47, 48, 49, 50, 51, 52, 53, 54, 55, 56, 57, 58, 59, 60] (by decide +kernel) (by decide +kernel)
set_option maxRecDepth 20000 in
theorem gX5_times_X5_isRoad : GoodIn wsX5_times (wsV RX5 142 RX5 yX5_isRoad wsX5_isRoad) := goodIn_app (goodIn_of _ (by decide +kernel)) ggX5_times_X5_isRoad
set_option maxRecDepth 20000 in
theorem ggX5_times_X5_within : GoodIn wsX5_times wsX5_within := goodIn_r _ [15] (by decide +kernel) (by decide +kernel)
set_option maxRecDepth 20000 in
theorem gX5_times_X5_within : GoodIn wsX5_times (va_wsS RX5 50 yX5_within wsX5_within) := goodIn_app (goodIn_of _ (by decide +kernel)) ggX5_times_X5_within
set_option maxRecDepth 20000 in
theorem ggX5_times_X5_addRoad : GoodIn wsX5_times wsX5_addRoad := goodIn_r _ [19, 3, 20, 7, 21, 26, 27, 28, 29, 30, 31, 32, 33, 34, 35, 36, 37, 38, 39, 40, 41, 42, 43, 44, 45, 46, 47, 48, 49, 50, 51, 52, 53, 54, 55, 56, 57, 58, 59, 60] (by decide +kernel) (by decide +kernel)
set_option maxRecDepth 20000 in
theorem gX5_times_X5_addRoad : GoodIn wsX5_times (wsV RX5 203 RX5 yX5_addRoad wsX5_addRoad) := goodIn_app (goodIn_of _ (by decide +kernel)) ggX5_times_X5_addRoad
set_option maxRecDepth 20000 in
theorem ggX5_times_X5_keepNew : GoodIn wsX5_times wsX5_keepNew := goodIn_r _ [25, 3, 5, 7, 21, 20, 26, 27, 28, 29, 30, 31, 32, 33, 34, 35, 36, 37, 38, 39, 40, 41, 42, 43, 44, 45, 46, 47, 48, 49, 50, 51, 52, 53, 54, 55, 56, 57, 58, 59, 60] (by decide +kernel) (by decide +kernel)
set_option maxRecDepth 20000 in
theorem gX5_times_X5_keepNew : GoodIn wsX5_times (wsV RX5 82 RX5 yX5_keepNew wsX5_keepNew) := goodIn_app (goodIn_of _ (by decide +kernel)) ggX5_times_X5_keepNew
theorem dX5_times_0 : decode cX5_times 0 = .ok (.aload_n 0, 1) := by decide +kernel
theorem dX5_times_1 : decode cX5_times 1 = .ok (.iload_n 1, 1) := by decide +kernel
theorem dX5_times_2 : decode cX5_times 2 = .ok (.invokevirtual 142, 3) := by decide +kernel
theorem dX5_times_5 : decode cX5_times 5 = .ok (.ifCond .ne 6, 3) := by decide +kernel
theorem dX5_times_8 : decode cX5_times 8 = .ok (.ldc 145, 2) := by decide +kernel
theorem dX5_times_10 : decode cX5_times 10 = .ok (.ireturn, 1) := by decide +kernel
theorem dX5_times_11 : decode cX5_times 11 = .ok (.iload_n 2, 1) := by decide +kernel
theorem dX5_times_12 : decode cX5_times 12 = .ok (.iconst 2, 1) := by decide +kernel
theorem dX5_times_13 : decode cX5_times 13 = .ok (.iconst 5, 1) := by decide +kernel
theorem dX5_times_14 : decode cX5_times 14 = .ok (.invokestatic 50, 3) := by decide +kernel
theorem dX5_times_17 : decode cX5_times 17 = .ok (.ifCond .ne 6, 3) := by decide +kernel
theorem dX5_times_20 : decode cX5_times 20 = .ok (.ldc 54, 2) := by decide +kernel
theorem dX5_times_22 : decode cX5_times 22 = .ok (.ireturn, 1) := by decide +kernel
theorem dX5_times_23 : decode cX5_times 23 = .ok (.iload_n 2, 1) := by decide +kernel
theorem dX5_times_24 : decode cX5_times 24 = .ok (.aload_n 0, 1) := by decide +kernel
theorem dX5_times_25 : decode cX5_times 25 = .ok (.getfield 13, 3) := by decide +kernel
theorem dX5_times_28 : decode cX5_times 28 = .ok (.iload_n 1, 1) := by decide +kernel
theorem dX5_times_29 : decode cX5_times 29 = .ok (.iaload, 1) := by decide +kernel
theorem dX5_times_30 : decode cX5_times 30 = .ok (.imul, 1) := by decide +kernel
theorem dX5_times_31 : decode cX5_times 31 = .ok (.bipush 20, 2) := by decide +kernel
theorem dX5_times_33 : decode cX5_times 33 = .ok (.if_icmp .le 6, 3) := by decide +kernel
theorem dX5_times_36 : decode cX5_times 36 = .ok (.ldc 78, 2) := by decide +kernel
theorem dX5_times_38 : decode cX5_times 38 = .ok (.ireturn, 1) := by decide +kernel
theorem dX5_times_39 : decode cX5_times 39 = .ok (.aload_n 0, 1) := by decide +kernel
theorem dX5_times_40 : decode cX5_times 40 = .ok (.getfield 75, 3) := by decide +kernel
theorem dX5_times_43 : decode cX5_times 43 = .ok (.bipush 6, 2) := by decide +kernel
theorem dX5_times_45 : decode cX5_times 45 = .ok (.if_icmp .ne 6, 3) := by decide +kernel
theorem dX5_times_48 : decode cX5_times 48 = .ok (.ldc 59, 2) := by decide +kernel
theorem dX5_times_50 : decode cX5_times 50 = .ok (.ireturn, 1) := by decide +kernel
theorem dX5_times_51 : decode cX5_times 51 = .ok (.aload_n 0, 1) := by decide +kernel
theorem dX5_times_52 : decode cX5_times 52 = .ok (.iconst 0, 1) := by decide +kernel
theorem dX5_times_53 : decode cX5_times 53 = .ok (.putfield 60, 3) := by decide +kernel
theorem dX5_times_56 : decode cX5_times 56 = .ok (.iconst 0, 1) := by decide +kernel
theorem dX5_times_57 : decode cX5_times 57 = .ok (.istore_n 3, 1) := by decide +kernel
theorem dX5_times_58 : decode cX5_times 58 = .ok (.iload_n 3, 1) := by decide +kernel
theorem dX5_times_59 : decode cX5_times 59 = .ok (.iload_n 2, 1) := by decide +kernel
theorem dX5_times_60 : decode cX5_times 60 = .ok (.if_icmp .ge 14, 3) := by decide +kernel
theorem dX5_times_63 : decode cX5_times 63 = .ok (.aload_n 0, 1) := by decide +kernel
theorem dX5_times_64 : decode cX5_times 64 = .ok (.iload_n 1, 1) := by decide +kernel
theorem dX5_times_65 : decode cX5_times 65 = .ok (.invokevirtual 203, 3) := by decide +kernel
theorem dX5_times_68 : decode cX5_times 68 = .ok (.iinc 3 1, 3) := by decide +kernel
theorem dX5_times_71 : decode cX5_times 71 = .ok (.goto (-13), 3) := by decide +kernel
theorem dX5_times_74 : decode cX5_times 74 = .ok (.aload_n 0, 1) := by decide +kernel
theorem dX5_times_75 : decode cX5_times 75 = .ok (.invokevirtual 82, 3) := by decide +kernel
theorem dX5_times_78 : decode cX5_times 78 = .ok (.ireturn, 1) := by decide +kernel
theorem dX5_layCut_0 : decode cX5_layCut 0 = .ok (.iload_n 1, 1) := by decide +kernel
theorem dX5_layCut_1 : decode cX5_layCut 1 = .ok (.istore_n 3, 1) := by decide +kernel
theorem dX5_layCut_2 : decode cX5_layCut 2 = .ok (.iload_n 2, 1) := by decide +kernel
theorem dX5_layCut_3 : decode cX5_layCut 3 = .ok (.istore 4, 2) := by decide +kernel
theorem dX5_layCut_5 : decode cX5_layCut 5 = .ok (.iconst 0, 1) := by decide +kernel
theorem dX5_layCut_6 : decode cX5_layCut 6 = .ok (.istore 5, 2) := by decide +kernel
theorem dX5_layCut_8 : decode cX5_layCut 8 = .ok (.aload_n 0, 1) := by decide +kernel
theorem dX5_layCut_9 : decode cX5_layCut 9 = .ok (.iconst 0, 1) := by decide +kernel
theorem dX5_layCut_10 : decode cX5_layCut 10 = .ok (.putfield 60, 3) := by decide +kernel
theorem dX5_layCut_13 : decode cX5_layCut 13 = .ok (.iload_n 3, 1) := by decide +kernel
theorem dX5_layCut_14 : decode cX5_layCut 14 = .ok (.iload 4, 2) := by decide +kernel
theorem dX5_layCut_16 : decode cX5_layCut 16 = .ok (.if_icmp .eq 85, 3) := by decide +kernel
theorem dX5_layCut_19 : decode cX5_layCut 19 = .ok (.iload_n 3, 1) := by decide +kernel
theorem dX5_layCut_20 : decode cX5_layCut 20 = .ok (.iload 4, 2) := by decide +kernel
theorem dX5_layCut_22 : decode cX5_layCut 22 = .ok (.if_icmp .le 7, 3) := by decide +kernel
theorem dX5_layCut_25 : decode cX5_layCut 25 = .ok (.iconst 1, 1) := by decide +kernel
theorem dX5_layCut_26 : decode cX5_layCut 26 = .ok (.goto 4, 3) := by decide +kernel
theorem dX5_layCut_29 : decode cX5_layCut 29 = .ok (.iconst 0, 1) := by decide +kernel
theorem dX5_layCut_30 : decode cX5_layCut 30 = .ok (.istore 6, 2) := by decide +kernel
theorem dX5_layCut_32 : decode cX5_layCut 32 = .ok (.iload 5, 2) := by decide +kernel
theorem dX5_layCut_34 : decode cX5_layCut 34 = .ok (.bipush 20, 2) := by decide +kernel
theorem dX5_layCut_36 : decode cX5_layCut 36 = .ok (.if_icmp .ge 30, 3) := by decide +kernel
theorem dX5_layCut_39 : decode cX5_layCut 39 = .ok (.aload_n 0, 1) := by decide +kernel
theorem dX5_layCut_40 : decode cX5_layCut 40 = .ok (.getfield 37, 3) := by decide +kernel
theorem dX5_layCut_43 : decode cX5_layCut 43 = .ok (.iload 5, 2) := by decide +kernel
theorem dX5_layCut_45 : decode cX5_layCut 45 = .ok (.iload 6, 2) := by decide +kernel
theorem dX5_layCut_47 : decode cX5_layCut 47 = .ok (.ifCond .eq 7, 3) := by decide +kernel
theorem dX5_layCut_50 : decode cX5_layCut 50 = .ok (.iconst 1, 1) := by decide +kernel
theorem dX5_layCut_51 : decode cX5_layCut 51 = .ok (.goto 4, 3) := by decide +kernel
theorem dX5_layCut_54 : decode cX5_layCut 54 = .ok (.iconst 0, 1) := by decide +kernel
theorem dX5_layCut_55 : decode cX5_layCut 55 = .ok (.iastore, 1) := by decide +kernel
theorem dX5_layCut_56 : decode cX5_layCut 56 = .ok (.aload_n 0, 1) := by decide +kernel
theorem dX5_layCut_57 : decode cX5_layCut 57 = .ok (.dup, 1) := by decide +kernel
theorem dX5_layCut_58 : decode cX5_layCut 58 = .ok (.getfield 60, 3) := by decide +kernel
theorem dX5_layCut_61 : decode cX5_layCut 61 = .ok (.iconst 1, 1) := by decide +kernel
theorem dX5_layCut_62 : decode cX5_layCut 62 = .ok (.iadd, 1) := by decide +kernel
theorem dX5_layCut_63 : decode cX5_layCut 63 = .ok (.putfield 60, 3) := by decide +kernel
theorem dX5_layCut_66 : decode cX5_layCut 66 = .ok (.iinc 5 1, 3) := by decide +kernel
theorem dX5_layCut_69 : decode cX5_layCut 69 = .ok (.iload_n 3, 1) := by decide +kernel
theorem dX5_layCut_70 : decode cX5_layCut 70 = .ok (.iload 6, 2) := by decide +kernel
theorem dX5_layCut_72 : decode cX5_layCut 72 = .ok (.ifCond .eq 8, 3) := by decide +kernel
theorem dX5_layCut_75 : decode cX5_layCut 75 = .ok (.iload 4, 2) := by decide +kernel
theorem dX5_layCut_77 : decode cX5_layCut 77 = .ok (.goto 4, 3) := by decide +kernel
theorem dX5_layCut_80 : decode cX5_layCut 80 = .ok (.iconst 0, 1) := by decide +kernel
theorem dX5_layCut_81 : decode cX5_layCut 81 = .ok (.isub, 1) := by decide +kernel
theorem dX5_layCut_82 : decode cX5_layCut 82 = .ok (.istore_n 3, 1) := by decide +kernel
theorem dX5_layCut_83 : decode cX5_layCut 83 = .ok (.iload 4, 2) := by decide +kernel
theorem dX5_layCut_85 : decode cX5_layCut 85 = .ok (.iload 6, 2) := by decide +kernel
theorem dX5_layCut_87 : decode cX5_layCut 87 = .ok (.ifCond .eq 7, 3) := by decide +kernel
theorem dX5_layCut_90 : decode cX5_layCut 90 = .ok (.iconst 0, 1) := by decide +kernel
theorem dX5_layCut_91 : decode cX5_layCut 91 = .ok (.goto 4, 3) := by decide +kernel
theorem dX5_layCut_94 : decode cX5_layCut 94 = .ok (.iload_n 3, 1) := by decide +kernel
theorem dX5_layCut_95 : decode cX5_layCut 95 = .ok (.isub, 1) := by decide +kernel
theorem dX5_layCut_96 : decode cX5_layCut 96 = .ok (.istore 4, 2) := by decide +kernel
theorem dX5_layCut_98 : decode cX5_layCut 98 = .ok (.goto (-85), 3) := by decide +kernel
theorem dX5_layCut_101 : decode cX5_layCut 101 = .ok (.iload 5, 2) := by decide +kernel
theorem dX5_layCut_103 : decode cX5_layCut 103 = .ok (.ireturn, 1) := by decide +kernel
set_option maxRecDepth 20000 in
theorem ggX5_cut_X5_within : GoodIn wsX5_cut wsX5_within := goodIn_r _ [8] (by decide +kernel) (by decide +kernel)
set_option maxRecDepth 20000 in
theorem gX5_cut_X5_within : GoodIn wsX5_cut (va_wsS RX5 50 yX5_within wsX5_within) := goodIn_app (goodIn_of _ (by decide +kernel)) ggX5_cut_X5_within
set_option maxRecDepth 20000 in
theorem ggX5_cut_X5_common : GoodIn wsX5_cut wsX5_common := goodIn_r _ [11, 12, 13, 7, 14] (by decide +kernel) (by decide +kernel)
set_option maxRecDepth 20000 in
theorem gX5_cut_X5_common : GoodIn wsX5_cut (va_wsS RX5 155 yX5_common wsX5_common) := goodIn_app (goodIn_of _ (by decide +kernel)) ggX5_cut_X5_common
set_option maxRecDepth 20000 in
theorem ggX5_cut_X5_layCut : GoodIn wsX5_cut wsX5_layCut := goodIn_r _ [18, 19, 20, 27, 28, 29, 30, 31, 32, 33, 34, 35, 36, 37, 38, 39, 40, 41, 42, 43, 44, 45, 46, 47, 48, 49, 50, 51, 52, 53, 54, 55, 56, 57, 58, 59, 60, 61] (by decide +kernel) (by decide +kernel)
set_option maxRecDepth 20000 in
theorem gX5_cut_X5_layCut : GoodIn wsX5_cut (wsV RX5 206 RX5 yX5_layCut wsX5_layCut) := goodIn_app (goodIn_of _ (by decide +kernel)) ggX5_cut_X5_layCut
set_option maxRecDepth 20000 in
theorem ggX5_cut_X5_keepNew : GoodIn wsX5_cut wsX5_keepNew := goodIn_r _ [24, 25, 3, 19, 26, 20, 27, 28, 29, 30, 31, 32, 33, 34, 35, 36, 37, 38, 39, 40, 41, 42, 43, 44, 45, 46, 47, 48, 49, 50, 51, 52, 53, 54, 55, 56, 57, 58, 59, 60, 61] (by decide +kernel) (by decide +kernel)
set_option maxRecDepth 20000 in
theorem gX5_cut_X5_keepNew : GoodIn wsX5_cut (wsV RX5 82 RX5 yX5_keepNew wsX5_keepNew) := goodIn_app (goodIn_of _ (by decide +kernel)) ggX5_cut_X5_keepNew
theorem dX5_cut_0 : decode cX5_cut 0 = .ok (.iload_n 1, 1) := by decide +kernel
theorem dX5_cut_1 : decode cX5_cut 1 = .ok (.iconst 1, 1) := by decide +kernel
theorem dX5_cut_2 : decode cX5_cut 2 = .ok (.bipush 99, 2) := by decide +kernel
theorem dX5_cut_4 : decode cX5_cut 4 = .ok (.invokestatic 50, 3) := by decide +kernel
theorem dX5_cut_7 : decode cX5_cut 7 = .ok (.ifCond .eq 27, 3) := by decide +kernel
theorem dX5_cut_10 : decode cX5_cut 10 = .ok (.iload_n 2, 1) := by decide +kernel
theorem dX5_cut_11 : decode cX5_cut 11 = .ok (.iconst 1, 1) := by decide +kernel
theorem dX5_cut_12 : decode cX5_cut 12 = .ok (.bipush 99, 2) := by decide +kernel
theorem dX5_cut_14 : decode cX5_cut 14 = .ok (.invokestatic 50, 3) := by decide +kernel
theorem dX5_cut_17 : decode cX5_cut 17 = .ok (.ifCond .eq 17, 3) := by decide +kernel
theorem dX5_cut_20 : decode cX5_cut 20 = .ok (.iload_n 1, 1) := by decide +kernel
theorem dX5_cut_21 : decode cX5_cut 21 = .ok (.iload_n 2, 1) := by decide +kernel
theorem dX5_cut_22 : decode cX5_cut 22 = .ok (.invokestatic 155, 3) := by decide +kernel
theorem dX5_cut_25 : decode cX5_cut 25 = .ok (.iconst 1, 1) := by decide +kernel
theorem dX5_cut_26 : decode cX5_cut 26 = .ok (.if_icmp .gt 8, 3) := by decide +kernel
theorem dX5_cut_29 : decode cX5_cut 29 = .ok (.iload_n 1, 1) := by decide +kernel
theorem dX5_cut_30 : decode cX5_cut 30 = .ok (.iload_n 2, 1) := by decide +kernel
theorem dX5_cut_31 : decode cX5_cut 31 = .ok (.if_icmp .ne 6, 3) := by decide +kernel
theorem dX5_cut_34 : decode cX5_cut 34 = .ok (.ldc 54, 2) := by decide +kernel
theorem dX5_cut_36 : decode cX5_cut 36 = .ok (.ireturn, 1) := by decide +kernel
theorem dX5_cut_37 : decode cX5_cut 37 = .ok (.aload_n 0, 1) := by decide +kernel
theorem dX5_cut_38 : decode cX5_cut 38 = .ok (.iload_n 1, 1) := by decide +kernel
theorem dX5_cut_39 : decode cX5_cut 39 = .ok (.iload_n 2, 1) := by decide +kernel
theorem dX5_cut_40 : decode cX5_cut 40 = .ok (.invokevirtual 206, 3) := by decide +kernel
theorem dX5_cut_43 : decode cX5_cut 43 = .ok (.bipush 20, 2) := by decide +kernel
theorem dX5_cut_45 : decode cX5_cut 45 = .ok (.if_icmp .le 6, 3) := by decide +kernel
theorem dX5_cut_48 : decode cX5_cut 48 = .ok (.ldc 78, 2) := by decide +kernel
theorem dX5_cut_50 : decode cX5_cut 50 = .ok (.ireturn, 1) := by decide +kernel
theorem dX5_cut_51 : decode cX5_cut 51 = .ok (.aload_n 0, 1) := by decide +kernel
theorem dX5_cut_52 : decode cX5_cut 52 = .ok (.getfield 75, 3) := by decide +kernel
theorem dX5_cut_55 : decode cX5_cut 55 = .ok (.bipush 6, 2) := by decide +kernel
theorem dX5_cut_57 : decode cX5_cut 57 = .ok (.if_icmp .ne 8, 3) := by decide +kernel
theorem dX5_cut_60 : decode cX5_cut 60 = .ok (.ldc 59, 2) := by decide +kernel
theorem dX5_cut_62 : decode cX5_cut 62 = .ok (.goto 7, 3) := by decide +kernel
theorem dX5_cut_65 : decode cX5_cut 65 = .ok (.aload_n 0, 1) := by decide +kernel
theorem dX5_cut_66 : decode cX5_cut 66 = .ok (.invokevirtual 82, 3) := by decide +kernel
theorem dX5_cut_69 : decode cX5_cut 69 = .ok (.ireturn, 1) := by decide +kernel
theorem dX5_drop_0 : decode cX5_drop 0 = .ok (.aload_n 0, 1) := by decide +kernel
theorem dX5_drop_1 : decode cX5_drop 1 = .ok (.getfield 75, 3) := by decide +kernel
theorem dX5_drop_4 : decode cX5_drop 4 = .ok (.ifCond .ne 6, 3) := by decide +kernel
theorem dX5_drop_7 : decode cX5_drop 7 = .ok (.ldc 78, 2) := by decide +kernel
theorem dX5_drop_9 : decode cX5_drop 9 = .ok (.ireturn, 1) := by decide +kernel
theorem dX5_drop_10 : decode cX5_drop 10 = .ok (.aload_n 0, 1) := by decide +kernel
theorem dX5_drop_11 : decode cX5_drop 11 = .ok (.dup, 1) := by decide +kernel
theorem dX5_drop_12 : decode cX5_drop 12 = .ok (.getfield 75, 3) := by decide +kernel
theorem dX5_drop_15 : decode cX5_drop 15 = .ok (.iconst 1, 1) := by decide +kernel
theorem dX5_drop_16 : decode cX5_drop 16 = .ok (.isub, 1) := by decide +kernel
theorem dX5_drop_17 : decode cX5_drop 17 = .ok (.putfield 75, 3) := by decide +kernel
theorem dX5_drop_20 : decode cX5_drop 20 = .ok (.aload_n 0, 1) := by decide +kernel
theorem dX5_drop_21 : decode cX5_drop 21 = .ok (.getfield 75, 3) := by decide +kernel
theorem dX5_drop_24 : decode cX5_drop 24 = .ok (.ireturn, 1) := by decide +kernel
theorem dX5_isSquare_0 : decode cX5_isSquare 0 = .ok (.iconst 0, 1) := by decide +kernel
theorem dX5_isSquare_1 : decode cX5_isSquare 1 = .ok (.istore_n 1, 1) := by decide +kernel
theorem dX5_isSquare_2 : decode cX5_isSquare 2 = .ok (.iload_n 1, 1) := by decide +kernel
theorem dX5_isSquare_3 : decode cX5_isSquare 3 = .ok (.iload_n 1, 1) := by decide +kernel
theorem dX5_isSquare_4 : decode cX5_isSquare 4 = .ok (.imul, 1) := by decide +kernel
theorem dX5_isSquare_5 : decode cX5_isSquare 5 = .ok (.iload_n 0, 1) := by decide +kernel
theorem dX5_isSquare_6 : decode cX5_isSquare 6 = .ok (.if_icmp .ge 9, 3) := by decide +kernel
theorem dX5_isSquare_9 : decode cX5_isSquare 9 = .ok (.iinc 1 1, 3) := by decide +kernel
theorem dX5_isSquare_12 : decode cX5_isSquare 12 = .ok (.goto (-10), 3) := by decide +kernel
theorem dX5_isSquare_15 : decode cX5_isSquare 15 = .ok (.iload_n 1, 1) := by decide +kernel
theorem dX5_isSquare_16 : decode cX5_isSquare 16 = .ok (.iload_n 1, 1) := by decide +kernel
theorem dX5_isSquare_17 : decode cX5_isSquare 17 = .ok (.imul, 1) := by decide +kernel
theorem dX5_isSquare_18 : decode cX5_isSquare 18 = .ok (.iload_n 0, 1) := by decide +kernel
theorem dX5_isSquare_19 : decode cX5_isSquare 19 = .ok (.if_icmp .ne 7, 3) := by decide +kernel
theorem dX5_isSquare_22 : decode cX5_isSquare 22 = .ok (.iconst 1, 1) := by decide +kernel
theorem dX5_isSquare_23 : decode cX5_isSquare 23 = .ok (.goto 4, 3) := by decide +kernel
theorem dX5_isSquare_26 : decode cX5_isSquare 26 = .ok (.iconst 0, 1) := by decide +kernel
theorem dX5_isSquare_27 : decode cX5_isSquare 27 = .ok (.ireturn, 1) := by decide +kernel
theorem dX5_isRiver_0 : decode cX5_isRiver 0 = .ok (.aload_n 0, 1) := by decide +kernel
theorem dX5_isRiver_1 : decode cX5_isRiver 1 = .ok (.getfield 209, 3) := by decide +kernel
theorem dX5_isRiver_4 : decode cX5_isRiver 4 = .ok (.ifCond .le 7, 3) := by decide +kernel
theorem dX5_isRiver_7 : decode cX5_isRiver 7 = .ok (.iconst 1, 1) := by decide +kernel
theorem dX5_isRiver_8 : decode cX5_isRiver 8 = .ok (.goto 4, 3) := by decide +kernel
theorem dX5_isRiver_11 : decode cX5_isRiver 11 = .ok (.iconst 0, 1) := by decide +kernel
theorem dX5_isRiver_12 : decode cX5_isRiver 12 = .ok (.ireturn, 1) := by decide +kernel
set_option maxRecDepth 20000 in
theorem ggX5_layMiddle_X5_common : GoodIn wsX5_layMiddle wsX5_common := goodIn_r _ [9, 10, 11, 8, 12] (by decide +kernel) (by decide +kernel)
set_option maxRecDepth 20000 in
theorem gX5_layMiddle_X5_common : GoodIn wsX5_layMiddle (va_wsS RX5 155 yX5_common wsX5_common) := goodIn_app (goodIn_of _ (by decide +kernel)) ggX5_layMiddle_X5_common
theorem dX5_layMiddle_0 : decode cX5_layMiddle 0 = .ok (.aload_n 0, 1) := by decide +kernel
theorem dX5_layMiddle_1 : decode cX5_layMiddle 1 = .ok (.getfield 209, 3) := by decide +kernel
theorem dX5_layMiddle_4 : decode cX5_layMiddle 4 = .ok (.iload_n 1, 1) := by decide +kernel
theorem dX5_layMiddle_5 : decode cX5_layMiddle 5 = .ok (.iload_n 1, 1) := by decide +kernel
theorem dX5_layMiddle_6 : decode cX5_layMiddle 6 = .ok (.imul, 1) := by decide +kernel
theorem dX5_layMiddle_7 : decode cX5_layMiddle 7 = .ok (.isub, 1) := by decide +kernel
theorem dX5_layMiddle_8 : decode cX5_layMiddle 8 = .ok (.istore_n 2, 1) := by decide +kernel
theorem dX5_layMiddle_9 : decode cX5_layMiddle 9 = .ok (.iconst 1, 1) := by decide +kernel
theorem dX5_layMiddle_10 : decode cX5_layMiddle 10 = .ok (.istore_n 3, 1) := by decide +kernel
theorem dX5_layMiddle_11 : decode cX5_layMiddle 11 = .ok (.iconst 4, 1) := by decide +kernel
theorem dX5_layMiddle_12 : decode cX5_layMiddle 12 = .ok (.iload_n 3, 1) := by decide +kernel
theorem dX5_layMiddle_13 : decode cX5_layMiddle 13 = .ok (.imul, 1) := by decide +kernel
theorem dX5_layMiddle_14 : decode cX5_layMiddle 14 = .ok (.iload_n 2, 1) := by decide +kernel
theorem dX5_layMiddle_15 : decode cX5_layMiddle 15 = .ok (.if_icmp .gt 79, 3) := by decide +kernel
theorem dX5_layMiddle_18 : decode cX5_layMiddle 18 = .ok (.iload_n 2, 1) := by decide +kernel
theorem dX5_layMiddle_19 : decode cX5_layMiddle 19 = .ok (.iconst 4, 1) := by decide +kernel
theorem dX5_layMiddle_20 : decode cX5_layMiddle 20 = .ok (.iload_n 3, 1) := by decide +kernel
theorem dX5_layMiddle_21 : decode cX5_layMiddle 21 = .ok (.imul, 1) := by decide +kernel
theorem dX5_layMiddle_22 : decode cX5_layMiddle 22 = .ok (.irem, 1) := by decide +kernel
theorem dX5_layMiddle_23 : decode cX5_layMiddle 23 = .ok (.ifCond .ne 65, 3) := by decide +kernel
theorem dX5_layMiddle_26 : decode cX5_layMiddle 26 = .ok (.iload_n 3, 1) := by decide +kernel
theorem dX5_layMiddle_27 : decode cX5_layMiddle 27 = .ok (.iload_n 1, 1) := by decide +kernel
theorem dX5_layMiddle_28 : decode cX5_layMiddle 28 = .ok (.invokestatic 155, 3) := by decide +kernel
theorem dX5_layMiddle_31 : decode cX5_layMiddle 31 = .ok (.iload_n 2, 1) := by decide +kernel
theorem dX5_layMiddle_32 : decode cX5_layMiddle 32 = .ok (.iconst 4, 1) := by decide +kernel
theorem dX5_layMiddle_33 : decode cX5_layMiddle 33 = .ok (.iload_n 3, 1) := by decide +kernel
theorem dX5_layMiddle_34 : decode cX5_layMiddle 34 = .ok (.imul, 1) := by decide +kernel
theorem dX5_layMiddle_35 : decode cX5_layMiddle 35 = .ok (.idiv, 1) := by decide +kernel
theorem dX5_layMiddle_36 : decode cX5_layMiddle 36 = .ok (.invokestatic 155, 3) := by decide +kernel
theorem dX5_layMiddle_39 : decode cX5_layMiddle 39 = .ok (.iconst 1, 1) := by decide +kernel
theorem dX5_layMiddle_40 : decode cX5_layMiddle 40 = .ok (.if_icmp .ne 48, 3) := by decide +kernel
theorem dX5_layMiddle_43 : decode cX5_layMiddle 43 = .ok (.aload_n 0, 1) := by decide +kernel
theorem dX5_layMiddle_44 : decode cX5_layMiddle 44 = .ok (.getfield 19, 3) := by decide +kernel
theorem dX5_layMiddle_47 : decode cX5_layMiddle 47 = .ok (.aload_n 0, 1) := by decide +kernel
theorem dX5_layMiddle_48 : decode cX5_layMiddle 48 = .ok (.getfield 212, 3) := by decide +kernel
theorem dX5_layMiddle_51 : decode cX5_layMiddle 51 = .ok (.iload_n 3, 1) := by decide +kernel
theorem dX5_layMiddle_52 : decode cX5_layMiddle 52 = .ok (.iastore, 1) := by decide +kernel
theorem dX5_layMiddle_53 : decode cX5_layMiddle 53 = .ok (.aload_n 0, 1) := by decide +kernel
theorem dX5_layMiddle_54 : decode cX5_layMiddle 54 = .ok (.getfield 22, 3) := by decide +kernel
theorem dX5_layMiddle_57 : decode cX5_layMiddle 57 = .ok (.aload_n 0, 1) := by decide +kernel
theorem dX5_layMiddle_58 : decode cX5_layMiddle 58 = .ok (.getfield 212, 3) := by decide +kernel
theorem dX5_layMiddle_61 : decode cX5_layMiddle 61 = .ok (.iload_n 1, 1) := by decide +kernel
theorem dX5_layMiddle_62 : decode cX5_layMiddle 62 = .ok (.iastore, 1) := by decide +kernel
theorem dX5_layMiddle_63 : decode cX5_layMiddle 63 = .ok (.aload_n 0, 1) := by decide +kernel
theorem dX5_layMiddle_64 : decode cX5_layMiddle 64 = .ok (.getfield 25, 3) := by decide +kernel
theorem dX5_layMiddle_67 : decode cX5_layMiddle 67 = .ok (.aload_n 0, 1) := by decide +kernel
theorem dX5_layMiddle_68 : decode cX5_layMiddle 68 = .ok (.getfield 212, 3) := by decide +kernel
theorem dX5_layMiddle_71 : decode cX5_layMiddle 71 = .ok (.iload_n 2, 1) := by decide +kernel
theorem dX5_layMiddle_72 : decode cX5_layMiddle 72 = .ok (.ineg, 1) := by decide +kernel
theorem dX5_layMiddle_73 : decode cX5_layMiddle 73 = .ok (.iconst 4, 1) := by decide +kernel
theorem dX5_layMiddle_74 : decode cX5_layMiddle 74 = .ok (.iload_n 3, 1) := by decide +kernel
theorem dX5_layMiddle_75 : decode cX5_layMiddle 75 = .ok (.imul, 1) := by decide +kernel
theorem dX5_layMiddle_76 : decode cX5_layMiddle 76 = .ok (.idiv, 1) := by decide +kernel
theorem dX5_layMiddle_77 : decode cX5_layMiddle 77 = .ok (.iastore, 1) := by decide +kernel
theorem dX5_layMiddle_78 : decode cX5_layMiddle 78 = .ok (.aload_n 0, 1) := by decide +kernel
theorem dX5_layMiddle_79 : decode cX5_layMiddle 79 = .ok (.dup, 1) := by decide +kernel
theorem dX5_layMiddle_80 : decode cX5_layMiddle 80 = .ok (.getfield 212, 3) := by decide +kernel
theorem dX5_layMiddle_83 : decode cX5_layMiddle 83 = .ok (.iconst 1, 1) := by decide +kernel
theorem dX5_layMiddle_84 : decode cX5_layMiddle 84 = .ok (.iadd, 1) := by decide +kernel
theorem dX5_layMiddle_85 : decode cX5_layMiddle 85 = .ok (.putfield 212, 3) := by decide +kernel
theorem dX5_layMiddle_88 : decode cX5_layMiddle 88 = .ok (.iinc 3 1, 3) := by decide +kernel
theorem dX5_layMiddle_91 : decode cX5_layMiddle 91 = .ok (.goto (-80), 3) := by decide +kernel
theorem dX5_layMiddle_94 : decode cX5_layMiddle 94 = .ok (.return_, 1) := by decide +kernel
theorem dX5_numberOf_0 : decode cX5_numberOf 0 = .ok (.iconst 0, 1) := by decide +kernel
theorem dX5_numberOf_1 : decode cX5_numberOf 1 = .ok (.istore 4, 2) := by decide +kernel
theorem dX5_numberOf_3 : decode cX5_numberOf 3 = .ok (.iload 4, 2) := by decide +kernel
theorem dX5_numberOf_5 : decode cX5_numberOf 5 = .ok (.aload_n 0, 1) := by decide +kernel
theorem dX5_numberOf_6 : decode cX5_numberOf 6 = .ok (.getfield 212, 3) := by decide +kernel
theorem dX5_numberOf_9 : decode cX5_numberOf 9 = .ok (.if_icmp .ge 42, 3) := by decide +kernel
theorem dX5_numberOf_12 : decode cX5_numberOf 12 = .ok (.aload_n 0, 1) := by decide +kernel
theorem dX5_numberOf_13 : decode cX5_numberOf 13 = .ok (.getfield 19, 3) := by decide +kernel
theorem dX5_numberOf_16 : decode cX5_numberOf 16 = .ok (.iload 4, 2) := by decide +kernel
theorem dX5_numberOf_18 : decode cX5_numberOf 18 = .ok (.iaload, 1) := by decide +kernel
theorem dX5_numberOf_19 : decode cX5_numberOf 19 = .ok (.iload_n 1, 1) := by decide +kernel
theorem dX5_numberOf_20 : decode cX5_numberOf 20 = .ok (.if_icmp .ne 25, 3) := by decide +kernel
theorem dX5_numberOf_23 : decode cX5_numberOf 23 = .ok (.aload_n 0, 1) := by decide +kernel
theorem dX5_numberOf_24 : decode cX5_numberOf 24 = .ok (.getfield 22, 3) := by decide +kernel
theorem dX5_numberOf_27 : decode cX5_numberOf 27 = .ok (.iload 4, 2) := by decide +kernel
theorem dX5_numberOf_29 : decode cX5_numberOf 29 = .ok (.iaload, 1) := by decide +kernel
theorem dX5_numberOf_30 : decode cX5_numberOf 30 = .ok (.iload_n 2, 1) := by decide +kernel
theorem dX5_numberOf_31 : decode cX5_numberOf 31 = .ok (.if_icmp .ne 14, 3) := by decide +kernel
theorem dX5_numberOf_34 : decode cX5_numberOf 34 = .ok (.aload_n 0, 1) := by decide +kernel
theorem dX5_numberOf_35 : decode cX5_numberOf 35 = .ok (.getfield 25, 3) := by decide +kernel
theorem dX5_numberOf_38 : decode cX5_numberOf 38 = .ok (.iload 4, 2) := by decide +kernel
theorem dX5_numberOf_40 : decode cX5_numberOf 40 = .ok (.iaload, 1) := by decide +kernel
theorem dX5_numberOf_41 : decode cX5_numberOf 41 = .ok (.iload_n 3, 1) := by decide +kernel
theorem dX5_numberOf_42 : decode cX5_numberOf 42 = .ok (.if_icmp .eq 9, 3) := by decide +kernel
theorem dX5_numberOf_45 : decode cX5_numberOf 45 = .ok (.iinc 4 1, 3) := by decide +kernel
theorem dX5_numberOf_48 : decode cX5_numberOf 48 = .ok (.goto (-45), 3) := by decide +kernel
theorem dX5_numberOf_51 : decode cX5_numberOf 51 = .ok (.iload 4, 2) := by decide +kernel
theorem dX5_numberOf_53 : decode cX5_numberOf 53 = .ok (.aload_n 0, 1) := by decide +kernel
theorem dX5_numberOf_54 : decode cX5_numberOf 54 = .ok (.getfield 212, 3) := by decide +kernel
theorem dX5_numberOf_57 : decode cX5_numberOf 57 = .ok (.if_icmp .ge 8, 3) := by decide +kernel
theorem dX5_numberOf_60 : decode cX5_numberOf 60 = .ok (.iload 4, 2) := by decide +kernel
theorem dX5_numberOf_62 : decode cX5_numberOf 62 = .ok (.goto 5, 3) := by decide +kernel
theorem dX5_numberOf_65 : decode cX5_numberOf 65 = .ok (.ldc 106, 2) := by decide +kernel
theorem dX5_numberOf_67 : decode cX5_numberOf 67 = .ok (.ireturn, 1) := by decide +kernel
theorem dX5_isLeft_0 : decode cX5_isLeft 0 = .ok (.aload_n 0, 1) := by decide +kernel
theorem dX5_isLeft_1 : decode cX5_isLeft 1 = .ok (.getfield 19, 3) := by decide +kernel
theorem dX5_isLeft_4 : decode cX5_isLeft 4 = .ok (.iload_n 1, 1) := by decide +kernel
theorem dX5_isLeft_5 : decode cX5_isLeft 5 = .ok (.iaload, 1) := by decide +kernel
theorem dX5_isLeft_6 : decode cX5_isLeft 6 = .ok (.aload_n 0, 1) := by decide +kernel
theorem dX5_isLeft_7 : decode cX5_isLeft 7 = .ok (.getfield 22, 3) := by decide +kernel
theorem dX5_isLeft_10 : decode cX5_isLeft 10 = .ok (.iload_n 1, 1) := by decide +kernel
theorem dX5_isLeft_11 : decode cX5_isLeft 11 = .ok (.iaload, 1) := by decide +kernel
theorem dX5_isLeft_12 : decode cX5_isLeft 12 = .ok (.iadd, 1) := by decide +kernel
theorem dX5_isLeft_13 : decode cX5_isLeft 13 = .ok (.aload_n 0, 1) := by decide +kernel
theorem dX5_isLeft_14 : decode cX5_isLeft 14 = .ok (.getfield 25, 3) := by decide +kernel
theorem dX5_isLeft_17 : decode cX5_isLeft 17 = .ok (.iload_n 1, 1) := by decide +kernel
theorem dX5_isLeft_18 : decode cX5_isLeft 18 = .ok (.iaload, 1) := by decide +kernel
theorem dX5_isLeft_19 : decode cX5_isLeft 19 = .ok (.iadd, 1) := by decide +kernel
theorem dX5_isLeft_20 : decode cX5_isLeft 20 = .ok (.ifCond .le 7, 3) := by decide +kernel
theorem dX5_isLeft_23 : decode cX5_isLeft 23 = .ok (.iconst 1, 1) := by decide +kernel
theorem dX5_isLeft_24 : decode cX5_isLeft 24 = .ok (.goto 4, 3) := by decide +kernel
theorem dX5_isLeft_27 : decode cX5_isLeft 27 = .ok (.iconst 0, 1) := by decide +kernel
theorem dX5_isLeft_28 : decode cX5_isLeft 28 = .ok (.ireturn, 1) := by decide +kernel
set_option maxRecDepth 20000 in
theorem ggX5_findNext_X5_isLeft : GoodIn wsX5_findNext wsX5_isLeft := goodIn_r _ [8, 1, 2, 3, 15, 16, 17, 18, 19, 20, 21, 22, 23, 24, 25, 26, 27, 28, 29, 30, 31, 32, 33, 34, 35, 36, 37, 38, 39, 40, 41, 42, 43, 44, 45, 46, 47, 48, 49] (by decide +kernel) (by decide +kernel)
set_option maxRecDepth 20000 in
theorem gX5_findNext_X5_isLeft : GoodIn wsX5_findNext (wsV RX5 215 RX5 yX5_isLeft wsX5_isLeft) := goodIn_app (goodIn_of _ (by decide +kernel)) ggX5_findNext_X5_isLeft
