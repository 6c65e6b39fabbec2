theorem dX5_isAlike_0 : decode cX5_isAlike 0 = .ok (.aload_n 0, 1) := by decide +kernel
theorem dX5_isAlike_1 : decode cX5_isAlike 1 = .ok (.iload_n 1, 1) := by decide +kernel
theorem dX5_isAlike_2 : decode cX5_isAlike 2 = .ok (.iload_n 2, 1) := by decide +kernel
theorem dX5_isAlike_3 : decode cX5_isAlike 3 = .ok (.invokevirtual 107, 3) := by decide +kernel
theorem dX5_isAlike_6 : decode cX5_isAlike 6 = .ok (.aload_n 0, 1) := by decide +kernel
theorem dX5_isAlike_7 : decode cX5_isAlike 7 = .ok (.invokevirtual 111, 3) := by decide +kernel
theorem dX5_isAlike_10 : decode cX5_isAlike 10 = .ok (.ldc 106, 2) := by decide +kernel
theorem dX5_isAlike_12 : decode cX5_isAlike 12 = .ok (.if_icmp .eq 7, 3) := by decide +kernel
theorem dX5_isAlike_15 : decode cX5_isAlike 15 = .ok (.iconst 1, 1) := by decide +kernel
theorem dX5_isAlike_16 : decode cX5_isAlike 16 = .ok (.goto 4, 3) := by decide +kernel
theorem dX5_isAlike_19 : decode cX5_isAlike 19 = .ok (.iconst 0, 1) := by decide +kernel
theorem dX5_isAlike_20 : decode cX5_isAlike 20 = .ok (.ireturn, 1) := by decide +kernel
theorem dX5_layTable_0 : decode cX5_layTable 0 = .ok (.aload_n 0, 1) := by decide +kernel
theorem dX5_layTable_1 : decode cX5_layTable 1 = .ok (.iconst 1, 1) := by decide +kernel
theorem dX5_layTable_2 : decode cX5_layTable 2 = .ok (.putfield 114, 3) := by decide +kernel
theorem dX5_layTable_5 : decode cX5_layTable 5 = .ok (.aload_n 0, 1) := by decide +kernel
theorem dX5_layTable_6 : decode cX5_layTable 6 = .ok (.iconst 0, 1) := by decide +kernel
theorem dX5_layTable_7 : decode cX5_layTable 7 = .ok (.putfield 117, 3) := by decide +kernel
theorem dX5_layTable_10 : decode cX5_layTable 10 = .ok (.aload_n 0, 1) := by decide +kernel
theorem dX5_layTable_11 : decode cX5_layTable 11 = .ok (.iconst 0, 1) := by decide +kernel
theorem dX5_layTable_12 : decode cX5_layTable 12 = .ok (.putfield 120, 3) := by decide +kernel
theorem dX5_layTable_15 : decode cX5_layTable 15 = .ok (.aload_n 0, 1) := by decide +kernel
theorem dX5_layTable_16 : decode cX5_layTable 16 = .ok (.iconst 1, 1) := by decide +kernel
theorem dX5_layTable_17 : decode cX5_layTable 17 = .ok (.putfield 123, 3) := by decide +kernel
theorem dX5_layTable_20 : decode cX5_layTable 20 = .ok (.aload_n 0, 1) := by decide +kernel
theorem dX5_layTable_21 : decode cX5_layTable 21 = .ok (.getfield 85, 3) := by decide +kernel
theorem dX5_layTable_24 : decode cX5_layTable 24 = .ok (.iconst 1, 1) := by decide +kernel
theorem dX5_layTable_25 : decode cX5_layTable 25 = .ok (.isub, 1) := by decide +kernel
theorem dX5_layTable_26 : decode cX5_layTable 26 = .ok (.istore_n 1, 1) := by decide +kernel
theorem dX5_layTable_27 : decode cX5_layTable 27 = .ok (.iload_n 1, 1) := by decide +kernel
theorem dX5_layTable_28 : decode cX5_layTable 28 = .ok (.ifCond .lt 73, 3) := by decide +kernel
theorem dX5_layTable_31 : decode cX5_layTable 31 = .ok (.aload_n 0, 1) := by decide +kernel
theorem dX5_layTable_32 : decode cX5_layTable 32 = .ok (.getfield 40, 3) := by decide +kernel
theorem dX5_layTable_35 : decode cX5_layTable 35 = .ok (.iload_n 1, 1) := by decide +kernel
theorem dX5_layTable_36 : decode cX5_layTable 36 = .ok (.iaload, 1) := by decide +kernel
theorem dX5_layTable_37 : decode cX5_layTable 37 = .ok (.ifCond .ne 32, 3) := by decide +kernel
theorem dX5_layTable_40 : decode cX5_layTable 40 = .ok (.aload_n 0, 1) := by decide +kernel
theorem dX5_layTable_41 : decode cX5_layTable 41 = .ok (.dup, 1) := by decide +kernel
theorem dX5_layTable_42 : decode cX5_layTable 42 = .ok (.getfield 120, 3) := by decide +kernel
theorem dX5_layTable_45 : decode cX5_layTable 45 = .ok (.aload_n 0, 1) := by decide +kernel
theorem dX5_layTable_46 : decode cX5_layTable 46 = .ok (.getfield 114, 3) := by decide +kernel
theorem dX5_layTable_49 : decode cX5_layTable 49 = .ok (.iadd, 1) := by decide +kernel
theorem dX5_layTable_50 : decode cX5_layTable 50 = .ok (.putfield 120, 3) := by decide +kernel
theorem dX5_layTable_53 : decode cX5_layTable 53 = .ok (.aload_n 0, 1) := by decide +kernel
theorem dX5_layTable_54 : decode cX5_layTable 54 = .ok (.dup, 1) := by decide +kernel
theorem dX5_layTable_55 : decode cX5_layTable 55 = .ok (.getfield 123, 3) := by decide +kernel
theorem dX5_layTable_58 : decode cX5_layTable 58 = .ok (.aload_n 0, 1) := by decide +kernel
theorem dX5_layTable_59 : decode cX5_layTable 59 = .ok (.getfield 117, 3) := by decide +kernel
theorem dX5_layTable_62 : decode cX5_layTable 62 = .ok (.iadd, 1) := by decide +kernel
theorem dX5_layTable_63 : decode cX5_layTable 63 = .ok (.putfield 123, 3) := by decide +kernel
theorem dX5_layTable_66 : decode cX5_layTable 66 = .ok (.goto 29, 3) := by decide +kernel
theorem dX5_layTable_69 : decode cX5_layTable 69 = .ok (.aload_n 0, 1) := by decide +kernel
theorem dX5_layTable_70 : decode cX5_layTable 70 = .ok (.dup, 1) := by decide +kernel
theorem dX5_layTable_71 : decode cX5_layTable 71 = .ok (.getfield 114, 3) := by decide +kernel
theorem dX5_layTable_74 : decode cX5_layTable 74 = .ok (.aload_n 0, 1) := by decide +kernel
theorem dX5_layTable_75 : decode cX5_layTable 75 = .ok (.getfield 120, 3) := by decide +kernel
theorem dX5_layTable_78 : decode cX5_layTable 78 = .ok (.iadd, 1) := by decide +kernel
theorem dX5_layTable_79 : decode cX5_layTable 79 = .ok (.putfield 114, 3) := by decide +kernel
theorem dX5_layTable_82 : decode cX5_layTable 82 = .ok (.aload_n 0, 1) := by decide +kernel
theorem dX5_layTable_83 : decode cX5_layTable 83 = .ok (.dup, 1) := by decide +kernel
theorem dX5_layTable_84 : decode cX5_layTable 84 = .ok (.getfield 117, 3) := by decide +kernel
theorem dX5_layTable_87 : decode cX5_layTable 87 = .ok (.aload_n 0, 1) := by decide +kernel
theorem dX5_layTable_88 : decode cX5_layTable 88 = .ok (.getfield 123, 3) := by decide +kernel
theorem dX5_layTable_91 : decode cX5_layTable 91 = .ok (.iadd, 1) := by decide +kernel
theorem dX5_layTable_92 : decode cX5_layTable 92 = .ok (.putfield 117, 3) := by decide +kernel
theorem dX5_layTable_95 : decode cX5_layTable 95 = .ok (.iinc 1 (-1), 3) := by decide +kernel
theorem dX5_layTable_98 : decode cX5_layTable 98 = .ok (.goto (-71), 3) := by decide +kernel
theorem dX5_layTable_101 : decode cX5_layTable 101 = .ok (.return_, 1) := by decide +kernel
set_option maxRecDepth 20000 in
theorem ggX5_traceNow_X5_layTable : GoodIn wsX5_traceNow wsX5_layTable := goodIn_r _ [7, 1, 8, 9, 2, 10, 11, 12, 13, 14, 15, 16, 17, 18, 19, 20, 21, 22, 23, 24, 25, 26, 27, 28, 29, 30, 31, 32, 33, 34, 35, 36, 37, 38, 39, 40, 41, 42, 43, 44, 45, 46] (by decide +kernel) (by decide +kernel)
set_option maxRecDepth 20000 in
theorem gX5_traceNow_X5_layTable : GoodIn wsX5_traceNow (wsV RX5 126 RX5 yX5_layTable wsX5_layTable) := goodIn_app (goodIn_of _ (by decide +kernel)) ggX5_traceNow_X5_layTable
theorem dX5_traceNow_0 : decode cX5_traceNow 0 = .ok (.aload_n 0, 1) := by decide +kernel
theorem dX5_traceNow_1 : decode cX5_traceNow 1 = .ok (.invokevirtual 126, 3) := by decide +kernel
theorem dX5_traceNow_4 : decode cX5_traceNow 4 = .ok (.aload_n 0, 1) := by decide +kernel
theorem dX5_traceNow_5 : decode cX5_traceNow 5 = .ok (.getfield 114, 3) := by decide +kernel
theorem dX5_traceNow_8 : decode cX5_traceNow 8 = .ok (.aload_n 0, 1) := by decide +kernel
theorem dX5_traceNow_9 : decode cX5_traceNow 9 = .ok (.getfield 123, 3) := by decide +kernel
theorem dX5_traceNow_12 : decode cX5_traceNow 12 = .ok (.iadd, 1) := by decide +kernel
theorem dX5_traceNow_13 : decode cX5_traceNow 13 = .ok (.ireturn, 1) := by decide +kernel
set_option maxRecDepth 20000 in
theorem ggX5_isRoad_X5_within : GoodIn wsX5_isRoad wsX5_within := goodIn_r _ [5] (by decide +kernel) (by decide +kernel)
set_option maxRecDepth 20000 in
theorem gX5_isRoad_X5_within : GoodIn wsX5_isRoad (va_wsS RX5 50 yX5_within wsX5_within) := goodIn_app (goodIn_of _ (by decide +kernel)) ggX5_isRoad_X5_within
theorem dX5_isRoad_0 : decode cX5_isRoad 0 = .ok (.iload_n 1, 1) := by decide +kernel
theorem dX5_isRoad_1 : decode cX5_isRoad 1 = .ok (.iconst 0, 1) := by decide +kernel
theorem dX5_isRoad_2 : decode cX5_isRoad 2 = .ok (.aload_n 0, 1) := by decide +kernel
theorem dX5_isRoad_3 : decode cX5_isRoad 3 = .ok (.getfield 75, 3) := by decide +kernel
theorem dX5_isRoad_6 : decode cX5_isRoad 6 = .ok (.iconst 1, 1) := by decide +kernel
theorem dX5_isRoad_7 : decode cX5_isRoad 7 = .ok (.isub, 1) := by decide +kernel
theorem dX5_isRoad_8 : decode cX5_isRoad 8 = .ok (.invokestatic 50, 3) := by decide +kernel
theorem dX5_isRoad_11 : decode cX5_isRoad 11 = .ok (.ireturn, 1) := by decide +kernel
set_option maxRecDepth 20000 in
theorem ggX5_roadNow_X5_look : GoodIn wsX5_roadNow wsX5_look := goodIn_r _ [6, 7, 1, 8, 9, 57, 58, 59, 60, 61, 62, 63, 64, 65, 66, 67, 68, 69, 70, 71, 72, 73, 74, 75, 76, 77, 78, 79, 80, 81, 82, 83, 84, 85, 86, 87, 88, 89, 90, 91] (by decide +kernel) (by decide +kernel)
set_option maxRecDepth 20000 in
theorem gX5_roadNow_X5_look : GoodIn wsX5_roadNow (wsV RX5 91 RX5 yX5_look wsX5_look) := goodIn_app (goodIn_of _ (by decide +kernel)) ggX5_roadNow_X5_look
set_option maxRecDepth 20000 in
theorem ggX5_roadNow_X5_lefts : GoodIn wsX5_roadNow wsX5_lefts := goodIn_r _ [13, 1, 8, 57, 58, 59, 60, 61, 62, 63, 64, 65, 66, 67, 68, 69, 70, 71, 72, 73, 74, 75, 76, 77, 78, 79, 80, 81, 82, 83, 84, 85, 86, 87, 88, 89, 90, 91] (by decide +kernel) (by decide +kernel)
set_option maxRecDepth 20000 in
theorem gX5_roadNow_X5_lefts : GoodIn wsX5_roadNow (wsV RX5 88 RX5 yX5_lefts wsX5_lefts) := goodIn_app (goodIn_of _ (by decide +kernel)) ggX5_roadNow_X5_lefts
set_option maxRecDepth 20000 in
theorem ggX5_roadNow_X5_periodNow : GoodIn wsX5_roadNow wsX5_periodNow := goodIn_r _ [17, 1, 18, 19, 20, 5, 21, 8, 57, 58, 59, 60, 61, 62, 63, 64, 65, 66, 67, 68, 69, 70, 71, 72, 73, 74, 75, 76, 77, 78, 79, 80, 81, 82, 83, 84, 85, 86, 87, 88, 89, 90, 91] (by decide +kernel) (by decide +kernel)
set_option maxRecDepth 20000 in
theorem gX5_roadNow_X5_periodNow : GoodIn wsX5_roadNow (wsV RX5 129 RX5 yX5_periodNow wsX5_periodNow) := goodIn_app (goodIn_of _ (by decide +kernel)) ggX5_roadNow_X5_periodNow
set_option maxRecDepth 20000 in
theorem ggX5_roadNow_X5_leastTurnNow : GoodIn wsX5_roadNow wsX5_leastTurnNow := goodIn_r _ [25, 1, 18, 19, 20, 5, 21, 8, 57, 58, 59, 60, 61, 62, 63, 64, 65, 66, 67, 68, 69, 70, 71, 72, 73, 74, 75, 76, 77, 78, 79, 80, 81, 82, 83, 84, 85, 86, 87, 88, 89, 90, 91] (by decide +kernel) (by decide +kernel)
set_option maxRecDepth 20000 in
theorem gX5_roadNow_X5_leastTurnNow : GoodIn wsX5_roadNow (wsV RX5 132 RX5 yX5_leastTurnNow wsX5_leastTurnNow) := goodIn_app (goodIn_of _ (by decide +kernel)) ggX5_roadNow_X5_leastTurnNow
set_option maxRecDepth 20000 in
theorem ggX5_roadNow_X5_traceNow : GoodIn wsX5_roadNow wsX5_traceNow := goodIn_r _ [29, 30, 31, 32, 33, 34, 5, 35, 36, 37, 1, 8, 57, 58, 59, 60, 61, 62, 63, 64, 65, 66, 67, 68, 69, 70, 71, 72, 73, 74, 75, 76, 77, 78, 79, 80, 81, 82, 83, 84, 85, 86, 87, 88, 89, 90, 91] (by decide +kernel) (by decide +kernel)
set_option maxRecDepth 20000 in
theorem gX5_roadNow_X5_traceNow : GoodIn wsX5_roadNow (wsV RX5 135 RX5 yX5_traceNow wsX5_traceNow) := goodIn_app (goodIn_of _ (by decide +kernel)) ggX5_roadNow_X5_traceNow
set_option maxRecDepth 20000 in
theorem ggX5_roadNow_X5_isClosedNow : GoodIn wsX5_roadNow wsX5_isClosedNow := goodIn_r _ [41, 1, 10, 11, 12, 5, 13, 8, 57, 58, 59, 60, 61, 62, 63, 64, 65, 66, 67, 68, 69, 70, 71, 72, 73, 74, 75, 76, 77, 78, 79, 80, 81, 82, 83, 84, 85, 86, 87, 88, 89, 90, 91] (by decide +kernel) (by decide +kernel)
set_option maxRecDepth 20000 in
theorem gX5_roadNow_X5_isClosedNow : GoodIn wsX5_roadNow (wsV RX5 95 RX5 yX5_isClosedNow wsX5_isClosedNow) := goodIn_app (goodIn_of _ (by decide +kernel)) ggX5_roadNow_X5_isClosedNow
set_option maxRecDepth 20000 in
theorem ggX5_roadNow_X5_isAlike : GoodIn wsX5_roadNow wsX5_isAlike := goodIn_r _ [45, 46, 47, 48, 49, 5, 50, 1, 51, 8, 52, 53, 54, 55, 56, 57, 58, 59, 60, 61, 62, 63, 64, 65, 66, 67, 68, 69, 70, 71, 72, 73, 74, 75, 76, 77, 78, 79, 80, 81, 82, 83, 84, 85, 86, 87, 88, 89, 90, 91] (by decide +kernel) (by decide +kernel)
set_option maxRecDepth 20000 in
theorem gX5_roadNow_X5_isAlike : GoodIn wsX5_roadNow (wsV RX5 138 RX5 yX5_isAlike wsX5_isAlike) := goodIn_app (goodIn_of _ (by decide +kernel)) ggX5_roadNow_X5_isAlike
theorem dX5_roadNow_0 : decode cX5_roadNow 0 = .ok (.aload_n 0, 1) := by decide +kernel
theorem dX5_roadNow_1 : decode cX5_roadNow 1 = .ok (.iload_n 1, 1) := by decide +kernel
theorem dX5_roadNow_2 : decode cX5_roadNow 2 = .ok (.invokevirtual 91, 3) := by decide +kernel
theorem dX5_roadNow_5 : decode cX5_roadNow 5 = .ok (.iload_n 2, 1) := by decide +kernel
theorem dX5_roadNow_6 : decode cX5_roadNow 6 = .ok (.tableswitch 128 0 8 #[50, 55, 60, 70, 75, 80, 85, 98, 113], 50) := by decide +kernel
theorem dX5_roadNow_56 : decode cX5_roadNow 56 = .ok (.aload_n 0, 1) := by decide +kernel
theorem dX5_roadNow_57 : decode cX5_roadNow 57 = .ok (.getfield 85, 3) := by decide +kernel
theorem dX5_roadNow_60 : decode cX5_roadNow 60 = .ok (.ireturn, 1) := by decide +kernel
theorem dX5_roadNow_61 : decode cX5_roadNow 61 = .ok (.aload_n 0, 1) := by decide +kernel
theorem dX5_roadNow_62 : decode cX5_roadNow 62 = .ok (.invokevirtual 88, 3) := by decide +kernel
theorem dX5_roadNow_65 : decode cX5_roadNow 65 = .ok (.ireturn, 1) := by decide +kernel
theorem dX5_roadNow_66 : decode cX5_roadNow 66 = .ok (.aload_n 0, 1) := by decide +kernel
theorem dX5_roadNow_67 : decode cX5_roadNow 67 = .ok (.getfield 85, 3) := by decide +kernel
theorem dX5_roadNow_70 : decode cX5_roadNow 70 = .ok (.aload_n 0, 1) := by decide +kernel
theorem dX5_roadNow_71 : decode cX5_roadNow 71 = .ok (.invokevirtual 88, 3) := by decide +kernel
theorem dX5_roadNow_74 : decode cX5_roadNow 74 = .ok (.isub, 1) := by decide +kernel
theorem dX5_roadNow_75 : decode cX5_roadNow 75 = .ok (.ireturn, 1) := by decide +kernel
theorem dX5_roadNow_76 : decode cX5_roadNow 76 = .ok (.aload_n 0, 1) := by decide +kernel
theorem dX5_roadNow_77 : decode cX5_roadNow 77 = .ok (.invokevirtual 129, 3) := by decide +kernel
theorem dX5_roadNow_80 : decode cX5_roadNow 80 = .ok (.ireturn, 1) := by decide +kernel
theorem dX5_roadNow_81 : decode cX5_roadNow 81 = .ok (.aload_n 0, 1) := by decide +kernel
theorem dX5_roadNow_82 : decode cX5_roadNow 82 = .ok (.invokevirtual 132, 3) := by decide +kernel
theorem dX5_roadNow_85 : decode cX5_roadNow 85 = .ok (.ireturn, 1) := by decide +kernel
theorem dX5_roadNow_86 : decode cX5_roadNow 86 = .ok (.aload_n 0, 1) := by decide +kernel
theorem dX5_roadNow_87 : decode cX5_roadNow 87 = .ok (.invokevirtual 135, 3) := by decide +kernel
theorem dX5_roadNow_90 : decode cX5_roadNow 90 = .ok (.ireturn, 1) := by decide +kernel
theorem dX5_roadNow_91 : decode cX5_roadNow 91 = .ok (.aload_n 0, 1) := by decide +kernel
theorem dX5_roadNow_92 : decode cX5_roadNow 92 = .ok (.invokevirtual 95, 3) := by decide +kernel
theorem dX5_roadNow_95 : decode cX5_roadNow 95 = .ok (.ifCond .eq 7, 3) := by decide +kernel
theorem dX5_roadNow_98 : decode cX5_roadNow 98 = .ok (.iconst 1, 1) := by decide +kernel
theorem dX5_roadNow_99 : decode cX5_roadNow 99 = .ok (.goto 4, 3) := by decide +kernel
theorem dX5_roadNow_102 : decode cX5_roadNow 102 = .ok (.iconst 0, 1) := by decide +kernel
theorem dX5_roadNow_103 : decode cX5_roadNow 103 = .ok (.ireturn, 1) := by decide +kernel
theorem dX5_roadNow_104 : decode cX5_roadNow 104 = .ok (.aload_n 0, 1) := by decide +kernel
theorem dX5_roadNow_105 : decode cX5_roadNow 105 = .ok (.iconst 1, 1) := by decide +kernel
theorem dX5_roadNow_106 : decode cX5_roadNow 106 = .ok (.iconst 0, 1) := by decide +kernel
theorem dX5_roadNow_107 : decode cX5_roadNow 107 = .ok (.invokevirtual 138, 3) := by decide +kernel
theorem dX5_roadNow_110 : decode cX5_roadNow 110 = .ok (.ifCond .eq 7, 3) := by decide +kernel
theorem dX5_roadNow_113 : decode cX5_roadNow 113 = .ok (.iconst 1, 1) := by decide +kernel
theorem dX5_roadNow_114 : decode cX5_roadNow 114 = .ok (.goto 4, 3) := by decide +kernel
theorem dX5_roadNow_117 : decode cX5_roadNow 117 = .ok (.iconst 0, 1) := by decide +kernel
theorem dX5_roadNow_118 : decode cX5_roadNow 118 = .ok (.ireturn, 1) := by decide +kernel
theorem dX5_roadNow_119 : decode cX5_roadNow 119 = .ok (.aload_n 0, 1) := by decide +kernel
theorem dX5_roadNow_120 : decode cX5_roadNow 120 = .ok (.iconst 0, 1) := by decide +kernel
theorem dX5_roadNow_121 : decode cX5_roadNow 121 = .ok (.iconst 1, 1) := by decide +kernel
theorem dX5_roadNow_122 : decode cX5_roadNow 122 = .ok (.invokevirtual 138, 3) := by decide +kernel
theorem dX5_roadNow_125 : decode cX5_roadNow 125 = .ok (.ifCond .eq 7, 3) := by decide +kernel
theorem dX5_roadNow_128 : decode cX5_roadNow 128 = .ok (.iconst 1, 1) := by decide +kernel
theorem dX5_roadNow_129 : decode cX5_roadNow 129 = .ok (.goto 4, 3) := by decide +kernel
theorem dX5_roadNow_132 : decode cX5_roadNow 132 = .ok (.iconst 0, 1) := by decide +kernel
theorem dX5_roadNow_133 : decode cX5_roadNow 133 = .ok (.ireturn, 1) := by decide +kernel
theorem dX5_roadNow_134 : decode cX5_roadNow 134 = .ok (.aload_n 0, 1) := by decide +kernel
theorem dX5_roadNow_135 : decode cX5_roadNow 135 = .ok (.iconst 1, 1) := by decide +kernel
theorem dX5_roadNow_136 : decode cX5_roadNow 136 = .ok (.iconst 1, 1) := by decide +kernel
theorem dX5_roadNow_137 : decode cX5_roadNow 137 = .ok (.invokevirtual 138, 3) := by decide +kernel
theorem dX5_roadNow_140 : decode cX5_roadNow 140 = .ok (.ifCond .eq 7, 3) := by decide +kernel
theorem dX5_roadNow_143 : decode cX5_roadNow 143 = .ok (.iconst 1, 1) := by decide +kernel
theorem dX5_roadNow_144 : decode cX5_roadNow 144 = .ok (.goto 4, 3) := by decide +kernel
theorem dX5_roadNow_147 : decode cX5_roadNow 147 = .ok (.iconst 0, 1) := by decide +kernel
theorem dX5_roadNow_148 : decode cX5_roadNow 148 = .ok (.ireturn, 1) := by decide +kernel
set_option maxRecDepth 20000 in
theorem ggX5_road_X5_isRoad : GoodIn wsX5_road wsX5_isRoad := goodIn_r _ [7, 8, 9, 10, 6, 11, 71, 72, 73, 74, 75, 76, 77, 78, 79, 80, 81, 82, 83, 84, 85, 86, 87, 88, 89, 90, 91, 92, 93, 94, 95, 96, 97, 98, 99, 100, 101, 102, 103, 104, 105] (by decide +kernel) (by decide +kernel)
set_option maxRecDepth 20000 in
theorem gX5_road_X5_isRoad : GoodIn wsX5_road (wsV RX5 142 RX5 yX5_isRoad wsX5_isRoad) := goodIn_app (goodIn_of _ (by decide +kernel)) ggX5_road_X5_isRoad
set_option maxRecDepth 20000 in
theorem ggX5_road_X5_within : GoodIn wsX5_road wsX5_within := goodIn_r _ [11] (by decide +kernel) (by decide +kernel)
set_option maxRecDepth 20000 in
theorem gX5_road_X5_within : GoodIn wsX5_road (va_wsS RX5 50 yX5_within wsX5_within) := goodIn_app (goodIn_of _ (by decide +kernel)) ggX5_road_X5_within
set_option maxRecDepth 20000 in
theorem ggX5_road_X5_roadNow : GoodIn wsX5_road wsX5_roadNow := goodIn_r _ [15, 16, 17, 18, 19, 6, 20, 21, 22, 23, 24, 25, 26, 27, 28, 29, 30, 31, 32, 33, 34, 35, 36, 37, 38, 39, 40, 41, 42, 43, 44, 45, 46, 47, 48, 49, 50, 51, 52, 53, 54, 55, 56, 57, 58, 59, 60, 61, 62, 63, 64, 65, 66, 67, 68, 69, 70, 71, 72, 73, 74, 75, 76, 77, 78, 79, 80, 81, 82, 83, 84, 85, 86, 87, 88, 89, 90, 91, 92, 93, 94, 95, 96, 97, 98, 99, 100, 101, 102, 103, 104, 105] (by decide +kernel) (by decide +kernel)
set_option maxRecDepth 20000 in
theorem gX5_road_X5_roadNow : GoodIn wsX5_road (wsV RX5 146 RX5 yX5_roadNow wsX5_roadNow) := goodIn_app (goodIn_of _ (by decide +kernel)) ggX5_road_X5_roadNow
theorem dX5_road_0 : decode cX5_road 0 = .ok (.aload_n 0, 1) := by decide +kernel
theorem dX5_road_1 : decode cX5_road 1 = .ok (.iload_n 1, 1) := by decide +kernel
theorem dX5_road_2 : decode cX5_road 2 = .ok (.invokevirtual 142, 3) := by decide +kernel
theorem dX5_road_5 : decode cX5_road 5 = .ok (.ifCond .ne 8, 3) := by decide +kernel
theorem dX5_road_8 : decode cX5_road 8 = .ok (.ldc 145, 2) := by decide +kernel
theorem dX5_road_10 : decode cX5_road 10 = .ok (.goto 24, 3) := by decide +kernel
theorem dX5_road_13 : decode cX5_road 13 = .ok (.iload_n 2, 1) := by decide +kernel
theorem dX5_road_14 : decode cX5_road 14 = .ok (.iconst 0, 1) := by decide +kernel
theorem dX5_road_15 : decode cX5_road 15 = .ok (.bipush 9, 2) := by decide +kernel
theorem dX5_road_17 : decode cX5_road 17 = .ok (.invokestatic 50, 3) := by decide +kernel
theorem dX5_road_20 : decode cX5_road 20 = .ok (.ifCond .eq 12, 3) := by decide +kernel
theorem dX5_road_23 : decode cX5_road 23 = .ok (.aload_n 0, 1) := by decide +kernel
theorem dX5_road_24 : decode cX5_road 24 = .ok (.iload_n 1, 1) := by decide +kernel
theorem dX5_road_25 : decode cX5_road 25 = .ok (.iload_n 2, 1) := by decide +kernel
theorem dX5_road_26 : decode cX5_road 26 = .ok (.invokevirtual 146, 3) := by decide +kernel
theorem dX5_road_29 : decode cX5_road 29 = .ok (.goto 5, 3) := by decide +kernel
theorem dX5_road_32 : decode cX5_road 32 = .ok (.ldc 54, 2) := by decide +kernel
theorem dX5_road_34 : decode cX5_road 34 = .ok (.ireturn, 1) := by decide +kernel
theorem dX5_codeOf_0 : decode cX5_codeOf 0 = .ok (.iload_n 0, 1) := by decide +kernel
theorem dX5_codeOf_1 : decode cX5_codeOf 1 = .ok (.ifCond .ne 8, 3) := by decide +kernel
theorem dX5_codeOf_4 : decode cX5_codeOf 4 = .ok (.bipush 76, 2) := by decide +kernel
theorem dX5_codeOf_6 : decode cX5_codeOf 6 = .ok (.goto 5, 3) := by decide +kernel
theorem dX5_codeOf_9 : decode cX5_codeOf 9 = .ok (.bipush 82, 2) := by decide +kernel
theorem dX5_codeOf_11 : decode cX5_codeOf 11 = .ok (.ireturn, 1) := by decide +kernel
set_option maxRecDepth 20000 in
theorem ggX5_sign_X5_isRoad : GoodIn wsX5_sign wsX5_isRoad := goodIn_r _ [8, 9, 10, 11, 7, 12, 16, 17, 18, 19, 20, 21, 22, 23, 24, 25, 26, 27, 28, 29, 30, 31, 32, 33, 34, 35, 36, 37, 38, 39, 40, 41, 42, 43, 44, 45, 46, 47, 48, 49, 50] (by decide +kernel) (by decide +kernel)
set_option maxRecDepth 20000 in
theorem gX5_sign_X5_isRoad : GoodIn wsX5_sign (wsV RX5 142 RX5 yX5_isRoad wsX5_isRoad) := goodIn_app (goodIn_of _ (by decide +kernel)) ggX5_sign_X5_isRoad
set_option maxRecDepth 20000 in
theorem ggX5_sign_X5_within : GoodIn wsX5_sign wsX5_within := goodIn_r _ [12] (by decide +kernel) (by decide +kernel)
set_option maxRecDepth 20000 in
theorem gX5_sign_X5_within : GoodIn wsX5_sign (va_wsS RX5 50 yX5_within wsX5_within) := goodIn_app (goodIn_of _ (by decide +kernel)) ggX5_sign_X5_within
set_option maxRecDepth 20000 in
theorem ggX5_sign_X5_codeOf : GoodIn wsX5_sign wsX5_codeOf := goodIn_r _ [15] (by decide +kernel) (by decide +kernel)
set_option maxRecDepth 20000 in
theorem gX5_sign_X5_codeOf : GoodIn wsX5_sign (va_wsS RX5 149 yX5_codeOf wsX5_codeOf) := goodIn_app (goodIn_of _ (by decide +kernel)) ggX5_sign_X5_codeOf
theorem dX5_sign_0 : decode cX5_sign 0 = .ok (.aload_n 0, 1) := by decide +kernel
theorem dX5_sign_1 : decode cX5_sign 1 = .ok (.iload_n 1, 1) := by decide +kernel
theorem dX5_sign_2 : decode cX5_sign 2 = .ok (.invokevirtual 142, 3) := by decide +kernel
theorem dX5_sign_5 : decode cX5_sign 5 = .ok (.ifCond .eq 36, 3) := by decide +kernel
theorem dX5_sign_8 : decode cX5_sign 8 = .ok (.iload_n 2, 1) := by decide +kernel
theorem dX5_sign_9 : decode cX5_sign 9 = .ok (.iconst 0, 1) := by decide +kernel
theorem dX5_sign_10 : decode cX5_sign 10 = .ok (.aload_n 0, 1) := by decide +kernel
theorem dX5_sign_11 : decode cX5_sign 11 = .ok (.getfield 13, 3) := by decide +kernel
theorem dX5_sign_14 : decode cX5_sign 14 = .ok (.iload_n 1, 1) := by decide +kernel
theorem dX5_sign_15 : decode cX5_sign 15 = .ok (.iaload, 1) := by decide +kernel
theorem dX5_sign_16 : decode cX5_sign 16 = .ok (.iconst 1, 1) := by decide +kernel
theorem dX5_sign_17 : decode cX5_sign 17 = .ok (.isub, 1) := by decide +kernel
theorem dX5_sign_18 : decode cX5_sign 18 = .ok (.invokestatic 50, 3) := by decide +kernel
theorem dX5_sign_21 : decode cX5_sign 21 = .ok (.ifCond .eq 20, 3) := by decide +kernel
theorem dX5_sign_24 : decode cX5_sign 24 = .ok (.aload_n 0, 1) := by decide +kernel
theorem dX5_sign_25 : decode cX5_sign 25 = .ok (.getfield 16, 3) := by decide +kernel
theorem dX5_sign_28 : decode cX5_sign 28 = .ok (.bipush 20, 2) := by decide +kernel
theorem dX5_sign_30 : decode cX5_sign 30 = .ok (.iload_n 1, 1) := by decide +kernel
theorem dX5_sign_31 : decode cX5_sign 31 = .ok (.imul, 1) := by decide +kernel
theorem dX5_sign_32 : decode cX5_sign 32 = .ok (.iload_n 2, 1) := by decide +kernel
theorem dX5_sign_33 : decode cX5_sign 33 = .ok (.iadd, 1) := by decide +kernel
theorem dX5_sign_34 : decode cX5_sign 34 = .ok (.iaload, 1) := by decide +kernel
theorem dX5_sign_35 : decode cX5_sign 35 = .ok (.invokestatic 149, 3) := by decide +kernel
theorem dX5_sign_38 : decode cX5_sign 38 = .ok (.goto 5, 3) := by decide +kernel
theorem dX5_sign_41 : decode cX5_sign 41 = .ok (.ldc 145, 2) := by decide +kernel
theorem dX5_sign_43 : decode cX5_sign 43 = .ok (.ireturn, 1) := by decide +kernel
set_option maxRecDepth 20000 in
theorem ggX5_tableNow_X5_look : GoodIn wsX5_tableNow wsX5_look := goodIn_r _ [9, 10, 11, 12, 13, 18, 19, 20, 21, 22, 23, 24, 25, 26, 27, 28, 29, 30, 31, 32, 33, 34, 35, 36, 37, 38, 39, 40, 41, 42, 43, 44, 45, 46, 47, 48, 49, 50, 51, 52] (by decide +kernel) (by decide +kernel)
set_option maxRecDepth 20000 in
theorem gX5_tableNow_X5_look : GoodIn wsX5_tableNow (wsV RX5 91 RX5 yX5_look wsX5_look) := goodIn_app (goodIn_of _ (by decide +kernel)) ggX5_tableNow_X5_look
set_option maxRecDepth 20000 in
theorem ggX5_tableNow_X5_layTable : GoodIn wsX5_tableNow wsX5_layTable := goodIn_r _ [17, 1, 2, 3, 4, 11, 12, 18, 19, 20, 21, 22, 23, 24, 25, 26, 27, 28, 29, 30, 31, 32, 33, 34, 35, 36, 37, 38, 39, 40, 41, 42, 43, 44, 45, 46, 47, 48, 49, 50, 51, 52] (by decide +kernel) (by decide +kernel)
set_option maxRecDepth 20000 in
theorem gX5_tableNow_X5_layTable : GoodIn wsX5_tableNow (wsV RX5 126 RX5 yX5_layTable wsX5_layTable) := goodIn_app (goodIn_of _ (by decide +kernel)) ggX5_tableNow_X5_layTable
theorem dX5_tableNow_0 : decode cX5_tableNow 0 = .ok (.aload_n 0, 1) := by decide +kernel
theorem dX5_tableNow_1 : decode cX5_tableNow 1 = .ok (.iload_n 1, 1) := by decide +kernel
theorem dX5_tableNow_2 : decode cX5_tableNow 2 = .ok (.invokevirtual 91, 3) := by decide +kernel
theorem dX5_tableNow_5 : decode cX5_tableNow 5 = .ok (.aload_n 0, 1) := by decide +kernel
theorem dX5_tableNow_6 : decode cX5_tableNow 6 = .ok (.invokevirtual 126, 3) := by decide +kernel
theorem dX5_tableNow_9 : decode cX5_tableNow 9 = .ok (.iload_n 2, 1) := by decide +kernel
theorem dX5_tableNow_10 : decode cX5_tableNow 10 = .ok (.ifCond .ne 10, 3) := by decide +kernel
theorem dX5_tableNow_13 : decode cX5_tableNow 13 = .ok (.aload_n 0, 1) := by decide +kernel
theorem dX5_tableNow_14 : decode cX5_tableNow 14 = .ok (.getfield 114, 3) := by decide +kernel
theorem dX5_tableNow_17 : decode cX5_tableNow 17 = .ok (.goto 31, 3) := by decide +kernel
theorem dX5_tableNow_20 : decode cX5_tableNow 20 = .ok (.iload_n 2, 1) := by decide +kernel
theorem dX5_tableNow_21 : decode cX5_tableNow 21 = .ok (.iconst 1, 1) := by decide +kernel
theorem dX5_tableNow_22 : decode cX5_tableNow 22 = .ok (.if_icmp .ne 10, 3) := by decide +kernel
theorem dX5_tableNow_25 : decode cX5_tableNow 25 = .ok (.aload_n 0, 1) := by decide +kernel
theorem dX5_tableNow_26 : decode cX5_tableNow 26 = .ok (.getfield 117, 3) := by decide +kernel
theorem dX5_tableNow_29 : decode cX5_tableNow 29 = .ok (.goto 19, 3) := by decide +kernel
theorem dX5_tableNow_32 : decode cX5_tableNow 32 = .ok (.iload_n 2, 1) := by decide +kernel
theorem dX5_tableNow_33 : decode cX5_tableNow 33 = .ok (.iconst 2, 1) := by decide +kernel
theorem dX5_tableNow_34 : decode cX5_tableNow 34 = .ok (.if_icmp .ne 10, 3) := by decide +kernel
theorem dX5_tableNow_37 : decode cX5_tableNow 37 = .ok (.aload_n 0, 1) := by decide +kernel
theorem dX5_tableNow_38 : decode cX5_tableNow 38 = .ok (.getfield 120, 3) := by decide +kernel
theorem dX5_tableNow_41 : decode cX5_tableNow 41 = .ok (.goto 7, 3) := by decide +kernel
theorem dX5_tableNow_44 : decode cX5_tableNow 44 = .ok (.aload_n 0, 1) := by decide +kernel
theorem dX5_tableNow_45 : decode cX5_tableNow 45 = .ok (.getfield 123, 3) := by decide +kernel
theorem dX5_tableNow_48 : decode cX5_tableNow 48 = .ok (.ireturn, 1) := by decide +kernel
set_option maxRecDepth 20000 in
theorem ggX5_table_X5_isRoad : GoodIn wsX5_table wsX5_isRoad := goodIn_r _ [7, 8, 9, 10, 6, 11, 32, 33, 34, 35, 36, 37, 38, 39, 40, 41, 42, 43, 44, 45, 46, 47, 48, 49, 50, 51, 52, 53, 54, 55, 56, 57, 58, 59, 60, 61, 62, 63, 64, 65, 66] (by decide +kernel) (by decide +kernel)
set_option maxRecDepth 20000 in
theorem gX5_table_X5_isRoad : GoodIn wsX5_table (wsV RX5 142 RX5 yX5_isRoad wsX5_isRoad) := goodIn_app (goodIn_of _ (by decide +kernel)) ggX5_table_X5_isRoad
set_option maxRecDepth 20000 in
theorem ggX5_table_X5_within : GoodIn wsX5_table wsX5_within := goodIn_r _ [11] (by decide +kernel) (by decide +kernel)
set_option maxRecDepth 20000 in
theorem gX5_table_X5_within : GoodIn wsX5_table (va_wsS RX5 50 yX5_within wsX5_within) := goodIn_app (goodIn_of _ (by decide +kernel)) ggX5_table_X5_within
set_option maxRecDepth 20000 in
theorem ggX5_table_X5_tableNow : GoodIn wsX5_table wsX5_tableNow := goodIn_r _ [15, 16, 17, 18, 19, 20, 21, 22, 6, 23, 24, 25, 26, 27, 28, 29, 30, 31, 32, 33, 34, 35, 36, 37, 38, 39, 40, 41, 42, 43, 44, 45, 46, 47, 48, 49, 50, 51, 52, 53, 54, 55, 56, 57, 58, 59, 60, 61, 62, 63, 64, 65, 66] (by decide +kernel) (by decide +kernel)
set_option maxRecDepth 20000 in
theorem gX5_table_X5_tableNow : GoodIn wsX5_table (wsV RX5 152 RX5 yX5_tableNow wsX5_tableNow) := goodIn_app (goodIn_of _ (by decide +kernel)) ggX5_table_X5_tableNow
theorem dX5_table_0 : decode cX5_table 0 = .ok (.aload_n 0, 1) := by decide +kernel
theorem dX5_table_1 : decode cX5_table 1 = .ok (.iload_n 1, 1) := by decide +kernel
theorem dX5_table_2 : decode cX5_table 2 = .ok (.invokevirtual 142, 3) := by decide +kernel
theorem dX5_table_5 : decode cX5_table 5 = .ok (.ifCond .ne 8, 3) := by decide +kernel
theorem dX5_table_8 : decode cX5_table 8 = .ok (.ldc 145, 2) := by decide +kernel
theorem dX5_table_10 : decode cX5_table 10 = .ok (.goto 23, 3) := by decide +kernel
theorem dX5_table_13 : decode cX5_table 13 = .ok (.iload_n 2, 1) := by decide +kernel
theorem dX5_table_14 : decode cX5_table 14 = .ok (.iconst 0, 1) := by decide +kernel
theorem dX5_table_15 : decode cX5_table 15 = .ok (.iconst 3, 1) := by decide +kernel
theorem dX5_table_16 : decode cX5_table 16 = .ok (.invokestatic 50, 3) := by decide +kernel
theorem dX5_table_19 : decode cX5_table 19 = .ok (.ifCond .eq 12, 3) := by decide +kernel
theorem dX5_table_22 : decode cX5_table 22 = .ok (.aload_n 0, 1) := by decide +kernel
theorem dX5_table_23 : decode cX5_table 23 = .ok (.iload_n 1, 1) := by decide +kernel
theorem dX5_table_24 : decode cX5_table 24 = .ok (.iload_n 2, 1) := by decide +kernel
theorem dX5_table_25 : decode cX5_table 25 = .ok (.invokevirtual 152, 3) := by decide +kernel
theorem dX5_table_28 : decode cX5_table 28 = .ok (.goto 5, 3) := by decide +kernel
theorem dX5_table_31 : decode cX5_table 31 = .ok (.ldc 54, 2) := by decide +kernel
theorem dX5_table_33 : decode cX5_table 33 = .ok (.ireturn, 1) := by decide +kernel
set_option maxRecDepth 20000 in
theorem ggX5_layForm_X5_look : GoodIn wsX5_layForm wsX5_look := goodIn_r _ [13, 14, 15, 16, 17, 28, 29, 30, 31, 32, 33, 34, 35, 36, 37, 38, 39, 40, 41, 42, 43, 44, 45, 46, 47, 48, 49, 50, 51, 52, 53, 54, 55, 56, 57, 58, 59, 60, 61, 62] (by decide +kernel) (by decide +kernel)
set_option maxRecDepth 20000 in
theorem gX5_layForm_X5_look : GoodIn wsX5_layForm (wsV RX5 91 RX5 yX5_look wsX5_look) := goodIn_app (goodIn_of _ (by decide +kernel)) ggX5_layForm_X5_look
set_option maxRecDepth 20000 in
theorem ggX5_layForm_X5_layTable : GoodIn wsX5_layForm wsX5_layTable := goodIn_r _ [21, 3, 4, 1, 2, 15, 16, 28, 29, 30, 31, 32, 33, 34, 35, 36, 37, 38, 39, 40, 41, 42, 43, 44, 45, 46, 47, 48, 49, 50, 51, 52, 53, 54, 55, 56, 57, 58, 59, 60, 61, 62] (by decide +kernel) (by decide +kernel)
set_option maxRecDepth 20000 in
theorem gX5_layForm_X5_layTable : GoodIn wsX5_layForm (wsV RX5 126 RX5 yX5_layTable wsX5_layTable) := goodIn_app (goodIn_of _ (by decide +kernel)) ggX5_layForm_X5_layTable
set_option maxRecDepth 20000 in
theorem ggX5_layForm_X5_common : GoodIn wsX5_layForm wsX5_common := goodIn_r _ [24, 25, 26, 12, 27] (by decide +kernel) (by decide +kernel)
set_option maxRecDepth 20000 in
theorem gX5_layForm_X5_common : GoodIn wsX5_layForm (va_wsS RX5 155 yX5_common wsX5_common) := goodIn_app (goodIn_of _ (by decide +kernel)) ggX5_layForm_X5_common
theorem dX5_layForm_0 : decode cX5_layForm 0 = .ok (.aload_n 0, 1) := by decide +kernel
theorem dX5_layForm_1 : decode cX5_layForm 1 = .ok (.iload_n 1, 1) := by decide +kernel
theorem dX5_layForm_2 : decode cX5_layForm 2 = .ok (.invokevirtual 91, 3) := by decide +kernel
theorem dX5_layForm_5 : decode cX5_layForm 5 = .ok (.aload_n 0, 1) := by decide +kernel
theorem dX5_layForm_6 : decode cX5_layForm 6 = .ok (.invokevirtual 126, 3) := by decide +kernel
theorem dX5_layForm_9 : decode cX5_layForm 9 = .ok (.aload_n 0, 1) := by decide +kernel
theorem dX5_layForm_10 : decode cX5_layForm 10 = .ok (.aload_n 0, 1) := by decide +kernel
theorem dX5_layForm_11 : decode cX5_layForm 11 = .ok (.getfield 120, 3) := by decide +kernel
theorem dX5_layForm_14 : decode cX5_layForm 14 = .ok (.aload_n 0, 1) := by decide +kernel
theorem dX5_layForm_15 : decode cX5_layForm 15 = .ok (.getfield 123, 3) := by decide +kernel
theorem dX5_layForm_18 : decode cX5_layForm 18 = .ok (.aload_n 0, 1) := by decide +kernel
theorem dX5_layForm_19 : decode cX5_layForm 19 = .ok (.getfield 114, 3) := by decide +kernel
theorem dX5_layForm_22 : decode cX5_layForm 22 = .ok (.isub, 1) := by decide +kernel
theorem dX5_layForm_23 : decode cX5_layForm 23 = .ok (.invokestatic 155, 3) := by decide +kernel
theorem dX5_layForm_26 : decode cX5_layForm 26 = .ok (.aload_n 0, 1) := by decide +kernel
theorem dX5_layForm_27 : decode cX5_layForm 27 = .ok (.getfield 117, 3) := by decide +kernel
theorem dX5_layForm_30 : decode cX5_layForm 30 = .ok (.invokestatic 155, 3) := by decide +kernel
theorem dX5_layForm_33 : decode cX5_layForm 33 = .ok (.putfield 158, 3) := by decide +kernel
theorem dX5_layForm_36 : decode cX5_layForm 36 = .ok (.aload_n 0, 1) := by decide +kernel
theorem dX5_layForm_37 : decode cX5_layForm 37 = .ok (.aload_n 0, 1) := by decide +kernel
theorem dX5_layForm_38 : decode cX5_layForm 38 = .ok (.getfield 120, 3) := by decide +kernel
theorem dX5_layForm_41 : decode cX5_layForm 41 = .ok (.aload_n 0, 1) := by decide +kernel
theorem dX5_layForm_42 : decode cX5_layForm 42 = .ok (.getfield 158, 3) := by decide +kernel
theorem dX5_layForm_45 : decode cX5_layForm 45 = .ok (.idiv, 1) := by decide +kernel
theorem dX5_layForm_46 : decode cX5_layForm 46 = .ok (.putfield 161, 3) := by decide +kernel
theorem dX5_layForm_49 : decode cX5_layForm 49 = .ok (.aload_n 0, 1) := by decide +kernel
theorem dX5_layForm_50 : decode cX5_layForm 50 = .ok (.aload_n 0, 1) := by decide +kernel
theorem dX5_layForm_51 : decode cX5_layForm 51 = .ok (.getfield 123, 3) := by decide +kernel
theorem dX5_layForm_54 : decode cX5_layForm 54 = .ok (.aload_n 0, 1) := by decide +kernel
theorem dX5_layForm_55 : decode cX5_layForm 55 = .ok (.getfield 114, 3) := by decide +kernel
theorem dX5_layForm_58 : decode cX5_layForm 58 = .ok (.isub, 1) := by decide +kernel
theorem dX5_layForm_59 : decode cX5_layForm 59 = .ok (.aload_n 0, 1) := by decide +kernel
theorem dX5_layForm_60 : decode cX5_layForm 60 = .ok (.getfield 158, 3) := by decide +kernel
theorem dX5_layForm_63 : decode cX5_layForm 63 = .ok (.idiv, 1) := by decide +kernel
theorem dX5_layForm_64 : decode cX5_layForm 64 = .ok (.putfield 164, 3) := by decide +kernel
theorem dX5_layForm_67 : decode cX5_layForm 67 = .ok (.aload_n 0, 1) := by decide +kernel
theorem dX5_layForm_68 : decode cX5_layForm 68 = .ok (.aload_n 0, 1) := by decide +kernel
theorem dX5_layForm_69 : decode cX5_layForm 69 = .ok (.getfield 117, 3) := by decide +kernel
theorem dX5_layForm_72 : decode cX5_layForm 72 = .ok (.ineg, 1) := by decide +kernel
theorem dX5_layForm_73 : decode cX5_layForm 73 = .ok (.aload_n 0, 1) := by decide +kernel
theorem dX5_layForm_74 : decode cX5_layForm 74 = .ok (.getfield 158, 3) := by decide +kernel
theorem dX5_layForm_77 : decode cX5_layForm 77 = .ok (.idiv, 1) := by decide +kernel
theorem dX5_layForm_78 : decode cX5_layForm 78 = .ok (.putfield 167, 3) := by decide +kernel
theorem dX5_layForm_81 : decode cX5_layForm 81 = .ok (.return_, 1) := by decide +kernel
theorem dX5_discOf_0 : decode cX5_discOf 0 = .ok (.iload_n 1, 1) := by decide +kernel
theorem dX5_discOf_1 : decode cX5_discOf 1 = .ok (.iload_n 1, 1) := by decide +kernel
theorem dX5_discOf_2 : decode cX5_discOf 2 = .ok (.imul, 1) := by decide +kernel
theorem dX5_discOf_3 : decode cX5_discOf 3 = .ok (.iconst 4, 1) := by decide +kernel
theorem dX5_discOf_4 : decode cX5_discOf 4 = .ok (.iload_n 0, 1) := by decide +kernel
theorem dX5_discOf_5 : decode cX5_discOf 5 = .ok (.imul, 1) := by decide +kernel
theorem dX5_discOf_6 : decode cX5_discOf 6 = .ok (.iload_n 2, 1) := by decide +kernel
theorem dX5_discOf_7 : decode cX5_discOf 7 = .ok (.imul, 1) := by decide +kernel
theorem dX5_discOf_8 : decode cX5_discOf 8 = .ok (.isub, 1) := by decide +kernel
theorem dX5_discOf_9 : decode cX5_discOf 9 = .ok (.ireturn, 1) := by decide +kernel
set_option maxRecDepth 20000 in
theorem ggX5_formNow_X5_layForm : GoodIn wsX5_formNow wsX5_layForm := goodIn_r _ [9, 10, 11, 12, 13, 4, 1, 2, 3, 14, 15, 16, 8, 17, 18, 19, 20, 21, 22, 23, 24, 25, 26, 27, 28, 29, 30, 31, 35, 36, 37, 38, 39, 40, 41, 42, 43, 44, 45, 46, 47, 48, 49, 50, 51, 52, 53, 54, 55, 56, 57, 58, 59, 60, 61, 62, 63, 64, 65, 66, 67, 68, 69] (by decide +kernel) (by decide +kernel)
set_option maxRecDepth 20000 in
theorem gX5_formNow_X5_layForm : GoodIn wsX5_formNow (wsV RX5 170 RX5 yX5_layForm wsX5_layForm) := goodIn_app (goodIn_of _ (by decide +kernel)) ggX5_formNow_X5_layForm
set_option maxRecDepth 20000 in
theorem ggX5_formNow_X5_discOf : GoodIn wsX5_formNow wsX5_discOf := goodIn_r _ [34] (by decide +kernel) (by decide +kernel)
set_option maxRecDepth 20000 in
theorem gX5_formNow_X5_discOf : GoodIn wsX5_formNow (va_wsS RX5 173 yX5_discOf wsX5_discOf) := goodIn_app (goodIn_of _ (by decide +kernel)) ggX5_formNow_X5_discOf
theorem dX5_formNow_0 : decode cX5_formNow 0 = .ok (.aload_n 0, 1) := by decide +kernel
theorem dX5_formNow_1 : decode cX5_formNow 1 = .ok (.iload_n 1, 1) := by decide +kernel
theorem dX5_formNow_2 : decode cX5_formNow 2 = .ok (.invokevirtual 170, 3) := by decide +kernel
theorem dX5_formNow_5 : decode cX5_formNow 5 = .ok (.iload_n 2, 1) := by decide +kernel
theorem dX5_formNow_6 : decode cX5_formNow 6 = .ok (.tableswitch 50 0 3 #[30, 35, 40, 45], 30) := by decide +kernel
theorem dX5_formNow_36 : decode cX5_formNow 36 = .ok (.aload_n 0, 1) := by decide +kernel
theorem dX5_formNow_37 : decode cX5_formNow 37 = .ok (.getfield 161, 3) := by decide +kernel
theorem dX5_formNow_40 : decode cX5_formNow 40 = .ok (.ireturn, 1) := by decide +kernel
theorem dX5_formNow_41 : decode cX5_formNow 41 = .ok (.aload_n 0, 1) := by decide +kernel
theorem dX5_formNow_42 : decode cX5_formNow 42 = .ok (.getfield 164, 3) := by decide +kernel
theorem dX5_formNow_45 : decode cX5_formNow 45 = .ok (.ireturn, 1) := by decide +kernel
theorem dX5_formNow_46 : decode cX5_formNow 46 = .ok (.aload_n 0, 1) := by decide +kernel
theorem dX5_formNow_47 : decode cX5_formNow 47 = .ok (.getfield 167, 3) := by decide +kernel
theorem dX5_formNow_50 : decode cX5_formNow 50 = .ok (.ireturn, 1) := by decide +kernel
theorem dX5_formNow_51 : decode cX5_formNow 51 = .ok (.aload_n 0, 1) := by decide +kernel
theorem dX5_formNow_52 : decode cX5_formNow 52 = .ok (.getfield 158, 3) := by decide +kernel
theorem dX5_formNow_55 : decode cX5_formNow 55 = .ok (.ireturn, 1) := by decide +kernel
theorem dX5_formNow_56 : decode cX5_formNow 56 = .ok (.aload_n 0, 1) := by decide +kernel
theorem dX5_formNow_57 : decode cX5_formNow 57 = .ok (.getfield 161, 3) := by decide +kernel
theorem dX5_formNow_60 : decode cX5_formNow 60 = .ok (.aload_n 0, 1) := by decide +kernel
theorem dX5_formNow_61 : decode cX5_formNow 61 = .ok (.getfield 164, 3) := by decide +kernel
theorem dX5_formNow_64 : decode cX5_formNow 64 = .ok (.aload_n 0, 1) := by decide +kernel
theorem dX5_formNow_65 : decode cX5_formNow 65 = .ok (.getfield 167, 3) := by decide +kernel
theorem dX5_formNow_68 : decode cX5_formNow 68 = .ok (.invokestatic 173, 3) := by decide +kernel
theorem dX5_formNow_71 : decode cX5_formNow 71 = .ok (.ireturn, 1) := by decide +kernel
set_option maxRecDepth 20000 in
theorem ggX5_form_X5_isRoad : GoodIn wsX5_form wsX5_isRoad := goodIn_r _ [8, 9, 10, 11, 7, 12, 62, 63, 64, 65, 66, 67, 68, 69, 70, 71, 72, 73, 74, 75, 76, 77, 78, 79, 80, 81, 82, 83, 84, 85, 86, 87, 88, 89, 90, 91, 92, 93, 94, 95, 96] (by decide +kernel) (by decide +kernel)
set_option maxRecDepth 20000 in
theorem gX5_form_X5_isRoad : GoodIn wsX5_form (wsV RX5 142 RX5 yX5_isRoad wsX5_isRoad) := goodIn_app (goodIn_of _ (by decide +kernel)) ggX5_form_X5_isRoad
set_option maxRecDepth 20000 in
theorem ggX5_form_X5_within : GoodIn wsX5_form wsX5_within := goodIn_r _ [12] (by decide +kernel) (by decide +kernel)
set_option maxRecDepth 20000 in
theorem gX5_form_X5_within : GoodIn wsX5_form (va_wsS RX5 50 yX5_within wsX5_within) := goodIn_app (goodIn_of _ (by decide +kernel)) ggX5_form_X5_within
set_option maxRecDepth 20000 in
theorem ggX5_form_X5_isClosed : GoodIn wsX5_form wsX5_isClosed := goodIn_r _ [16, 17, 18, 19, 7, 20, 21, 22, 23, 24, 25, 26, 27, 28, 29, 30, 31, 32, 62, 63, 64, 65, 66, 67, 68, 69, 70, 71, 72, 73, 74, 75, 76, 77, 78, 79, 80, 81, 82, 83, 84, 85, 86, 87, 88, 89, 90, 91, 92, 93, 94, 95, 96] (by decide +kernel) (by decide +kernel)
set_option maxRecDepth 20000 in
theorem gX5_form_X5_isClosed : GoodIn wsX5_form (wsV RX5 177 RX5 yX5_isClosed wsX5_isClosed) := goodIn_app (goodIn_of _ (by decide +kernel)) ggX5_form_X5_isClosed
set_option maxRecDepth 20000 in
theorem ggX5_form_X5_formNow : GoodIn wsX5_form wsX5_formNow := goodIn_r _ [36, 37, 38, 39, 40, 41, 42, 43, 7, 44, 45, 46, 47, 48, 17, 18, 19, 20, 21, 22, 23, 24, 49, 50, 51, 52, 53, 54, 55, 56, 57, 58, 59, 60, 61, 62, 63, 64, 65, 66, 67, 68, 69, 70, 71, 72, 73, 74, 75, 76, 77, 78, 79, 80, 81, 82, 83, 84, 85, 86, 87, 88, 89, 90, 91, 92, 93, 94, 95, 96] (by decide +kernel) (by decide +kernel)
set_option maxRecDepth 20000 in
theorem gX5_form_X5_formNow : GoodIn wsX5_form (wsV RX5 180 RX5 yX5_formNow wsX5_formNow) := goodIn_app (goodIn_of _ (by decide +kernel)) ggX5_form_X5_formNow
theorem dX5_form_0 : decode cX5_form 0 = .ok (.aload_n 0, 1) := by decide +kernel
theorem dX5_form_1 : decode cX5_form 1 = .ok (.iload_n 1, 1) := by decide +kernel
theorem dX5_form_2 : decode cX5_form 2 = .ok (.invokevirtual 142, 3) := by decide +kernel
theorem dX5_form_5 : decode cX5_form 5 = .ok (.ifCond .ne 6, 3) := by decide +kernel
theorem dX5_form_8 : decode cX5_form 8 = .ok (.ldc 145, 2) := by decide +kernel
theorem dX5_form_10 : decode cX5_form 10 = .ok (.ireturn, 1) := by decide +kernel
theorem dX5_form_11 : decode cX5_form 11 = .ok (.iload_n 2, 1) := by decide +kernel
theorem dX5_form_12 : decode cX5_form 12 = .ok (.iconst 0, 1) := by decide +kernel
theorem dX5_form_13 : decode cX5_form 13 = .ok (.iconst 4, 1) := by decide +kernel
theorem dX5_form_14 : decode cX5_form 14 = .ok (.invokestatic 50, 3) := by decide +kernel
theorem dX5_form_17 : decode cX5_form 17 = .ok (.ifCond .ne 6, 3) := by decide +kernel
theorem dX5_form_20 : decode cX5_form 20 = .ok (.ldc 54, 2) := by decide +kernel
theorem dX5_form_22 : decode cX5_form 22 = .ok (.ireturn, 1) := by decide +kernel
theorem dX5_form_23 : decode cX5_form 23 = .ok (.aload_n 0, 1) := by decide +kernel
theorem dX5_form_24 : decode cX5_form 24 = .ok (.iload_n 1, 1) := by decide +kernel
theorem dX5_form_25 : decode cX5_form 25 = .ok (.invokevirtual 177, 3) := by decide +kernel
theorem dX5_form_28 : decode cX5_form 28 = .ok (.ifCond .eq 12, 3) := by decide +kernel
theorem dX5_form_31 : decode cX5_form 31 = .ok (.aload_n 0, 1) := by decide +kernel
theorem dX5_form_32 : decode cX5_form 32 = .ok (.iload_n 1, 1) := by decide +kernel
theorem dX5_form_33 : decode cX5_form 33 = .ok (.iload_n 2, 1) := by decide +kernel
theorem dX5_form_34 : decode cX5_form 34 = .ok (.invokevirtual 180, 3) := by decide +kernel
theorem dX5_form_37 : decode cX5_form 37 = .ok (.goto 5, 3) := by decide +kernel
theorem dX5_form_40 : decode cX5_form 40 = .ok (.ldc 78, 2) := by decide +kernel
theorem dX5_form_42 : decode cX5_form 42 = .ok (.ireturn, 1) := by decide +kernel
set_option maxRecDepth 20000 in
theorem ggX5_endNow_X5_look : GoodIn wsX5_endNow wsX5_look := goodIn_r _ [9, 10, 11, 12, 13, 18, 19, 20, 21, 22, 23, 24, 25, 26, 27, 28, 29, 30, 31, 32, 33, 34, 35, 36, 37, 38, 39, 40, 41, 42, 43, 44, 45, 46, 47, 48, 49, 50, 51, 52] (by decide +kernel) (by decide +kernel)
set_option maxRecDepth 20000 in
theorem gX5_endNow_X5_look : GoodIn wsX5_endNow (wsV RX5 91 RX5 yX5_look wsX5_look) := goodIn_app (goodIn_of _ (by decide +kernel)) ggX5_endNow_X5_look
set_option maxRecDepth 20000 in
theorem ggX5_endNow_X5_layTable : GoodIn wsX5_endNow wsX5_layTable := goodIn_r _ [17, 1, 2, 3, 4, 11, 12, 18, 19, 20, 21, 22, 23, 24, 25, 26, 27, 28, 29, 30, 31, 32, 33, 34, 35, 36, 37, 38, 39, 40, 41, 42, 43, 44, 45, 46, 47, 48, 49, 50, 51, 52] (by decide +kernel) (by decide +kernel)
set_option maxRecDepth 20000 in
theorem gX5_endNow_X5_layTable : GoodIn wsX5_endNow (wsV RX5 126 RX5 yX5_layTable wsX5_layTable) := goodIn_app (goodIn_of _ (by decide +kernel)) ggX5_endNow_X5_layTable
theorem dX5_endNow_0 : decode cX5_endNow 0 = .ok (.aload_n 0, 1) := by decide +kernel
theorem dX5_endNow_1 : decode cX5_endNow 1 = .ok (.iload_n 1, 1) := by decide +kernel
theorem dX5_endNow_2 : decode cX5_endNow 2 = .ok (.invokevirtual 91, 3) := by decide +kernel
theorem dX5_endNow_5 : decode cX5_endNow 5 = .ok (.aload_n 0, 1) := by decide +kernel
theorem dX5_endNow_6 : decode cX5_endNow 6 = .ok (.invokevirtual 126, 3) := by decide +kernel
theorem dX5_endNow_9 : decode cX5_endNow 9 = .ok (.iload_n 2, 1) := by decide +kernel
theorem dX5_endNow_10 : decode cX5_endNow 10 = .ok (.ifCond .ne 15, 3) := by decide +kernel
theorem dX5_endNow_13 : decode cX5_endNow 13 = .ok (.aload_n 0, 1) := by decide +kernel
theorem dX5_endNow_14 : decode cX5_endNow 14 = .ok (.getfield 114, 3) := by decide +kernel
theorem dX5_endNow_17 : decode cX5_endNow 17 = .ok (.aload_n 0, 1) := by decide +kernel
theorem dX5_endNow_18 : decode cX5_endNow 18 = .ok (.getfield 117, 3) := by decide +kernel
theorem dX5_endNow_21 : decode cX5_endNow 21 = .ok (.iadd, 1) := by decide +kernel
theorem dX5_endNow_22 : decode cX5_endNow 22 = .ok (.goto 12, 3) := by decide +kernel
theorem dX5_endNow_25 : decode cX5_endNow 25 = .ok (.aload_n 0, 1) := by decide +kernel
theorem dX5_endNow_26 : decode cX5_endNow 26 = .ok (.getfield 120, 3) := by decide +kernel
theorem dX5_endNow_29 : decode cX5_endNow 29 = .ok (.aload_n 0, 1) := by decide +kernel
theorem dX5_endNow_30 : decode cX5_endNow 30 = .ok (.getfield 123, 3) := by decide +kernel
theorem dX5_endNow_33 : decode cX5_endNow 33 = .ok (.iadd, 1) := by decide +kernel
theorem dX5_endNow_34 : decode cX5_endNow 34 = .ok (.ireturn, 1) := by decide +kernel
set_option maxRecDepth 20000 in
theorem ggX5_end_X5_isRoad : GoodIn wsX5_end wsX5_isRoad := goodIn_r _ [7, 8, 9, 10, 6, 11, 32, 33, 34, 35, 36, 37, 38, 39, 40, 41, 42, 43, 44, 45, 46, 47, 48, 49, 50, 51, 52, 53, 54, 55, 56, 57, 58, 59, 60, 61, 62, 63, 64, 65, 66] (by decide +kernel) (by decide +kernel)
set_option maxRecDepth 20000 in
theorem gX5_end_X5_isRoad : GoodIn wsX5_end (wsV RX5 142 RX5 yX5_isRoad wsX5_isRoad) := goodIn_app (goodIn_of _ (by decide +kernel)) ggX5_end_X5_isRoad
set_option maxRecDepth 20000 in
theorem ggX5_end_X5_within : GoodIn wsX5_end wsX5_within := goodIn_r _ [11] (by decide +kernel) (by decide +kernel)
set_option maxRecDepth 20000 in
theorem gX5_end_X5_within : GoodIn wsX5_end (va_wsS RX5 50 yX5_within wsX5_within) := goodIn_app (goodIn_of _ (by decide +kernel)) ggX5_end_X5_within
set_option maxRecDepth 20000 in
theorem ggX5_end_X5_endNow : GoodIn wsX5_end wsX5_endNow := goodIn_r _ [15, 16, 17, 18, 19, 20, 21, 22, 6, 23, 24, 25, 26, 27, 28, 29, 30, 31, 32, 33, 34, 35, 36, 37, 38, 39, 40, 41, 42, 43, 44, 45, 46, 47, 48, 49, 50, 51, 52, 53, 54, 55, 56, 57, 58, 59, 60, 61, 62, 63, 64, 65, 66] (by decide +kernel) (by decide +kernel)
set_option maxRecDepth 20000 in
theorem gX5_end_X5_endNow : GoodIn wsX5_end (wsV RX5 183 RX5 yX5_endNow wsX5_endNow) := goodIn_app (goodIn_of _ (by decide +kernel)) ggX5_end_X5_endNow
theorem dX5_end_0 : decode cX5_end 0 = .ok (.aload_n 0, 1) := by decide +kernel
theorem dX5_end_1 : decode cX5_end 1 = .ok (.iload_n 1, 1) := by decide +kernel
theorem dX5_end_2 : decode cX5_end 2 = .ok (.invokevirtual 142, 3) := by decide +kernel
theorem dX5_end_5 : decode cX5_end 5 = .ok (.ifCond .ne 8, 3) := by decide +kernel
theorem dX5_end_8 : decode cX5_end 8 = .ok (.ldc 145, 2) := by decide +kernel
theorem dX5_end_10 : decode cX5_end 10 = .ok (.goto 23, 3) := by decide +kernel
theorem dX5_end_13 : decode cX5_end 13 = .ok (.iload_n 2, 1) := by decide +kernel
theorem dX5_end_14 : decode cX5_end 14 = .ok (.iconst 0, 1) := by decide +kernel
theorem dX5_end_15 : decode cX5_end 15 = .ok (.iconst 1, 1) := by decide +kernel
theorem dX5_end_16 : decode cX5_end 16 = .ok (.invokestatic 50, 3) := by decide +kernel
theorem dX5_end_19 : decode cX5_end 19 = .ok (.ifCond .eq 12, 3) := by decide +kernel
theorem dX5_end_22 : decode cX5_end 22 = .ok (.aload_n 0, 1) := by decide +kernel
theorem dX5_end_23 : decode cX5_end 23 = .ok (.iload_n 1, 1) := by decide +kernel
theorem dX5_end_24 : decode cX5_end 24 = .ok (.iload_n 2, 1) := by decide +kernel
theorem dX5_end_25 : decode cX5_end 25 = .ok (.invokevirtual 183, 3) := by decide +kernel
theorem dX5_end_28 : decode cX5_end 28 = .ok (.goto 5, 3) := by decide +kernel
theorem dX5_end_31 : decode cX5_end 31 = .ok (.ldc 54, 2) := by decide +kernel
theorem dX5_end_33 : decode cX5_end 33 = .ok (.ireturn, 1) := by decide +kernel
set_option maxRecDepth 20000 in
theorem ggX5_alikeNow_X5_look : GoodIn wsX5_alikeNow wsX5_look := goodIn_r _ [5, 6, 7, 8, 9, 21, 22, 23, 24, 25, 26, 27, 28, 29, 30, 31, 32, 33, 34, 35, 36, 37, 38, 39, 40, 41, 42, 43, 44, 45, 46, 47, 48, 49, 50, 51, 52, 53, 54, 55] (by decide +kernel) (by decide +kernel)
set_option maxRecDepth 20000 in
theorem gX5_alikeNow_X5_look : GoodIn wsX5_alikeNow (wsV RX5 91 RX5 yX5_look wsX5_look) := goodIn_app (goodIn_of _ (by decide +kernel)) ggX5_alikeNow_X5_look
set_option maxRecDepth 20000 in
theorem ggX5_alikeNow_X5_layOther : GoodIn wsX5_alikeNow wsX5_layOther := goodIn_r _ [13, 7, 14, 8, 15, 21, 22, 23, 24, 25, 26, 27, 28, 29, 30, 31, 32, 33, 34, 35, 36, 37, 38, 39, 40, 41, 42, 43, 44, 45, 46, 47, 48, 49, 50, 51, 52, 53, 54, 55] (by decide +kernel) (by decide +kernel)
set_option maxRecDepth 20000 in
theorem gX5_alikeNow_X5_layOther : GoodIn wsX5_alikeNow (wsV RX5 107 RX5 yX5_layOther wsX5_layOther) := goodIn_app (goodIn_of _ (by decide +kernel)) ggX5_alikeNow_X5_layOther
set_option maxRecDepth 20000 in
theorem ggX5_alikeNow_X5_turnTo : GoodIn wsX5_alikeNow wsX5_turnTo := goodIn_r _ [19, 7, 14, 8, 15, 20, 21, 22, 23, 24, 25, 26, 27, 28, 29, 30, 31, 32, 33, 34, 35, 36, 37, 38, 39, 40, 41, 42, 43, 44, 45, 46, 47, 48, 49, 50, 51, 52, 53, 54, 55] (by decide +kernel) (by decide +kernel)
set_option maxRecDepth 20000 in
theorem gX5_alikeNow_X5_turnTo : GoodIn wsX5_alikeNow (wsV RX5 111 RX5 yX5_turnTo wsX5_turnTo) := goodIn_app (goodIn_of _ (by decide +kernel)) ggX5_alikeNow_X5_turnTo
theorem dX5_alikeNow_0 : decode cX5_alikeNow 0 = .ok (.aload_n 0, 1) := by decide +kernel
theorem dX5_alikeNow_1 : decode cX5_alikeNow 1 = .ok (.iload_n 2, 1) := by decide +kernel
theorem dX5_alikeNow_2 : decode cX5_alikeNow 2 = .ok (.invokevirtual 91, 3) := by decide +kernel
theorem dX5_alikeNow_5 : decode cX5_alikeNow 5 = .ok (.aload_n 0, 1) := by decide +kernel
theorem dX5_alikeNow_6 : decode cX5_alikeNow 6 = .ok (.iconst 0, 1) := by decide +kernel
theorem dX5_alikeNow_7 : decode cX5_alikeNow 7 = .ok (.iconst 0, 1) := by decide +kernel
theorem dX5_alikeNow_8 : decode cX5_alikeNow 8 = .ok (.invokevirtual 107, 3) := by decide +kernel
theorem dX5_alikeNow_11 : decode cX5_alikeNow 11 = .ok (.aload_n 0, 1) := by decide +kernel
theorem dX5_alikeNow_12 : decode cX5_alikeNow 12 = .ok (.iload_n 1, 1) := by decide +kernel
theorem dX5_alikeNow_13 : decode cX5_alikeNow 13 = .ok (.invokevirtual 91, 3) := by decide +kernel
theorem dX5_alikeNow_16 : decode cX5_alikeNow 16 = .ok (.aload_n 0, 1) := by decide +kernel
theorem dX5_alikeNow_17 : decode cX5_alikeNow 17 = .ok (.invokevirtual 111, 3) := by decide +kernel
theorem dX5_alikeNow_20 : decode cX5_alikeNow 20 = .ok (.ireturn, 1) := by decide +kernel
set_option maxRecDepth 20000 in
theorem ggX5_alike_X5_isRoad : GoodIn wsX5_alike wsX5_isRoad := goodIn_r _ [6, 7, 8, 9, 5, 10, 34, 35, 36, 37, 38, 39, 40, 41, 42, 43, 44, 45, 46, 47, 48, 49, 50, 51, 52, 53, 54, 55, 56, 57, 58, 59, 60, 61, 62, 63, 64, 65, 66, 67, 68] (by decide +kernel) (by decide +kernel)
set_option maxRecDepth 20000 in
theorem gX5_alike_X5_isRoad : GoodIn wsX5_alike (wsV RX5 142 RX5 yX5_isRoad wsX5_isRoad) := goodIn_app (goodIn_of _ (by decide +kernel)) ggX5_alike_X5_isRoad
set_option maxRecDepth 20000 in
theorem ggX5_alike_X5_alikeNow : GoodIn wsX5_alike wsX5_alikeNow := goodIn_r _ [14, 15, 16, 17, 5, 18, 19, 20, 21, 22, 23, 24, 25, 26, 27, 28, 29, 30, 31, 32, 33, 34, 35, 36, 37, 38, 39, 40, 41, 42, 43, 44, 45, 46, 47, 48, 49, 50, 51, 52, 53, 54, 55, 56, 57, 58, 59, 60, 61, 62, 63, 64, 65, 66, 67, 68] (by decide +kernel) (by decide +kernel)
set_option maxRecDepth 20000 in
theorem gX5_alike_X5_alikeNow : GoodIn wsX5_alike (wsV RX5 186 RX5 yX5_alikeNow wsX5_alikeNow) := goodIn_app (goodIn_of _ (by decide +kernel)) ggX5_alike_X5_alikeNow
theorem dX5_alike_0 : decode cX5_alike 0 = .ok (.aload_n 0, 1) := by decide +kernel
theorem dX5_alike_1 : decode cX5_alike 1 = .ok (.iload_n 1, 1) := by decide +kernel
theorem dX5_alike_2 : decode cX5_alike 2 = .ok (.invokevirtual 142, 3) := by decide +kernel
theorem dX5_alike_5 : decode cX5_alike 5 = .ok (.ifCond .eq 20, 3) := by decide +kernel
theorem dX5_alike_8 : decode cX5_alike 8 = .ok (.aload_n 0, 1) := by decide +kernel
theorem dX5_alike_9 : decode cX5_alike 9 = .ok (.iload_n 2, 1) := by decide +kernel
theorem dX5_alike_10 : decode cX5_alike 10 = .ok (.invokevirtual 142, 3) := by decide +kernel
theorem dX5_alike_13 : decode cX5_alike 13 = .ok (.ifCond .eq 12, 3) := by decide +kernel
theorem dX5_alike_16 : decode cX5_alike 16 = .ok (.aload_n 0, 1) := by decide +kernel
theorem dX5_alike_17 : decode cX5_alike 17 = .ok (.iload_n 1, 1) := by decide +kernel
theorem dX5_alike_18 : decode cX5_alike 18 = .ok (.iload_n 2, 1) := by decide +kernel
theorem dX5_alike_19 : decode cX5_alike 19 = .ok (.invokevirtual 186, 3) := by decide +kernel
theorem dX5_alike_22 : decode cX5_alike 22 = .ok (.goto 5, 3) := by decide +kernel
theorem dX5_alike_25 : decode cX5_alike 25 = .ok (.ldc 145, 2) := by decide +kernel
theorem dX5_alike_27 : decode cX5_alike 27 = .ok (.ireturn, 1) := by decide +kernel
theorem dX5_isCross_0 : decode cX5_isCross 0 = .ok (.aload_n 0, 1) := by decide +kernel
theorem dX5_isCross_1 : decode cX5_isCross 1 = .ok (.getfield 40, 3) := by decide +kernel
theorem dX5_isCross_4 : decode cX5_isCross 4 = .ok (.iload_n 1, 1) := by decide +kernel
theorem dX5_isCross_5 : decode cX5_isCross 5 = .ok (.iaload, 1) := by decide +kernel
theorem dX5_isCross_6 : decode cX5_isCross 6 = .ok (.istore_n 3, 1) := by decide +kernel
theorem dX5_isCross_7 : decode cX5_isCross 7 = .ok (.aload_n 0, 1) := by decide +kernel
theorem dX5_isCross_8 : decode cX5_isCross 8 = .ok (.getfield 43, 3) := by decide +kernel
theorem dX5_isCross_11 : decode cX5_isCross 11 = .ok (.iload_n 2, 1) := by decide +kernel
theorem dX5_isCross_12 : decode cX5_isCross 12 = .ok (.iaload, 1) := by decide +kernel
theorem dX5_isCross_13 : decode cX5_isCross 13 = .ok (.istore 4, 2) := by decide +kernel
theorem dX5_isCross_15 : decode cX5_isCross 15 = .ok (.iload_n 3, 1) := by decide +kernel
theorem dX5_isCross_16 : decode cX5_isCross 16 = .ok (.iload 4, 2) := by decide +kernel
theorem dX5_isCross_18 : decode cX5_isCross 18 = .ok (.if_icmp .ne 5, 3) := by decide +kernel
theorem dX5_isCross_21 : decode cX5_isCross 21 = .ok (.iconst 0, 1) := by decide +kernel
theorem dX5_isCross_22 : decode cX5_isCross 22 = .ok (.ireturn, 1) := by decide +kernel
theorem dX5_isCross_23 : decode cX5_isCross 23 = .ok (.iload_n 1, 1) := by decide +kernel
theorem dX5_isCross_24 : decode cX5_isCross 24 = .ok (.istore 5, 2) := by decide +kernel
theorem dX5_isCross_26 : decode cX5_isCross 26 = .ok (.iload_n 2, 1) := by decide +kernel
theorem dX5_isCross_27 : decode cX5_isCross 27 = .ok (.istore 6, 2) := by decide +kernel
theorem dX5_isCross_29 : decode cX5_isCross 29 = .ok (.iload 5, 2) := by decide +kernel
theorem dX5_isCross_31 : decode cX5_isCross 31 = .ok (.aload_n 0, 1) := by decide +kernel
theorem dX5_isCross_32 : decode cX5_isCross 32 = .ok (.getfield 85, 3) := by decide +kernel
theorem dX5_isCross_35 : decode cX5_isCross 35 = .ok (.iadd, 1) := by decide +kernel
theorem dX5_isCross_36 : decode cX5_isCross 36 = .ok (.iconst 1, 1) := by decide +kernel
theorem dX5_isCross_37 : decode cX5_isCross 37 = .ok (.isub, 1) := by decide +kernel
theorem dX5_isCross_38 : decode cX5_isCross 38 = .ok (.aload_n 0, 1) := by decide +kernel
theorem dX5_isCross_39 : decode cX5_isCross 39 = .ok (.getfield 85, 3) := by decide +kernel
theorem dX5_isCross_42 : decode cX5_isCross 42 = .ok (.irem, 1) := by decide +kernel
theorem dX5_isCross_43 : decode cX5_isCross 43 = .ok (.istore 5, 2) := by decide +kernel
theorem dX5_isCross_45 : decode cX5_isCross 45 = .ok (.iload 6, 2) := by decide +kernel
theorem dX5_isCross_47 : decode cX5_isCross 47 = .ok (.aload_n 0, 1) := by decide +kernel
theorem dX5_isCross_48 : decode cX5_isCross 48 = .ok (.getfield 103, 3) := by decide +kernel
theorem dX5_isCross_51 : decode cX5_isCross 51 = .ok (.iadd, 1) := by decide +kernel
theorem dX5_isCross_52 : decode cX5_isCross 52 = .ok (.iconst 1, 1) := by decide +kernel
theorem dX5_isCross_53 : decode cX5_isCross 53 = .ok (.isub, 1) := by decide +kernel
theorem dX5_isCross_54 : decode cX5_isCross 54 = .ok (.aload_n 0, 1) := by decide +kernel
theorem dX5_isCross_55 : decode cX5_isCross 55 = .ok (.getfield 103, 3) := by decide +kernel
theorem dX5_isCross_58 : decode cX5_isCross 58 = .ok (.irem, 1) := by decide +kernel
theorem dX5_isCross_59 : decode cX5_isCross 59 = .ok (.istore 6, 2) := by decide +kernel
theorem dX5_isCross_61 : decode cX5_isCross 61 = .ok (.aload_n 0, 1) := by decide +kernel
theorem dX5_isCross_62 : decode cX5_isCross 62 = .ok (.getfield 40, 3) := by decide +kernel
theorem dX5_isCross_65 : decode cX5_isCross 65 = .ok (.iload 5, 2) := by decide +kernel
theorem dX5_isCross_67 : decode cX5_isCross 67 = .ok (.iaload, 1) := by decide +kernel
theorem dX5_isCross_68 : decode cX5_isCross 68 = .ok (.aload_n 0, 1) := by decide +kernel
theorem dX5_isCross_69 : decode cX5_isCross 69 = .ok (.getfield 43, 3) := by decide +kernel
theorem dX5_isCross_72 : decode cX5_isCross 72 = .ok (.iload 6, 2) := by decide +kernel
theorem dX5_isCross_74 : decode cX5_isCross 74 = .ok (.iaload, 1) := by decide +kernel
theorem dX5_isCross_75 : decode cX5_isCross 75 = .ok (.if_icmp .eq (-46), 3) := by decide +kernel
theorem dX5_isCross_78 : decode cX5_isCross 78 = .ok (.aload_n 0, 1) := by decide +kernel
theorem dX5_isCross_79 : decode cX5_isCross 79 = .ok (.getfield 40, 3) := by decide +kernel
theorem dX5_isCross_82 : decode cX5_isCross 82 = .ok (.iload 5, 2) := by decide +kernel
theorem dX5_isCross_84 : decode cX5_isCross 84 = .ok (.iaload, 1) := by decide +kernel
theorem dX5_isCross_85 : decode cX5_isCross 85 = .ok (.iload 4, 2) := by decide +kernel
theorem dX5_isCross_87 : decode cX5_isCross 87 = .ok (.if_icmp .ne 7, 3) := by decide +kernel
theorem dX5_isCross_90 : decode cX5_isCross 90 = .ok (.iconst 1, 1) := by decide +kernel
theorem dX5_isCross_91 : decode cX5_isCross 91 = .ok (.goto 4, 3) := by decide +kernel
theorem dX5_isCross_94 : decode cX5_isCross 94 = .ok (.iconst 0, 1) := by decide +kernel
theorem dX5_isCross_95 : decode cX5_isCross 95 = .ok (.ireturn, 1) := by decide +kernel
set_option maxRecDepth 20000 in
theorem ggX5_crossNow_X5_isCross : GoodIn wsX5_crossNow wsX5_isCross := goodIn_r _ [7, 8, 9, 1, 2, 10, 11, 12, 13, 14, 15, 16, 17, 18, 19, 20, 21, 22, 23, 24, 25, 26, 27, 28, 29, 30, 31, 32, 33, 34, 35, 36, 37, 38, 39, 40, 41, 42, 43, 44] (by decide +kernel) (by decide +kernel)
set_option maxRecDepth 20000 in
theorem gX5_crossNow_X5_isCross : GoodIn wsX5_crossNow (wsV RX5 189 RX5 yX5_isCross wsX5_isCross) := goodIn_app (goodIn_of _ (by decide +kernel)) ggX5_crossNow_X5_isCross
theorem dX5_crossNow_0 : decode cX5_crossNow 0 = .ok (.iconst 0, 1) := by decide +kernel
theorem dX5_crossNow_1 : decode cX5_crossNow 1 = .ok (.istore_n 1, 1) := by decide +kernel
theorem dX5_crossNow_2 : decode cX5_crossNow 2 = .ok (.iconst 0, 1) := by decide +kernel
theorem dX5_crossNow_3 : decode cX5_crossNow 3 = .ok (.istore_n 2, 1) := by decide +kernel
theorem dX5_crossNow_4 : decode cX5_crossNow 4 = .ok (.iload_n 2, 1) := by decide +kernel
theorem dX5_crossNow_5 : decode cX5_crossNow 5 = .ok (.aload_n 0, 1) := by decide +kernel
theorem dX5_crossNow_6 : decode cX5_crossNow 6 = .ok (.getfield 85, 3) := by decide +kernel
theorem dX5_crossNow_9 : decode cX5_crossNow 9 = .ok (.if_icmp .ge 42, 3) := by decide +kernel
theorem dX5_crossNow_12 : decode cX5_crossNow 12 = .ok (.iconst 0, 1) := by decide +kernel
theorem dX5_crossNow_13 : decode cX5_crossNow 13 = .ok (.istore_n 3, 1) := by decide +kernel
theorem dX5_crossNow_14 : decode cX5_crossNow 14 = .ok (.iload_n 3, 1) := by decide +kernel
theorem dX5_crossNow_15 : decode cX5_crossNow 15 = .ok (.aload_n 0, 1) := by decide +kernel
theorem dX5_crossNow_16 : decode cX5_crossNow 16 = .ok (.getfield 103, 3) := by decide +kernel
theorem dX5_crossNow_19 : decode cX5_crossNow 19 = .ok (.if_icmp .ge 26, 3) := by decide +kernel
theorem dX5_crossNow_22 : decode cX5_crossNow 22 = .ok (.iload_n 1, 1) := by decide +kernel
theorem dX5_crossNow_23 : decode cX5_crossNow 23 = .ok (.aload_n 0, 1) := by decide +kernel
theorem dX5_crossNow_24 : decode cX5_crossNow 24 = .ok (.iload_n 2, 1) := by decide +kernel
theorem dX5_crossNow_25 : decode cX5_crossNow 25 = .ok (.iload_n 3, 1) := by decide +kernel
theorem dX5_crossNow_26 : decode cX5_crossNow 26 = .ok (.invokevirtual 189, 3) := by decide +kernel
theorem dX5_crossNow_29 : decode cX5_crossNow 29 = .ok (.ifCond .eq 7, 3) := by decide +kernel
theorem dX5_crossNow_32 : decode cX5_crossNow 32 = .ok (.iconst 1, 1) := by decide +kernel
theorem dX5_crossNow_33 : decode cX5_crossNow 33 = .ok (.goto 4, 3) := by decide +kernel
theorem dX5_crossNow_36 : decode cX5_crossNow 36 = .ok (.iconst 0, 1) := by decide +kernel
theorem dX5_crossNow_37 : decode cX5_crossNow 37 = .ok (.iadd, 1) := by decide +kernel
theorem dX5_crossNow_38 : decode cX5_crossNow 38 = .ok (.istore_n 1, 1) := by decide +kernel
theorem dX5_crossNow_39 : decode cX5_crossNow 39 = .ok (.iinc 3 1, 3) := by decide +kernel
theorem dX5_crossNow_42 : decode cX5_crossNow 42 = .ok (.goto (-28), 3) := by decide +kernel
theorem dX5_crossNow_45 : decode cX5_crossNow 45 = .ok (.iinc 2 1, 3) := by decide +kernel
theorem dX5_crossNow_48 : decode cX5_crossNow 48 = .ok (.goto (-44), 3) := by decide +kernel
theorem dX5_crossNow_51 : decode cX5_crossNow 51 = .ok (.iload_n 1, 1) := by decide +kernel
theorem dX5_crossNow_52 : decode cX5_crossNow 52 = .ok (.ireturn, 1) := by decide +kernel
set_option maxRecDepth 20000 in
theorem ggX5_crossings_X5_look : GoodIn wsX5_crossings wsX5_look := goodIn_r _ [5, 6, 7, 8, 9, 24, 25, 26, 27, 28, 29, 30, 31, 32, 33, 34, 35, 36, 37, 38, 39, 40, 41, 42, 43, 44, 45, 46, 47, 48, 49, 50, 51, 52, 53, 54, 55, 56, 57, 58] (by decide +kernel) (by decide +kernel)
set_option maxRecDepth 20000 in
theorem gX5_crossings_X5_look : GoodIn wsX5_crossings (wsV RX5 91 RX5 yX5_look wsX5_look) := goodIn_app (goodIn_of _ (by decide +kernel)) ggX5_crossings_X5_look
set_option maxRecDepth 20000 in
theorem ggX5_crossings_X5_layOther : GoodIn wsX5_crossings wsX5_layOther := goodIn_r _ [13, 7, 14, 8, 15, 24, 25, 26, 27, 28, 29, 30, 31, 32, 33, 34, 35, 36, 37, 38, 39, 40, 41, 42, 43, 44, 45, 46, 47, 48, 49, 50, 51, 52, 53, 54, 55, 56, 57, 58] (by decide +kernel) (by decide +kernel)
set_option maxRecDepth 20000 in
theorem gX5_crossings_X5_layOther : GoodIn wsX5_crossings (wsV RX5 107 RX5 yX5_layOther wsX5_layOther) := goodIn_app (goodIn_of _ (by decide +kernel)) ggX5_crossings_X5_layOther
set_option maxRecDepth 20000 in
theorem ggX5_crossings_X5_crossNow : GoodIn wsX5_crossings wsX5_crossNow := goodIn_r _ [19, 7, 14, 20, 21, 22, 4, 23, 8, 15, 24, 25, 26, 27, 28, 29, 30, 31, 32, 33, 34, 35, 36, 37, 38, 39, 40, 41, 42, 43, 44, 45, 46, 47, 48, 49, 50, 51, 52, 53, 54, 55, 56, 57, 58] (by decide +kernel) (by decide +kernel)
set_option maxRecDepth 20000 in
theorem gX5_crossings_X5_crossNow : GoodIn wsX5_crossings (wsV RX5 193 RX5 yX5_crossNow wsX5_crossNow) := goodIn_app (goodIn_of _ (by decide +kernel)) ggX5_crossings_X5_crossNow
theorem dX5_crossings_0 : decode cX5_crossings 0 = .ok (.aload_n 0, 1) := by decide +kernel
theorem dX5_crossings_1 : decode cX5_crossings 1 = .ok (.iload_n 2, 1) := by decide +kernel
theorem dX5_crossings_2 : decode cX5_crossings 2 = .ok (.invokevirtual 91, 3) := by decide +kernel
theorem dX5_crossings_5 : decode cX5_crossings 5 = .ok (.aload_n 0, 1) := by decide +kernel
theorem dX5_crossings_6 : decode cX5_crossings 6 = .ok (.iconst 0, 1) := by decide +kernel
theorem dX5_crossings_7 : decode cX5_crossings 7 = .ok (.iconst 0, 1) := by decide +kernel
theorem dX5_crossings_8 : decode cX5_crossings 8 = .ok (.invokevirtual 107, 3) := by decide +kernel
theorem dX5_crossings_11 : decode cX5_crossings 11 = .ok (.aload_n 0, 1) := by decide +kernel
theorem dX5_crossings_12 : decode cX5_crossings 12 = .ok (.iload_n 1, 1) := by decide +kernel
theorem dX5_crossings_13 : decode cX5_crossings 13 = .ok (.invokevirtual 91, 3) := by decide +kernel
theorem dX5_crossings_16 : decode cX5_crossings 16 = .ok (.aload_n 0, 1) := by decide +kernel
theorem dX5_crossings_17 : decode cX5_crossings 17 = .ok (.invokevirtual 193, 3) := by decide +kernel
theorem dX5_crossings_20 : decode cX5_crossings 20 = .ok (.ireturn, 1) := by decide +kernel
set_option maxRecDepth 20000 in
theorem ggX5_cross_X5_isRoad : GoodIn wsX5_cross wsX5_isRoad := goodIn_r _ [7, 8, 9, 10, 6, 11, 50, 51, 52, 53, 54, 55, 56, 57, 58, 59, 60, 61, 62, 63, 64, 65, 66, 67, 68, 69, 70, 71, 72, 73, 74, 75, 76, 77, 78, 79, 80, 81, 82, 83, 84] (by decide +kernel) (by decide +kernel)
set_option maxRecDepth 20000 in
theorem gX5_cross_X5_isRoad : GoodIn wsX5_cross (wsV RX5 142 RX5 yX5_isRoad wsX5_isRoad) := goodIn_app (goodIn_of _ (by decide +kernel)) ggX5_cross_X5_isRoad
set_option maxRecDepth 20000 in
theorem ggX5_cross_X5_isClosed : GoodIn wsX5_cross wsX5_isClosed := goodIn_r _ [15, 16, 17, 18, 6, 19, 20, 21, 22, 23, 24, 25, 26, 27, 28, 29, 30, 31, 50, 51, 52, 53, 54, 55, 56, 57, 58, 59, 60, 61, 62, 63, 64, 65, 66, 67, 68, 69, 70, 71, 72, 73, 74, 75, 76, 77, 78, 79, 80, 81, 82, 83, 84] (by decide +kernel) (by decide +kernel)
set_option maxRecDepth 20000 in
theorem gX5_cross_X5_isClosed : GoodIn wsX5_cross (wsV RX5 177 RX5 yX5_isClosed wsX5_isClosed) := goodIn_app (goodIn_of _ (by decide +kernel)) ggX5_cross_X5_isClosed
set_option maxRecDepth 20000 in
theorem ggX5_cross_X5_crossings : GoodIn wsX5_cross wsX5_crossings := goodIn_r _ [35, 16, 17, 18, 6, 19, 20, 21, 22, 23, 36, 37, 38, 39, 40, 41, 42, 43, 44, 45, 46, 47, 48, 49, 50, 51, 52, 53, 54, 55, 56, 57, 58, 59, 60, 61, 62, 63, 64, 65, 66, 67, 68, 69, 70, 71, 72, 73, 74, 75, 76, 77, 78, 79, 80, 81, 82, 83, 84] (by decide +kernel) (by decide +kernel)
set_option maxRecDepth 20000 in
theorem gX5_cross_X5_crossings : GoodIn wsX5_cross (wsV RX5 196 RX5 yX5_crossings wsX5_crossings) := goodIn_app (goodIn_of _ (by decide +kernel)) ggX5_cross_X5_crossings
theorem dX5_cross_0 : decode cX5_cross 0 = .ok (.aload_n 0, 1) := by decide +kernel
theorem dX5_cross_1 : decode cX5_cross 1 = .ok (.iload_n 1, 1) := by decide +kernel
theorem dX5_cross_2 : decode cX5_cross 2 = .ok (.invokevirtual 142, 3) := by decide +kernel
theorem dX5_cross_5 : decode cX5_cross 5 = .ok (.ifCond .eq 11, 3) := by decide +kernel
theorem dX5_cross_8 : decode cX5_cross 8 = .ok (.aload_n 0, 1) := by decide +kernel
theorem dX5_cross_9 : decode cX5_cross 9 = .ok (.iload_n 2, 1) := by decide +kernel
theorem dX5_cross_10 : decode cX5_cross 10 = .ok (.invokevirtual 142, 3) := by decide +kernel
theorem dX5_cross_13 : decode cX5_cross 13 = .ok (.ifCond .ne 6, 3) := by decide +kernel
