set_option maxRecDepth 20000 in
theorem ggX5_findNext_X5_numberOf : GoodIn wsX5_findNext wsX5_numberOf := goodIn_r _ [12, 13, 1, 2, 3, 14, 15, 16, 17, 18, 19, 20, 21, 22, 23, 24, 25, 26, 27, 28, 29, 30, 31, 32, 33, 34, 35, 36, 37, 38, 39, 40, 41, 42, 43, 44, 45, 46, 47, 48, 49] (by decide +kernel) (by decide +kernel)
set_option maxRecDepth 20000 in
theorem gX5_findNext_X5_numberOf : GoodIn wsX5_findNext (wsV RX5 218 RX5 yX5_numberOf wsX5_numberOf) := goodIn_app (goodIn_of _ (by decide +kernel)) ggX5_findNext_X5_numberOf
theorem dX5_findNext_0 : decode cX5_findNext 0 = .ok (.aload_n 0, 1) := by decide +kernel
theorem dX5_findNext_1 : decode cX5_findNext 1 = .ok (.getfield 19, 3) := by decide +kernel
theorem dX5_findNext_4 : decode cX5_findNext 4 = .ok (.iload_n 1, 1) := by decide +kernel
theorem dX5_findNext_5 : decode cX5_findNext 5 = .ok (.iaload, 1) := by decide +kernel
theorem dX5_findNext_6 : decode cX5_findNext 6 = .ok (.aload_n 0, 1) := by decide +kernel
theorem dX5_findNext_7 : decode cX5_findNext 7 = .ok (.getfield 22, 3) := by decide +kernel
theorem dX5_findNext_10 : decode cX5_findNext 10 = .ok (.iload_n 1, 1) := by decide +kernel
theorem dX5_findNext_11 : decode cX5_findNext 11 = .ok (.iaload, 1) := by decide +kernel
theorem dX5_findNext_12 : decode cX5_findNext 12 = .ok (.iadd, 1) := by decide +kernel
theorem dX5_findNext_13 : decode cX5_findNext 13 = .ok (.aload_n 0, 1) := by decide +kernel
theorem dX5_findNext_14 : decode cX5_findNext 14 = .ok (.getfield 25, 3) := by decide +kernel
theorem dX5_findNext_17 : decode cX5_findNext 17 = .ok (.iload_n 1, 1) := by decide +kernel
theorem dX5_findNext_18 : decode cX5_findNext 18 = .ok (.iaload, 1) := by decide +kernel
theorem dX5_findNext_19 : decode cX5_findNext 19 = .ok (.iadd, 1) := by decide +kernel
theorem dX5_findNext_20 : decode cX5_findNext 20 = .ok (.istore_n 2, 1) := by decide +kernel
theorem dX5_findNext_21 : decode cX5_findNext 21 = .ok (.aload_n 0, 1) := by decide +kernel
theorem dX5_findNext_22 : decode cX5_findNext 22 = .ok (.iload_n 1, 1) := by decide +kernel
theorem dX5_findNext_23 : decode cX5_findNext 23 = .ok (.invokevirtual 215, 3) := by decide +kernel
theorem dX5_findNext_26 : decode cX5_findNext 26 = .ok (.ifCond .eq 32, 3) := by decide +kernel
theorem dX5_findNext_29 : decode cX5_findNext 29 = .ok (.aload_n 0, 1) := by decide +kernel
theorem dX5_findNext_30 : decode cX5_findNext 30 = .ok (.iload_n 2, 1) := by decide +kernel
theorem dX5_findNext_31 : decode cX5_findNext 31 = .ok (.aload_n 0, 1) := by decide +kernel
theorem dX5_findNext_32 : decode cX5_findNext 32 = .ok (.getfield 22, 3) := by decide +kernel
theorem dX5_findNext_35 : decode cX5_findNext 35 = .ok (.iload_n 1, 1) := by decide +kernel
theorem dX5_findNext_36 : decode cX5_findNext 36 = .ok (.iaload, 1) := by decide +kernel
theorem dX5_findNext_37 : decode cX5_findNext 37 = .ok (.iconst 2, 1) := by decide +kernel
theorem dX5_findNext_38 : decode cX5_findNext 38 = .ok (.aload_n 0, 1) := by decide +kernel
theorem dX5_findNext_39 : decode cX5_findNext 39 = .ok (.getfield 25, 3) := by decide +kernel
theorem dX5_findNext_42 : decode cX5_findNext 42 = .ok (.iload_n 1, 1) := by decide +kernel
theorem dX5_findNext_43 : decode cX5_findNext 43 = .ok (.iaload, 1) := by decide +kernel
theorem dX5_findNext_44 : decode cX5_findNext 44 = .ok (.imul, 1) := by decide +kernel
theorem dX5_findNext_45 : decode cX5_findNext 45 = .ok (.iadd, 1) := by decide +kernel
theorem dX5_findNext_46 : decode cX5_findNext 46 = .ok (.aload_n 0, 1) := by decide +kernel
theorem dX5_findNext_47 : decode cX5_findNext 47 = .ok (.getfield 25, 3) := by decide +kernel
theorem dX5_findNext_50 : decode cX5_findNext 50 = .ok (.iload_n 1, 1) := by decide +kernel
theorem dX5_findNext_51 : decode cX5_findNext 51 = .ok (.iaload, 1) := by decide +kernel
theorem dX5_findNext_52 : decode cX5_findNext 52 = .ok (.invokevirtual 218, 3) := by decide +kernel
theorem dX5_findNext_55 : decode cX5_findNext 55 = .ok (.goto 29, 3) := by decide +kernel
theorem dX5_findNext_58 : decode cX5_findNext 58 = .ok (.aload_n 0, 1) := by decide +kernel
theorem dX5_findNext_59 : decode cX5_findNext 59 = .ok (.aload_n 0, 1) := by decide +kernel
theorem dX5_findNext_60 : decode cX5_findNext 60 = .ok (.getfield 19, 3) := by decide +kernel
theorem dX5_findNext_63 : decode cX5_findNext 63 = .ok (.iload_n 1, 1) := by decide +kernel
theorem dX5_findNext_64 : decode cX5_findNext 64 = .ok (.iaload, 1) := by decide +kernel
theorem dX5_findNext_65 : decode cX5_findNext 65 = .ok (.aload_n 0, 1) := by decide +kernel
theorem dX5_findNext_66 : decode cX5_findNext 66 = .ok (.getfield 22, 3) := by decide +kernel
theorem dX5_findNext_69 : decode cX5_findNext 69 = .ok (.iload_n 1, 1) := by decide +kernel
theorem dX5_findNext_70 : decode cX5_findNext 70 = .ok (.iaload, 1) := by decide +kernel
theorem dX5_findNext_71 : decode cX5_findNext 71 = .ok (.iconst 2, 1) := by decide +kernel
theorem dX5_findNext_72 : decode cX5_findNext 72 = .ok (.aload_n 0, 1) := by decide +kernel
theorem dX5_findNext_73 : decode cX5_findNext 73 = .ok (.getfield 19, 3) := by decide +kernel
theorem dX5_findNext_76 : decode cX5_findNext 76 = .ok (.iload_n 1, 1) := by decide +kernel
theorem dX5_findNext_77 : decode cX5_findNext 77 = .ok (.iaload, 1) := by decide +kernel
theorem dX5_findNext_78 : decode cX5_findNext 78 = .ok (.imul, 1) := by decide +kernel
theorem dX5_findNext_79 : decode cX5_findNext 79 = .ok (.iadd, 1) := by decide +kernel
theorem dX5_findNext_80 : decode cX5_findNext 80 = .ok (.iload_n 2, 1) := by decide +kernel
theorem dX5_findNext_81 : decode cX5_findNext 81 = .ok (.invokevirtual 218, 3) := by decide +kernel
theorem dX5_findNext_84 : decode cX5_findNext 84 = .ok (.ireturn, 1) := by decide +kernel
set_option maxRecDepth 20000 in
theorem ggX5_layCycles_X5_findNext : GoodIn wsX5_layCycles wsX5_findNext := goodIn_r _ [11, 12, 13, 14, 15, 16, 17, 10, 18, 19, 20, 21, 22, 1, 4, 23, 24, 25, 26, 27, 28, 29, 30, 31, 32, 33, 34, 35, 36, 37, 38, 39, 40, 41, 42, 43, 44, 45, 46, 47, 48, 49, 50, 51, 52, 53, 54, 55, 56, 57] (by decide +kernel) (by decide +kernel)
set_option maxRecDepth 20000 in
theorem gX5_layCycles_X5_findNext : GoodIn wsX5_layCycles (wsV RX5 221 RX5 yX5_findNext wsX5_findNext) := goodIn_app (goodIn_of _ (by decide +kernel)) ggX5_layCycles_X5_findNext
theorem dX5_layCycles_0 : decode cX5_layCycles 0 = .ok (.iconst 0, 1) := by decide +kernel
theorem dX5_layCycles_1 : decode cX5_layCycles 1 = .ok (.istore_n 1, 1) := by decide +kernel
theorem dX5_layCycles_2 : decode cX5_layCycles 2 = .ok (.iload_n 1, 1) := by decide +kernel
theorem dX5_layCycles_3 : decode cX5_layCycles 3 = .ok (.aload_n 0, 1) := by decide +kernel
theorem dX5_layCycles_4 : decode cX5_layCycles 4 = .ok (.getfield 212, 3) := by decide +kernel
theorem dX5_layCycles_7 : decode cX5_layCycles 7 = .ok (.if_icmp .ge 28, 3) := by decide +kernel
theorem dX5_layCycles_10 : decode cX5_layCycles 10 = .ok (.aload_n 0, 1) := by decide +kernel
theorem dX5_layCycles_11 : decode cX5_layCycles 11 = .ok (.getfield 28, 3) := by decide +kernel
theorem dX5_layCycles_14 : decode cX5_layCycles 14 = .ok (.iload_n 1, 1) := by decide +kernel
theorem dX5_layCycles_15 : decode cX5_layCycles 15 = .ok (.aload_n 0, 1) := by decide +kernel
theorem dX5_layCycles_16 : decode cX5_layCycles 16 = .ok (.iload_n 1, 1) := by decide +kernel
theorem dX5_layCycles_17 : decode cX5_layCycles 17 = .ok (.invokevirtual 221, 3) := by decide +kernel
theorem dX5_layCycles_20 : decode cX5_layCycles 20 = .ok (.iastore, 1) := by decide +kernel
theorem dX5_layCycles_21 : decode cX5_layCycles 21 = .ok (.aload_n 0, 1) := by decide +kernel
theorem dX5_layCycles_22 : decode cX5_layCycles 22 = .ok (.getfield 31, 3) := by decide +kernel
theorem dX5_layCycles_25 : decode cX5_layCycles 25 = .ok (.iload_n 1, 1) := by decide +kernel
theorem dX5_layCycles_26 : decode cX5_layCycles 26 = .ok (.ldc 106, 2) := by decide +kernel
theorem dX5_layCycles_28 : decode cX5_layCycles 28 = .ok (.iastore, 1) := by decide +kernel
theorem dX5_layCycles_29 : decode cX5_layCycles 29 = .ok (.iinc 1 1, 3) := by decide +kernel
theorem dX5_layCycles_32 : decode cX5_layCycles 32 = .ok (.goto (-30), 3) := by decide +kernel
theorem dX5_layCycles_35 : decode cX5_layCycles 35 = .ok (.aload_n 0, 1) := by decide +kernel
theorem dX5_layCycles_36 : decode cX5_layCycles 36 = .ok (.iconst 0, 1) := by decide +kernel
theorem dX5_layCycles_37 : decode cX5_layCycles 37 = .ok (.putfield 224, 3) := by decide +kernel
theorem dX5_layCycles_40 : decode cX5_layCycles 40 = .ok (.iconst 0, 1) := by decide +kernel
theorem dX5_layCycles_41 : decode cX5_layCycles 41 = .ok (.istore_n 1, 1) := by decide +kernel
theorem dX5_layCycles_42 : decode cX5_layCycles 42 = .ok (.iload_n 1, 1) := by decide +kernel
theorem dX5_layCycles_43 : decode cX5_layCycles 43 = .ok (.aload_n 0, 1) := by decide +kernel
theorem dX5_layCycles_44 : decode cX5_layCycles 44 = .ok (.getfield 212, 3) := by decide +kernel
theorem dX5_layCycles_47 : decode cX5_layCycles 47 = .ok (.if_icmp .ge 73, 3) := by decide +kernel
theorem dX5_layCycles_50 : decode cX5_layCycles 50 = .ok (.aload_n 0, 1) := by decide +kernel
theorem dX5_layCycles_51 : decode cX5_layCycles 51 = .ok (.getfield 31, 3) := by decide +kernel
theorem dX5_layCycles_54 : decode cX5_layCycles 54 = .ok (.iload_n 1, 1) := by decide +kernel
theorem dX5_layCycles_55 : decode cX5_layCycles 55 = .ok (.iaload, 1) := by decide +kernel
theorem dX5_layCycles_56 : decode cX5_layCycles 56 = .ok (.ldc 106, 2) := by decide +kernel
theorem dX5_layCycles_58 : decode cX5_layCycles 58 = .ok (.if_icmp .ne 56, 3) := by decide +kernel
theorem dX5_layCycles_61 : decode cX5_layCycles 61 = .ok (.aload_n 0, 1) := by decide +kernel
theorem dX5_layCycles_62 : decode cX5_layCycles 62 = .ok (.getfield 34, 3) := by decide +kernel
theorem dX5_layCycles_65 : decode cX5_layCycles 65 = .ok (.aload_n 0, 1) := by decide +kernel
theorem dX5_layCycles_66 : decode cX5_layCycles 66 = .ok (.getfield 224, 3) := by decide +kernel
theorem dX5_layCycles_69 : decode cX5_layCycles 69 = .ok (.iload_n 1, 1) := by decide +kernel
theorem dX5_layCycles_70 : decode cX5_layCycles 70 = .ok (.iastore, 1) := by decide +kernel
theorem dX5_layCycles_71 : decode cX5_layCycles 71 = .ok (.iload_n 1, 1) := by decide +kernel
theorem dX5_layCycles_72 : decode cX5_layCycles 72 = .ok (.istore_n 2, 1) := by decide +kernel
theorem dX5_layCycles_73 : decode cX5_layCycles 73 = .ok (.aload_n 0, 1) := by decide +kernel
theorem dX5_layCycles_74 : decode cX5_layCycles 74 = .ok (.getfield 31, 3) := by decide +kernel
theorem dX5_layCycles_77 : decode cX5_layCycles 77 = .ok (.iload_n 2, 1) := by decide +kernel
theorem dX5_layCycles_78 : decode cX5_layCycles 78 = .ok (.iaload, 1) := by decide +kernel
theorem dX5_layCycles_79 : decode cX5_layCycles 79 = .ok (.ldc 106, 2) := by decide +kernel
theorem dX5_layCycles_81 : decode cX5_layCycles 81 = .ok (.if_icmp .ne 23, 3) := by decide +kernel
theorem dX5_layCycles_84 : decode cX5_layCycles 84 = .ok (.aload_n 0, 1) := by decide +kernel
theorem dX5_layCycles_85 : decode cX5_layCycles 85 = .ok (.getfield 31, 3) := by decide +kernel
theorem dX5_layCycles_88 : decode cX5_layCycles 88 = .ok (.iload_n 2, 1) := by decide +kernel
theorem dX5_layCycles_89 : decode cX5_layCycles 89 = .ok (.aload_n 0, 1) := by decide +kernel
theorem dX5_layCycles_90 : decode cX5_layCycles 90 = .ok (.getfield 224, 3) := by decide +kernel
theorem dX5_layCycles_93 : decode cX5_layCycles 93 = .ok (.iastore, 1) := by decide +kernel
theorem dX5_layCycles_94 : decode cX5_layCycles 94 = .ok (.aload_n 0, 1) := by decide +kernel
theorem dX5_layCycles_95 : decode cX5_layCycles 95 = .ok (.getfield 28, 3) := by decide +kernel
theorem dX5_layCycles_98 : decode cX5_layCycles 98 = .ok (.iload_n 2, 1) := by decide +kernel
theorem dX5_layCycles_99 : decode cX5_layCycles 99 = .ok (.iaload, 1) := by decide +kernel
theorem dX5_layCycles_100 : decode cX5_layCycles 100 = .ok (.istore_n 2, 1) := by decide +kernel
theorem dX5_layCycles_101 : decode cX5_layCycles 101 = .ok (.goto (-28), 3) := by decide +kernel
theorem dX5_layCycles_104 : decode cX5_layCycles 104 = .ok (.aload_n 0, 1) := by decide +kernel
theorem dX5_layCycles_105 : decode cX5_layCycles 105 = .ok (.dup, 1) := by decide +kernel
theorem dX5_layCycles_106 : decode cX5_layCycles 106 = .ok (.getfield 224, 3) := by decide +kernel
theorem dX5_layCycles_109 : decode cX5_layCycles 109 = .ok (.iconst 1, 1) := by decide +kernel
theorem dX5_layCycles_110 : decode cX5_layCycles 110 = .ok (.iadd, 1) := by decide +kernel
theorem dX5_layCycles_111 : decode cX5_layCycles 111 = .ok (.putfield 224, 3) := by decide +kernel
theorem dX5_layCycles_114 : decode cX5_layCycles 114 = .ok (.iinc 1 1, 3) := by decide +kernel
theorem dX5_layCycles_117 : decode cX5_layCycles 117 = .ok (.goto (-75), 3) := by decide +kernel
theorem dX5_layCycles_120 : decode cX5_layCycles 120 = .ok (.return_, 1) := by decide +kernel
set_option maxRecDepth 20000 in
theorem ggX5_river_X5_within : GoodIn wsX5_river wsX5_within := goodIn_r _ [7] (by decide +kernel) (by decide +kernel)
set_option maxRecDepth 20000 in
theorem gX5_river_X5_within : GoodIn wsX5_river (va_wsS RX5 50 yX5_within wsX5_within) := goodIn_app (goodIn_of _ (by decide +kernel)) ggX5_river_X5_within
set_option maxRecDepth 20000 in
theorem ggX5_river_X5_isSquare : GoodIn wsX5_river wsX5_isSquare := goodIn_r _ [10] (by decide +kernel) (by decide +kernel)
set_option maxRecDepth 20000 in
theorem gX5_river_X5_isSquare : GoodIn wsX5_river (va_wsS RX5 227 yX5_isSquare wsX5_isSquare) := goodIn_app (goodIn_of _ (by decide +kernel)) ggX5_river_X5_isSquare
set_option maxRecDepth 20000 in
theorem ggX5_river_X5_layMiddle : GoodIn wsX5_river wsX5_layMiddle := goodIn_r _ [14, 2, 15, 3, 16, 17, 18, 19, 6, 20, 21, 22, 23, 45, 46, 47, 48, 49, 50, 51, 52, 53, 54, 55, 56, 57, 58, 59, 60, 61, 62, 63, 64, 65, 66, 67, 68, 69, 70, 71, 72, 73, 74, 75, 76, 77, 78, 79] (by decide +kernel) (by decide +kernel)
set_option maxRecDepth 20000 in
theorem gX5_river_X5_layMiddle : GoodIn wsX5_river (wsV RX5 230 RX5 yX5_layMiddle wsX5_layMiddle) := goodIn_app (goodIn_of _ (by decide +kernel)) ggX5_river_X5_layMiddle
set_option maxRecDepth 20000 in
theorem ggX5_river_X5_layCycles : GoodIn wsX5_river wsX5_layCycles := goodIn_r _ [27, 3, 28, 29, 30, 31, 32, 33, 34, 35, 6, 36, 15, 16, 17, 37, 38, 39, 40, 41, 42, 43, 44, 45, 46, 47, 48, 49, 50, 51, 52, 53, 54, 55, 56, 57, 58, 59, 60, 61, 62, 63, 64, 65, 66, 67, 68, 69, 70, 71, 72, 73, 74, 75, 76, 77, 78, 79] (by decide +kernel) (by decide +kernel)
set_option maxRecDepth 20000 in
theorem gX5_river_X5_layCycles : GoodIn wsX5_river (wsV RX5 233 RX5 yX5_layCycles wsX5_layCycles) := goodIn_app (goodIn_of _ (by decide +kernel)) ggX5_river_X5_layCycles
theorem dX5_river_0 : decode cX5_river 0 = .ok (.iload_n 1, 1) := by decide +kernel
theorem dX5_river_1 : decode cX5_river 1 = .ok (.iconst 5, 1) := by decide +kernel
theorem dX5_river_2 : decode cX5_river 2 = .ok (.sipush 900, 3) := by decide +kernel
theorem dX5_river_5 : decode cX5_river 5 = .ok (.invokestatic 50, 3) := by decide +kernel
theorem dX5_river_8 : decode cX5_river 8 = .ok (.ifCond .eq 17, 3) := by decide +kernel
theorem dX5_river_11 : decode cX5_river 11 = .ok (.iload_n 1, 1) := by decide +kernel
theorem dX5_river_12 : decode cX5_river 12 = .ok (.iconst 4, 1) := by decide +kernel
theorem dX5_river_13 : decode cX5_river 13 = .ok (.irem, 1) := by decide +kernel
theorem dX5_river_14 : decode cX5_river 14 = .ok (.iconst 1, 1) := by decide +kernel
theorem dX5_river_15 : decode cX5_river 15 = .ok (.if_icmp .gt 10, 3) := by decide +kernel
theorem dX5_river_18 : decode cX5_river 18 = .ok (.iload_n 1, 1) := by decide +kernel
theorem dX5_river_19 : decode cX5_river 19 = .ok (.invokestatic 227, 3) := by decide +kernel
theorem dX5_river_22 : decode cX5_river 22 = .ok (.ifCond .eq 6, 3) := by decide +kernel
theorem dX5_river_25 : decode cX5_river 25 = .ok (.ldc 54, 2) := by decide +kernel
theorem dX5_river_27 : decode cX5_river 27 = .ok (.ireturn, 1) := by decide +kernel
theorem dX5_river_28 : decode cX5_river 28 = .ok (.aload_n 0, 1) := by decide +kernel
theorem dX5_river_29 : decode cX5_river 29 = .ok (.iload_n 1, 1) := by decide +kernel
theorem dX5_river_30 : decode cX5_river 30 = .ok (.putfield 209, 3) := by decide +kernel
theorem dX5_river_33 : decode cX5_river 33 = .ok (.aload_n 0, 1) := by decide +kernel
theorem dX5_river_34 : decode cX5_river 34 = .ok (.iconst 0, 1) := by decide +kernel
theorem dX5_river_35 : decode cX5_river 35 = .ok (.putfield 212, 3) := by decide +kernel
theorem dX5_river_38 : decode cX5_river 38 = .ok (.bipush (-30), 2) := by decide +kernel
theorem dX5_river_40 : decode cX5_river 40 = .ok (.istore_n 2, 1) := by decide +kernel
theorem dX5_river_41 : decode cX5_river 41 = .ok (.iload_n 2, 1) := by decide +kernel
theorem dX5_river_42 : decode cX5_river 42 = .ok (.bipush 30, 2) := by decide +kernel
theorem dX5_river_44 : decode cX5_river 44 = .ok (.if_icmp .gt 31, 3) := by decide +kernel
theorem dX5_river_47 : decode cX5_river 47 = .ok (.iload_n 2, 1) := by decide +kernel
theorem dX5_river_48 : decode cX5_river 48 = .ok (.iload_n 2, 1) := by decide +kernel
theorem dX5_river_49 : decode cX5_river 49 = .ok (.imul, 1) := by decide +kernel
theorem dX5_river_50 : decode cX5_river 50 = .ok (.iload_n 1, 1) := by decide +kernel
theorem dX5_river_51 : decode cX5_river 51 = .ok (.if_icmp .ge 18, 3) := by decide +kernel
theorem dX5_river_54 : decode cX5_river 54 = .ok (.iload_n 1, 1) := by decide +kernel
theorem dX5_river_55 : decode cX5_river 55 = .ok (.iload_n 2, 1) := by decide +kernel
theorem dX5_river_56 : decode cX5_river 56 = .ok (.iload_n 2, 1) := by decide +kernel
theorem dX5_river_57 : decode cX5_river 57 = .ok (.imul, 1) := by decide +kernel
theorem dX5_river_58 : decode cX5_river 58 = .ok (.isub, 1) := by decide +kernel
theorem dX5_river_59 : decode cX5_river 59 = .ok (.iconst 4, 1) := by decide +kernel
theorem dX5_river_60 : decode cX5_river 60 = .ok (.irem, 1) := by decide +kernel
theorem dX5_river_61 : decode cX5_river 61 = .ok (.ifCond .ne 8, 3) := by decide +kernel
theorem dX5_river_64 : decode cX5_river 64 = .ok (.aload_n 0, 1) := by decide +kernel
theorem dX5_river_65 : decode cX5_river 65 = .ok (.iload_n 2, 1) := by decide +kernel
theorem dX5_river_66 : decode cX5_river 66 = .ok (.invokevirtual 230, 3) := by decide +kernel
theorem dX5_river_69 : decode cX5_river 69 = .ok (.iinc 2 1, 3) := by decide +kernel
theorem dX5_river_72 : decode cX5_river 72 = .ok (.goto (-31), 3) := by decide +kernel
theorem dX5_river_75 : decode cX5_river 75 = .ok (.aload_n 0, 1) := by decide +kernel
theorem dX5_river_76 : decode cX5_river 76 = .ok (.invokevirtual 233, 3) := by decide +kernel
theorem dX5_river_79 : decode cX5_river 79 = .ok (.aload_n 0, 1) := by decide +kernel
theorem dX5_river_80 : decode cX5_river 80 = .ok (.getfield 212, 3) := by decide +kernel
theorem dX5_river_83 : decode cX5_river 83 = .ok (.ireturn, 1) := by decide +kernel
set_option maxRecDepth 20000 in
theorem ggX5_simpleNow_X5_isLeft : GoodIn wsX5_simpleNow wsX5_isLeft := goodIn_r _ [10, 1, 2, 3, 20, 21, 22, 23, 24, 25, 26, 27, 28, 29, 30, 31, 32, 33, 34, 35, 36, 37, 38, 39, 40, 41, 42, 43, 44, 45, 46, 47, 48, 49, 50, 51, 52, 53, 54] (by decide +kernel) (by decide +kernel)
set_option maxRecDepth 20000 in
theorem gX5_simpleNow_X5_isLeft : GoodIn wsX5_simpleNow (wsV RX5 215 RX5 yX5_isLeft wsX5_isLeft) := goodIn_app (goodIn_of _ (by decide +kernel)) ggX5_simpleNow_X5_isLeft
set_option maxRecDepth 20000 in
theorem ggX5_simpleNow_X5_codeOf : GoodIn wsX5_simpleNow wsX5_codeOf := goodIn_r _ [13] (by decide +kernel) (by decide +kernel)
set_option maxRecDepth 20000 in
theorem gX5_simpleNow_X5_codeOf : GoodIn wsX5_simpleNow (va_wsS RX5 149 yX5_codeOf wsX5_codeOf) := goodIn_app (goodIn_of _ (by decide +kernel)) ggX5_simpleNow_X5_codeOf
set_option maxRecDepth 20000 in
theorem ggX5_simpleNow_X5_numberOf : GoodIn wsX5_simpleNow wsX5_numberOf := goodIn_r _ [17, 18, 1, 2, 3, 19, 20, 21, 22, 23, 24, 25, 26, 27, 28, 29, 30, 31, 32, 33, 34, 35, 36, 37, 38, 39, 40, 41, 42, 43, 44, 45, 46, 47, 48, 49, 50, 51, 52, 53, 54] (by decide +kernel) (by decide +kernel)
set_option maxRecDepth 20000 in
theorem gX5_simpleNow_X5_numberOf : GoodIn wsX5_simpleNow (wsV RX5 218 RX5 yX5_numberOf wsX5_numberOf) := goodIn_app (goodIn_of _ (by decide +kernel)) ggX5_simpleNow_X5_numberOf
theorem dX5_simpleNow_0 : decode cX5_simpleNow 0 = .ok (.iload_n 2, 1) := by decide +kernel
theorem dX5_simpleNow_1 : decode cX5_simpleNow 1 = .ok (.tableswitch 119 0 6 #[43, 50, 57, 64, 71, 78, 95], 43) := by decide +kernel
theorem dX5_simpleNow_44 : decode cX5_simpleNow 44 = .ok (.aload_n 0, 1) := by decide +kernel
theorem dX5_simpleNow_45 : decode cX5_simpleNow 45 = .ok (.getfield 19, 3) := by decide +kernel
theorem dX5_simpleNow_48 : decode cX5_simpleNow 48 = .ok (.iload_n 1, 1) := by decide +kernel
theorem dX5_simpleNow_49 : decode cX5_simpleNow 49 = .ok (.iaload, 1) := by decide +kernel
theorem dX5_simpleNow_50 : decode cX5_simpleNow 50 = .ok (.ireturn, 1) := by decide +kernel
theorem dX5_simpleNow_51 : decode cX5_simpleNow 51 = .ok (.aload_n 0, 1) := by decide +kernel
theorem dX5_simpleNow_52 : decode cX5_simpleNow 52 = .ok (.getfield 22, 3) := by decide +kernel
theorem dX5_simpleNow_55 : decode cX5_simpleNow 55 = .ok (.iload_n 1, 1) := by decide +kernel
theorem dX5_simpleNow_56 : decode cX5_simpleNow 56 = .ok (.iaload, 1) := by decide +kernel
theorem dX5_simpleNow_57 : decode cX5_simpleNow 57 = .ok (.ireturn, 1) := by decide +kernel
theorem dX5_simpleNow_58 : decode cX5_simpleNow 58 = .ok (.aload_n 0, 1) := by decide +kernel
theorem dX5_simpleNow_59 : decode cX5_simpleNow 59 = .ok (.getfield 25, 3) := by decide +kernel
theorem dX5_simpleNow_62 : decode cX5_simpleNow 62 = .ok (.iload_n 1, 1) := by decide +kernel
theorem dX5_simpleNow_63 : decode cX5_simpleNow 63 = .ok (.iaload, 1) := by decide +kernel
theorem dX5_simpleNow_64 : decode cX5_simpleNow 64 = .ok (.ireturn, 1) := by decide +kernel
theorem dX5_simpleNow_65 : decode cX5_simpleNow 65 = .ok (.aload_n 0, 1) := by decide +kernel
theorem dX5_simpleNow_66 : decode cX5_simpleNow 66 = .ok (.getfield 31, 3) := by decide +kernel
theorem dX5_simpleNow_69 : decode cX5_simpleNow 69 = .ok (.iload_n 1, 1) := by decide +kernel
theorem dX5_simpleNow_70 : decode cX5_simpleNow 70 = .ok (.iaload, 1) := by decide +kernel
theorem dX5_simpleNow_71 : decode cX5_simpleNow 71 = .ok (.ireturn, 1) := by decide +kernel
theorem dX5_simpleNow_72 : decode cX5_simpleNow 72 = .ok (.aload_n 0, 1) := by decide +kernel
theorem dX5_simpleNow_73 : decode cX5_simpleNow 73 = .ok (.getfield 28, 3) := by decide +kernel
theorem dX5_simpleNow_76 : decode cX5_simpleNow 76 = .ok (.iload_n 1, 1) := by decide +kernel
theorem dX5_simpleNow_77 : decode cX5_simpleNow 77 = .ok (.iaload, 1) := by decide +kernel
theorem dX5_simpleNow_78 : decode cX5_simpleNow 78 = .ok (.ireturn, 1) := by decide +kernel
theorem dX5_simpleNow_79 : decode cX5_simpleNow 79 = .ok (.aload_n 0, 1) := by decide +kernel
theorem dX5_simpleNow_80 : decode cX5_simpleNow 80 = .ok (.iload_n 1, 1) := by decide +kernel
theorem dX5_simpleNow_81 : decode cX5_simpleNow 81 = .ok (.invokevirtual 215, 3) := by decide +kernel
theorem dX5_simpleNow_84 : decode cX5_simpleNow 84 = .ok (.ifCond .eq 7, 3) := by decide +kernel
theorem dX5_simpleNow_87 : decode cX5_simpleNow 87 = .ok (.iconst 0, 1) := by decide +kernel
theorem dX5_simpleNow_88 : decode cX5_simpleNow 88 = .ok (.goto 4, 3) := by decide +kernel
theorem dX5_simpleNow_91 : decode cX5_simpleNow 91 = .ok (.iconst 1, 1) := by decide +kernel
theorem dX5_simpleNow_92 : decode cX5_simpleNow 92 = .ok (.invokestatic 149, 3) := by decide +kernel
theorem dX5_simpleNow_95 : decode cX5_simpleNow 95 = .ok (.ireturn, 1) := by decide +kernel
theorem dX5_simpleNow_96 : decode cX5_simpleNow 96 = .ok (.aload_n 0, 1) := by decide +kernel
theorem dX5_simpleNow_97 : decode cX5_simpleNow 97 = .ok (.aload_n 0, 1) := by decide +kernel
theorem dX5_simpleNow_98 : decode cX5_simpleNow 98 = .ok (.getfield 19, 3) := by decide +kernel
theorem dX5_simpleNow_101 : decode cX5_simpleNow 101 = .ok (.iload_n 1, 1) := by decide +kernel
theorem dX5_simpleNow_102 : decode cX5_simpleNow 102 = .ok (.iaload, 1) := by decide +kernel
theorem dX5_simpleNow_103 : decode cX5_simpleNow 103 = .ok (.aload_n 0, 1) := by decide +kernel
theorem dX5_simpleNow_104 : decode cX5_simpleNow 104 = .ok (.getfield 22, 3) := by decide +kernel
theorem dX5_simpleNow_107 : decode cX5_simpleNow 107 = .ok (.iload_n 1, 1) := by decide +kernel
theorem dX5_simpleNow_108 : decode cX5_simpleNow 108 = .ok (.iaload, 1) := by decide +kernel
theorem dX5_simpleNow_109 : decode cX5_simpleNow 109 = .ok (.ineg, 1) := by decide +kernel
theorem dX5_simpleNow_110 : decode cX5_simpleNow 110 = .ok (.aload_n 0, 1) := by decide +kernel
theorem dX5_simpleNow_111 : decode cX5_simpleNow 111 = .ok (.getfield 25, 3) := by decide +kernel
theorem dX5_simpleNow_114 : decode cX5_simpleNow 114 = .ok (.iload_n 1, 1) := by decide +kernel
theorem dX5_simpleNow_115 : decode cX5_simpleNow 115 = .ok (.iaload, 1) := by decide +kernel
theorem dX5_simpleNow_116 : decode cX5_simpleNow 116 = .ok (.invokevirtual 218, 3) := by decide +kernel
theorem dX5_simpleNow_119 : decode cX5_simpleNow 119 = .ok (.ireturn, 1) := by decide +kernel
theorem dX5_simpleNow_120 : decode cX5_simpleNow 120 = .ok (.aload_n 0, 1) := by decide +kernel
theorem dX5_simpleNow_121 : decode cX5_simpleNow 121 = .ok (.aload_n 0, 1) := by decide +kernel
theorem dX5_simpleNow_122 : decode cX5_simpleNow 122 = .ok (.getfield 25, 3) := by decide +kernel
theorem dX5_simpleNow_125 : decode cX5_simpleNow 125 = .ok (.iload_n 1, 1) := by decide +kernel
theorem dX5_simpleNow_126 : decode cX5_simpleNow 126 = .ok (.iaload, 1) := by decide +kernel
theorem dX5_simpleNow_127 : decode cX5_simpleNow 127 = .ok (.ineg, 1) := by decide +kernel
theorem dX5_simpleNow_128 : decode cX5_simpleNow 128 = .ok (.aload_n 0, 1) := by decide +kernel
theorem dX5_simpleNow_129 : decode cX5_simpleNow 129 = .ok (.getfield 22, 3) := by decide +kernel
theorem dX5_simpleNow_132 : decode cX5_simpleNow 132 = .ok (.iload_n 1, 1) := by decide +kernel
theorem dX5_simpleNow_133 : decode cX5_simpleNow 133 = .ok (.iaload, 1) := by decide +kernel
theorem dX5_simpleNow_134 : decode cX5_simpleNow 134 = .ok (.ineg, 1) := by decide +kernel
theorem dX5_simpleNow_135 : decode cX5_simpleNow 135 = .ok (.aload_n 0, 1) := by decide +kernel
theorem dX5_simpleNow_136 : decode cX5_simpleNow 136 = .ok (.getfield 19, 3) := by decide +kernel
theorem dX5_simpleNow_139 : decode cX5_simpleNow 139 = .ok (.iload_n 1, 1) := by decide +kernel
theorem dX5_simpleNow_140 : decode cX5_simpleNow 140 = .ok (.iaload, 1) := by decide +kernel
theorem dX5_simpleNow_141 : decode cX5_simpleNow 141 = .ok (.ineg, 1) := by decide +kernel
theorem dX5_simpleNow_142 : decode cX5_simpleNow 142 = .ok (.invokevirtual 218, 3) := by decide +kernel
theorem dX5_simpleNow_145 : decode cX5_simpleNow 145 = .ok (.ireturn, 1) := by decide +kernel
set_option maxRecDepth 20000 in
theorem ggX5_simple_X5_within : GoodIn wsX5_simple wsX5_within := goodIn_r _ [7] (by decide +kernel) (by decide +kernel)
set_option maxRecDepth 20000 in
theorem gX5_simple_X5_within : GoodIn wsX5_simple (va_wsS RX5 50 yX5_within wsX5_within) := goodIn_app (goodIn_of _ (by decide +kernel)) ggX5_simple_X5_within
set_option maxRecDepth 20000 in
theorem ggX5_simple_X5_simpleNow : GoodIn wsX5_simple wsX5_simpleNow := goodIn_r _ [11, 12, 13, 14, 15, 16, 17, 18, 19, 6, 20, 21, 22, 23, 24, 25, 26, 27, 1, 28, 29, 30, 31, 32, 33, 34, 35, 36, 37, 38, 39, 40, 41, 42, 43, 44, 45, 46, 47, 48, 49, 50, 51, 52, 53, 54, 55, 56, 57, 58, 59, 60, 61, 62, 63] (by decide +kernel) (by decide +kernel)
set_option maxRecDepth 20000 in
theorem gX5_simple_X5_simpleNow : GoodIn wsX5_simple (wsV RX5 236 RX5 yX5_simpleNow wsX5_simpleNow) := goodIn_app (goodIn_of _ (by decide +kernel)) ggX5_simple_X5_simpleNow
theorem dX5_simple_0 : decode cX5_simple 0 = .ok (.iload_n 1, 1) := by decide +kernel
theorem dX5_simple_1 : decode cX5_simple 1 = .ok (.iconst 0, 1) := by decide +kernel
theorem dX5_simple_2 : decode cX5_simple 2 = .ok (.aload_n 0, 1) := by decide +kernel
theorem dX5_simple_3 : decode cX5_simple 3 = .ok (.getfield 212, 3) := by decide +kernel
theorem dX5_simple_6 : decode cX5_simple 6 = .ok (.iconst 1, 1) := by decide +kernel
theorem dX5_simple_7 : decode cX5_simple 7 = .ok (.isub, 1) := by decide +kernel
theorem dX5_simple_8 : decode cX5_simple 8 = .ok (.invokestatic 50, 3) := by decide +kernel
theorem dX5_simple_11 : decode cX5_simple 11 = .ok (.ifCond .ne 6, 3) := by decide +kernel
theorem dX5_simple_14 : decode cX5_simple 14 = .ok (.ldc 145, 2) := by decide +kernel
theorem dX5_simple_16 : decode cX5_simple 16 = .ok (.ireturn, 1) := by decide +kernel
theorem dX5_simple_17 : decode cX5_simple 17 = .ok (.iload_n 2, 1) := by decide +kernel
theorem dX5_simple_18 : decode cX5_simple 18 = .ok (.iconst 0, 1) := by decide +kernel
theorem dX5_simple_19 : decode cX5_simple 19 = .ok (.bipush 7, 2) := by decide +kernel
theorem dX5_simple_21 : decode cX5_simple 21 = .ok (.invokestatic 50, 3) := by decide +kernel
theorem dX5_simple_24 : decode cX5_simple 24 = .ok (.ifCond .eq 12, 3) := by decide +kernel
theorem dX5_simple_27 : decode cX5_simple 27 = .ok (.aload_n 0, 1) := by decide +kernel
theorem dX5_simple_28 : decode cX5_simple 28 = .ok (.iload_n 1, 1) := by decide +kernel
theorem dX5_simple_29 : decode cX5_simple 29 = .ok (.iload_n 2, 1) := by decide +kernel
theorem dX5_simple_30 : decode cX5_simple 30 = .ok (.invokevirtual 236, 3) := by decide +kernel
theorem dX5_simple_33 : decode cX5_simple 33 = .ok (.goto 5, 3) := by decide +kernel
theorem dX5_simple_36 : decode cX5_simple 36 = .ok (.ldc 54, 2) := by decide +kernel
theorem dX5_simple_38 : decode cX5_simple 38 = .ok (.ireturn, 1) := by decide +kernel
set_option maxRecDepth 20000 in
theorem ggX5_isCycle_X5_within : GoodIn wsX5_isCycle wsX5_within := goodIn_r _ [5] (by decide +kernel) (by decide +kernel)
set_option maxRecDepth 20000 in
theorem gX5_isCycle_X5_within : GoodIn wsX5_isCycle (va_wsS RX5 50 yX5_within wsX5_within) := goodIn_app (goodIn_of _ (by decide +kernel)) ggX5_isCycle_X5_within
theorem dX5_isCycle_0 : decode cX5_isCycle 0 = .ok (.iload_n 1, 1) := by decide +kernel
theorem dX5_isCycle_1 : decode cX5_isCycle 1 = .ok (.iconst 0, 1) := by decide +kernel
theorem dX5_isCycle_2 : decode cX5_isCycle 2 = .ok (.aload_n 0, 1) := by decide +kernel
theorem dX5_isCycle_3 : decode cX5_isCycle 3 = .ok (.getfield 224, 3) := by decide +kernel
theorem dX5_isCycle_6 : decode cX5_isCycle 6 = .ok (.iconst 1, 1) := by decide +kernel
theorem dX5_isCycle_7 : decode cX5_isCycle 7 = .ok (.isub, 1) := by decide +kernel
theorem dX5_isCycle_8 : decode cX5_isCycle 8 = .ok (.invokestatic 50, 3) := by decide +kernel
theorem dX5_isCycle_11 : decode cX5_isCycle 11 = .ok (.ireturn, 1) := by decide +kernel
theorem dX5_sizeOf_0 : decode cX5_sizeOf 0 = .ok (.iconst 0, 1) := by decide +kernel
theorem dX5_sizeOf_1 : decode cX5_sizeOf 1 = .ok (.istore_n 2, 1) := by decide +kernel
theorem dX5_sizeOf_2 : decode cX5_sizeOf 2 = .ok (.iconst 0, 1) := by decide +kernel
theorem dX5_sizeOf_3 : decode cX5_sizeOf 3 = .ok (.istore_n 3, 1) := by decide +kernel
theorem dX5_sizeOf_4 : decode cX5_sizeOf 4 = .ok (.iload_n 3, 1) := by decide +kernel
theorem dX5_sizeOf_5 : decode cX5_sizeOf 5 = .ok (.aload_n 0, 1) := by decide +kernel
theorem dX5_sizeOf_6 : decode cX5_sizeOf 6 = .ok (.getfield 212, 3) := by decide +kernel
theorem dX5_sizeOf_9 : decode cX5_sizeOf 9 = .ok (.if_icmp .ge 27, 3) := by decide +kernel
theorem dX5_sizeOf_12 : decode cX5_sizeOf 12 = .ok (.iload_n 2, 1) := by decide +kernel
theorem dX5_sizeOf_13 : decode cX5_sizeOf 13 = .ok (.aload_n 0, 1) := by decide +kernel
theorem dX5_sizeOf_14 : decode cX5_sizeOf 14 = .ok (.getfield 31, 3) := by decide +kernel
theorem dX5_sizeOf_17 : decode cX5_sizeOf 17 = .ok (.iload_n 3, 1) := by decide +kernel
theorem dX5_sizeOf_18 : decode cX5_sizeOf 18 = .ok (.iaload, 1) := by decide +kernel
theorem dX5_sizeOf_19 : decode cX5_sizeOf 19 = .ok (.iload_n 1, 1) := by decide +kernel
theorem dX5_sizeOf_20 : decode cX5_sizeOf 20 = .ok (.if_icmp .ne 7, 3) := by decide +kernel
theorem dX5_sizeOf_23 : decode cX5_sizeOf 23 = .ok (.iconst 1, 1) := by decide +kernel
theorem dX5_sizeOf_24 : decode cX5_sizeOf 24 = .ok (.goto 4, 3) := by decide +kernel
theorem dX5_sizeOf_27 : decode cX5_sizeOf 27 = .ok (.iconst 0, 1) := by decide +kernel
theorem dX5_sizeOf_28 : decode cX5_sizeOf 28 = .ok (.iadd, 1) := by decide +kernel
theorem dX5_sizeOf_29 : decode cX5_sizeOf 29 = .ok (.istore_n 2, 1) := by decide +kernel
theorem dX5_sizeOf_30 : decode cX5_sizeOf 30 = .ok (.iinc 3 1, 3) := by decide +kernel
theorem dX5_sizeOf_33 : decode cX5_sizeOf 33 = .ok (.goto (-29), 3) := by decide +kernel
theorem dX5_sizeOf_36 : decode cX5_sizeOf 36 = .ok (.iload_n 2, 1) := by decide +kernel
theorem dX5_sizeOf_37 : decode cX5_sizeOf 37 = .ok (.ireturn, 1) := by decide +kernel
set_option maxRecDepth 20000 in
theorem ggX5_leftsOf_X5_isLeft : GoodIn wsX5_leftsOf wsX5_isLeft := goodIn_r _ [7, 8, 9, 10, 11, 12, 13, 14, 15, 16, 17, 18, 19, 20, 21, 22, 23, 24, 25, 26, 27, 28, 29, 30, 31, 32, 33, 34, 35, 36, 37, 38, 39, 40, 41, 42, 43, 44, 45] (by decide +kernel) (by decide +kernel)
set_option maxRecDepth 20000 in
theorem gX5_leftsOf_X5_isLeft : GoodIn wsX5_leftsOf (wsV RX5 215 RX5 yX5_isLeft wsX5_isLeft) := goodIn_app (goodIn_of _ (by decide +kernel)) ggX5_leftsOf_X5_isLeft
theorem dX5_leftsOf_0 : decode cX5_leftsOf 0 = .ok (.iconst 0, 1) := by decide +kernel
theorem dX5_leftsOf_1 : decode cX5_leftsOf 1 = .ok (.istore_n 2, 1) := by decide +kernel
theorem dX5_leftsOf_2 : decode cX5_leftsOf 2 = .ok (.iconst 0, 1) := by decide +kernel
theorem dX5_leftsOf_3 : decode cX5_leftsOf 3 = .ok (.istore_n 3, 1) := by decide +kernel
theorem dX5_leftsOf_4 : decode cX5_leftsOf 4 = .ok (.iload_n 3, 1) := by decide +kernel
theorem dX5_leftsOf_5 : decode cX5_leftsOf 5 = .ok (.aload_n 0, 1) := by decide +kernel
theorem dX5_leftsOf_6 : decode cX5_leftsOf 6 = .ok (.getfield 212, 3) := by decide +kernel
theorem dX5_leftsOf_9 : decode cX5_leftsOf 9 = .ok (.if_icmp .ge 35, 3) := by decide +kernel
theorem dX5_leftsOf_12 : decode cX5_leftsOf 12 = .ok (.iload_n 2, 1) := by decide +kernel
theorem dX5_leftsOf_13 : decode cX5_leftsOf 13 = .ok (.aload_n 0, 1) := by decide +kernel
theorem dX5_leftsOf_14 : decode cX5_leftsOf 14 = .ok (.getfield 31, 3) := by decide +kernel
theorem dX5_leftsOf_17 : decode cX5_leftsOf 17 = .ok (.iload_n 3, 1) := by decide +kernel
theorem dX5_leftsOf_18 : decode cX5_leftsOf 18 = .ok (.iaload, 1) := by decide +kernel
theorem dX5_leftsOf_19 : decode cX5_leftsOf 19 = .ok (.iload_n 1, 1) := by decide +kernel
theorem dX5_leftsOf_20 : decode cX5_leftsOf 20 = .ok (.if_icmp .ne 15, 3) := by decide +kernel
theorem dX5_leftsOf_23 : decode cX5_leftsOf 23 = .ok (.aload_n 0, 1) := by decide +kernel
theorem dX5_leftsOf_24 : decode cX5_leftsOf 24 = .ok (.iload_n 3, 1) := by decide +kernel
theorem dX5_leftsOf_25 : decode cX5_leftsOf 25 = .ok (.invokevirtual 215, 3) := by decide +kernel
theorem dX5_leftsOf_28 : decode cX5_leftsOf 28 = .ok (.ifCond .eq 7, 3) := by decide +kernel
theorem dX5_leftsOf_31 : decode cX5_leftsOf 31 = .ok (.iconst 1, 1) := by decide +kernel
theorem dX5_leftsOf_32 : decode cX5_leftsOf 32 = .ok (.goto 4, 3) := by decide +kernel
theorem dX5_leftsOf_35 : decode cX5_leftsOf 35 = .ok (.iconst 0, 1) := by decide +kernel
theorem dX5_leftsOf_36 : decode cX5_leftsOf 36 = .ok (.iadd, 1) := by decide +kernel
theorem dX5_leftsOf_37 : decode cX5_leftsOf 37 = .ok (.istore_n 2, 1) := by decide +kernel
theorem dX5_leftsOf_38 : decode cX5_leftsOf 38 = .ok (.iinc 3 1, 3) := by decide +kernel
theorem dX5_leftsOf_41 : decode cX5_leftsOf 41 = .ok (.goto (-37), 3) := by decide +kernel
theorem dX5_leftsOf_44 : decode cX5_leftsOf 44 = .ok (.iload_n 2, 1) := by decide +kernel
theorem dX5_leftsOf_45 : decode cX5_leftsOf 45 = .ok (.ireturn, 1) := by decide +kernel
set_option maxRecDepth 20000 in
theorem ggX5_cycleNow_X5_sizeOf : GoodIn wsX5_cycleNow wsX5_sizeOf := goodIn_r _ [7, 8, 2, 33, 34, 35, 36, 37, 38, 39, 40, 41, 42, 43, 44, 45, 46, 47, 48, 49, 50, 51, 52, 53, 54, 55, 56, 57, 58, 59, 60, 61, 62, 63, 64, 65, 66, 67] (by decide +kernel) (by decide +kernel)
set_option maxRecDepth 20000 in
theorem gX5_cycleNow_X5_sizeOf : GoodIn wsX5_cycleNow (wsV RX5 239 RX5 yX5_sizeOf wsX5_sizeOf) := goodIn_app (goodIn_of _ (by decide +kernel)) ggX5_cycleNow_X5_sizeOf
set_option maxRecDepth 20000 in
theorem ggX5_cycleNow_X5_leftsOf : GoodIn wsX5_cycleNow wsX5_leftsOf := goodIn_r _ [12, 8, 2, 13, 14, 15, 6, 16, 17, 18, 19, 33, 34, 35, 36, 37, 38, 39, 40, 41, 42, 43, 44, 45, 46, 47, 48, 49, 50, 51, 52, 53, 54, 55, 56, 57, 58, 59, 60, 61, 62, 63, 64, 65, 66, 67] (by decide +kernel) (by decide +kernel)
set_option maxRecDepth 20000 in
theorem gX5_cycleNow_X5_leftsOf : GoodIn wsX5_cycleNow (wsV RX5 242 RX5 yX5_leftsOf wsX5_leftsOf) := goodIn_app (goodIn_of _ (by decide +kernel)) ggX5_cycleNow_X5_leftsOf
set_option maxRecDepth 20000 in
theorem ggX5_cycleNow_X5_simpleNow : GoodIn wsX5_cycleNow wsX5_simpleNow := goodIn_r _ [23, 17, 18, 19, 2, 24, 13, 14, 15, 6, 16, 25, 26, 27, 28, 29, 30, 31, 8, 32, 33, 34, 35, 36, 37, 38, 39, 40, 41, 42, 43, 44, 45, 46, 47, 48, 49, 50, 51, 52, 53, 54, 55, 56, 57, 58, 59, 60, 61, 62, 63, 64, 65, 66, 67] (by decide +kernel) (by decide +kernel)
set_option maxRecDepth 20000 in
theorem gX5_cycleNow_X5_simpleNow : GoodIn wsX5_cycleNow (wsV RX5 236 RX5 yX5_simpleNow wsX5_simpleNow) := goodIn_app (goodIn_of _ (by decide +kernel)) ggX5_cycleNow_X5_simpleNow
theorem dX5_cycleNow_0 : decode cX5_cycleNow 0 = .ok (.aload_n 0, 1) := by decide +kernel
theorem dX5_cycleNow_1 : decode cX5_cycleNow 1 = .ok (.getfield 34, 3) := by decide +kernel
theorem dX5_cycleNow_4 : decode cX5_cycleNow 4 = .ok (.iload_n 1, 1) := by decide +kernel
theorem dX5_cycleNow_5 : decode cX5_cycleNow 5 = .ok (.iaload, 1) := by decide +kernel
theorem dX5_cycleNow_6 : decode cX5_cycleNow 6 = .ok (.istore_n 3, 1) := by decide +kernel
theorem dX5_cycleNow_7 : decode cX5_cycleNow 7 = .ok (.iload_n 2, 1) := by decide +kernel
theorem dX5_cycleNow_8 : decode cX5_cycleNow 8 = .ok (.tableswitch 59 0 3 #[32, 34, 40, 46], 32) := by decide +kernel
theorem dX5_cycleNow_40 : decode cX5_cycleNow 40 = .ok (.iload_n 3, 1) := by decide +kernel
theorem dX5_cycleNow_41 : decode cX5_cycleNow 41 = .ok (.ireturn, 1) := by decide +kernel
theorem dX5_cycleNow_42 : decode cX5_cycleNow 42 = .ok (.aload_n 0, 1) := by decide +kernel
theorem dX5_cycleNow_43 : decode cX5_cycleNow 43 = .ok (.iload_n 1, 1) := by decide +kernel
theorem dX5_cycleNow_44 : decode cX5_cycleNow 44 = .ok (.invokevirtual 239, 3) := by decide +kernel
theorem dX5_cycleNow_47 : decode cX5_cycleNow 47 = .ok (.ireturn, 1) := by decide +kernel
theorem dX5_cycleNow_48 : decode cX5_cycleNow 48 = .ok (.aload_n 0, 1) := by decide +kernel
theorem dX5_cycleNow_49 : decode cX5_cycleNow 49 = .ok (.iload_n 1, 1) := by decide +kernel
theorem dX5_cycleNow_50 : decode cX5_cycleNow 50 = .ok (.invokevirtual 242, 3) := by decide +kernel
theorem dX5_cycleNow_53 : decode cX5_cycleNow 53 = .ok (.ireturn, 1) := by decide +kernel
theorem dX5_cycleNow_54 : decode cX5_cycleNow 54 = .ok (.aload_n 0, 1) := by decide +kernel
theorem dX5_cycleNow_55 : decode cX5_cycleNow 55 = .ok (.getfield 31, 3) := by decide +kernel
theorem dX5_cycleNow_58 : decode cX5_cycleNow 58 = .ok (.aload_n 0, 1) := by decide +kernel
theorem dX5_cycleNow_59 : decode cX5_cycleNow 59 = .ok (.iload_n 3, 1) := by decide +kernel
theorem dX5_cycleNow_60 : decode cX5_cycleNow 60 = .ok (.bipush 6, 2) := by decide +kernel
theorem dX5_cycleNow_62 : decode cX5_cycleNow 62 = .ok (.invokevirtual 236, 3) := by decide +kernel
theorem dX5_cycleNow_65 : decode cX5_cycleNow 65 = .ok (.iaload, 1) := by decide +kernel
theorem dX5_cycleNow_66 : decode cX5_cycleNow 66 = .ok (.ireturn, 1) := by decide +kernel
theorem dX5_cycleNow_67 : decode cX5_cycleNow 67 = .ok (.aload_n 0, 1) := by decide +kernel
theorem dX5_cycleNow_68 : decode cX5_cycleNow 68 = .ok (.getfield 31, 3) := by decide +kernel
theorem dX5_cycleNow_71 : decode cX5_cycleNow 71 = .ok (.aload_n 0, 1) := by decide +kernel
theorem dX5_cycleNow_72 : decode cX5_cycleNow 72 = .ok (.iload_n 3, 1) := by decide +kernel
theorem dX5_cycleNow_73 : decode cX5_cycleNow 73 = .ok (.bipush 7, 2) := by decide +kernel
theorem dX5_cycleNow_75 : decode cX5_cycleNow 75 = .ok (.invokevirtual 236, 3) := by decide +kernel
theorem dX5_cycleNow_78 : decode cX5_cycleNow 78 = .ok (.iaload, 1) := by decide +kernel
theorem dX5_cycleNow_79 : decode cX5_cycleNow 79 = .ok (.ireturn, 1) := by decide +kernel
set_option maxRecDepth 20000 in
theorem ggX5_cycle_X5_isCycle : GoodIn wsX5_cycle wsX5_isCycle := goodIn_r _ [7, 8, 9, 10, 6, 11, 47, 48, 49, 50, 51, 52, 53, 54, 55, 56, 57, 58, 59, 60, 61, 62, 63, 64, 65, 66, 67, 68, 69, 70, 71, 72, 73, 74, 75, 76, 77, 78, 79, 80, 81] (by decide +kernel) (by decide +kernel)
set_option maxRecDepth 20000 in
theorem gX5_cycle_X5_isCycle : GoodIn wsX5_cycle (wsV RX5 245 RX5 yX5_isCycle wsX5_isCycle) := goodIn_app (goodIn_of _ (by decide +kernel)) ggX5_cycle_X5_isCycle
set_option maxRecDepth 20000 in
theorem ggX5_cycle_X5_within : GoodIn wsX5_cycle wsX5_within := goodIn_r _ [11] (by decide +kernel) (by decide +kernel)
set_option maxRecDepth 20000 in
theorem gX5_cycle_X5_within : GoodIn wsX5_cycle (va_wsS RX5 50 yX5_within wsX5_within) := goodIn_app (goodIn_of _ (by decide +kernel)) ggX5_cycle_X5_within
set_option maxRecDepth 20000 in
theorem ggX5_cycle_X5_cycleNow : GoodIn wsX5_cycle wsX5_cycleNow := goodIn_r _ [15, 16, 17, 18, 19, 20, 6, 21, 22, 23, 24, 25, 26, 27, 28, 29, 30, 31, 32, 33, 34, 35, 36, 37, 38, 39, 40, 41, 42, 43, 44, 45, 46, 47, 48, 49, 50, 51, 52, 53, 54, 55, 56, 57, 58, 59, 60, 61, 62, 63, 64, 65, 66, 67, 68, 69, 70, 71, 72, 73, 74, 75, 76, 77, 78, 79, 80, 81] (by decide +kernel) (by decide +kernel)
set_option maxRecDepth 20000 in
theorem gX5_cycle_X5_cycleNow : GoodIn wsX5_cycle (wsV RX5 248 RX5 yX5_cycleNow wsX5_cycleNow) := goodIn_app (goodIn_of _ (by decide +kernel)) ggX5_cycle_X5_cycleNow
theorem dX5_cycle_0 : decode cX5_cycle 0 = .ok (.aload_n 0, 1) := by decide +kernel
theorem dX5_cycle_1 : decode cX5_cycle 1 = .ok (.iload_n 1, 1) := by decide +kernel
theorem dX5_cycle_2 : decode cX5_cycle 2 = .ok (.invokevirtual 245, 3) := by decide +kernel
theorem dX5_cycle_5 : decode cX5_cycle 5 = .ok (.ifCond .ne 8, 3) := by decide +kernel
theorem dX5_cycle_8 : decode cX5_cycle 8 = .ok (.ldc 145, 2) := by decide +kernel
theorem dX5_cycle_10 : decode cX5_cycle 10 = .ok (.goto 23, 3) := by decide +kernel
theorem dX5_cycle_13 : decode cX5_cycle 13 = .ok (.iload_n 2, 1) := by decide +kernel
theorem dX5_cycle_14 : decode cX5_cycle 14 = .ok (.iconst 0, 1) := by decide +kernel
theorem dX5_cycle_15 : decode cX5_cycle 15 = .ok (.iconst 4, 1) := by decide +kernel
theorem dX5_cycle_16 : decode cX5_cycle 16 = .ok (.invokestatic 50, 3) := by decide +kernel
theorem dX5_cycle_19 : decode cX5_cycle 19 = .ok (.ifCond .eq 12, 3) := by decide +kernel
theorem dX5_cycle_22 : decode cX5_cycle 22 = .ok (.aload_n 0, 1) := by decide +kernel
theorem dX5_cycle_23 : decode cX5_cycle 23 = .ok (.iload_n 1, 1) := by decide +kernel
theorem dX5_cycle_24 : decode cX5_cycle 24 = .ok (.iload_n 2, 1) := by decide +kernel
theorem dX5_cycle_25 : decode cX5_cycle 25 = .ok (.invokevirtual 248, 3) := by decide +kernel
theorem dX5_cycle_28 : decode cX5_cycle 28 = .ok (.goto 5, 3) := by decide +kernel
theorem dX5_cycle_31 : decode cX5_cycle 31 = .ok (.ldc 54, 2) := by decide +kernel
theorem dX5_cycle_33 : decode cX5_cycle 33 = .ok (.ireturn, 1) := by decide +kernel
theorem dX5_formAt_0 : decode cX5_formAt 0 = .ok (.aload_n 0, 1) := by decide +kernel
theorem dX5_formAt_1 : decode cX5_formAt 1 = .ok (.getfield 34, 3) := by decide +kernel
theorem dX5_formAt_4 : decode cX5_formAt 4 = .ok (.iload_n 1, 1) := by decide +kernel
theorem dX5_formAt_5 : decode cX5_formAt 5 = .ok (.iaload, 1) := by decide +kernel
theorem dX5_formAt_6 : decode cX5_formAt 6 = .ok (.istore_n 3, 1) := by decide +kernel
theorem dX5_formAt_7 : decode cX5_formAt 7 = .ok (.iconst 0, 1) := by decide +kernel
theorem dX5_formAt_8 : decode cX5_formAt 8 = .ok (.istore 4, 2) := by decide +kernel
theorem dX5_formAt_10 : decode cX5_formAt 10 = .ok (.iload 4, 2) := by decide +kernel
theorem dX5_formAt_12 : decode cX5_formAt 12 = .ok (.iload_n 2, 1) := by decide +kernel
theorem dX5_formAt_13 : decode cX5_formAt 13 = .ok (.if_icmp .ge 16, 3) := by decide +kernel
theorem dX5_formAt_16 : decode cX5_formAt 16 = .ok (.aload_n 0, 1) := by decide +kernel
theorem dX5_formAt_17 : decode cX5_formAt 17 = .ok (.getfield 28, 3) := by decide +kernel
theorem dX5_formAt_20 : decode cX5_formAt 20 = .ok (.iload_n 3, 1) := by decide +kernel
theorem dX5_formAt_21 : decode cX5_formAt 21 = .ok (.iaload, 1) := by decide +kernel
theorem dX5_formAt_22 : decode cX5_formAt 22 = .ok (.istore_n 3, 1) := by decide +kernel
theorem dX5_formAt_23 : decode cX5_formAt 23 = .ok (.iinc 4 1, 3) := by decide +kernel
theorem dX5_formAt_26 : decode cX5_formAt 26 = .ok (.goto (-16), 3) := by decide +kernel
theorem dX5_formAt_29 : decode cX5_formAt 29 = .ok (.iload_n 3, 1) := by decide +kernel
theorem dX5_formAt_30 : decode cX5_formAt 30 = .ok (.ireturn, 1) := by decide +kernel
set_option maxRecDepth 20000 in
theorem ggX5_step_X5_isCycle : GoodIn wsX5_step wsX5_isCycle := goodIn_r _ [6, 7, 8, 9, 5, 10, 33, 34, 35, 36, 37, 38, 39, 40, 41, 42, 43, 44, 45, 46, 47, 48, 49, 50, 51, 52, 53, 54, 55, 56, 57, 58, 59, 60, 61, 62, 63, 64, 65, 66, 67] (by decide +kernel) (by decide +kernel)
set_option maxRecDepth 20000 in
theorem gX5_step_X5_isCycle : GoodIn wsX5_step (wsV RX5 245 RX5 yX5_isCycle wsX5_isCycle) := goodIn_app (goodIn_of _ (by decide +kernel)) ggX5_step_X5_isCycle
set_option maxRecDepth 20000 in
theorem ggX5_step_X5_sizeOf : GoodIn wsX5_step wsX5_sizeOf := goodIn_r _ [14, 15, 16, 33, 34, 35, 36, 37, 38, 39, 40, 41, 42, 43, 44, 45, 46, 47, 48, 49, 50, 51, 52, 53, 54, 55, 56, 57, 58, 59, 60, 61, 62, 63, 64, 65, 66, 67] (by decide +kernel) (by decide +kernel)
set_option maxRecDepth 20000 in
theorem gX5_step_X5_sizeOf : GoodIn wsX5_step (wsV RX5 239 RX5 yX5_sizeOf wsX5_sizeOf) := goodIn_app (goodIn_of _ (by decide +kernel)) ggX5_step_X5_sizeOf
set_option maxRecDepth 20000 in
theorem ggX5_step_X5_within : GoodIn wsX5_step wsX5_within := goodIn_r _ [10] (by decide +kernel) (by decide +kernel)
set_option maxRecDepth 20000 in
theorem gX5_step_X5_within : GoodIn wsX5_step (va_wsS RX5 50 yX5_within wsX5_within) := goodIn_app (goodIn_of _ (by decide +kernel)) ggX5_step_X5_within
set_option maxRecDepth 20000 in
theorem ggX5_step_X5_formAt : GoodIn wsX5_step wsX5_formAt := goodIn_r _ [20, 21, 22, 33, 34, 35, 36, 37, 38, 39, 40, 41, 42, 43, 44, 45, 46, 47, 48, 49, 50, 51, 52, 53, 54, 55, 56, 57, 58, 59, 60, 61, 62, 63, 64, 65, 66, 67] (by decide +kernel) (by decide +kernel)
set_option maxRecDepth 20000 in
theorem gX5_step_X5_formAt : GoodIn wsX5_step (wsV RX5 251 RX5 yX5_formAt wsX5_formAt) := goodIn_app (goodIn_of _ (by decide +kernel)) ggX5_step_X5_formAt
set_option maxRecDepth 20000 in
theorem ggX5_step_X5_isLeft : GoodIn wsX5_step wsX5_isLeft := goodIn_r _ [26, 27, 28, 29, 33, 34, 35, 36, 37, 38, 39, 40, 41, 42, 43, 44, 45, 46, 47, 48, 49, 50, 51, 52, 53, 54, 55, 56, 57, 58, 59, 60, 61, 62, 63, 64, 65, 66, 67] (by decide +kernel) (by decide +kernel)
set_option maxRecDepth 20000 in
theorem gX5_step_X5_isLeft : GoodIn wsX5_step (wsV RX5 215 RX5 yX5_isLeft wsX5_isLeft) := goodIn_app (goodIn_of _ (by decide +kernel)) ggX5_step_X5_isLeft
set_option maxRecDepth 20000 in
theorem ggX5_step_X5_codeOf : GoodIn wsX5_step wsX5_codeOf := goodIn_r _ [32] (by decide +kernel) (by decide +kernel)
set_option maxRecDepth 20000 in
theorem gX5_step_X5_codeOf : GoodIn wsX5_step (va_wsS RX5 149 yX5_codeOf wsX5_codeOf) := goodIn_app (goodIn_of _ (by decide +kernel)) ggX5_step_X5_codeOf
theorem dX5_step_0 : decode cX5_step 0 = .ok (.aload_n 0, 1) := by decide +kernel
theorem dX5_step_1 : decode cX5_step 1 = .ok (.iload_n 1, 1) := by decide +kernel
theorem dX5_step_2 : decode cX5_step 2 = .ok (.invokevirtual 245, 3) := by decide +kernel
theorem dX5_step_5 : decode cX5_step 5 = .ok (.ifCond .eq 18, 3) := by decide +kernel
theorem dX5_step_8 : decode cX5_step 8 = .ok (.iload_n 2, 1) := by decide +kernel
theorem dX5_step_9 : decode cX5_step 9 = .ok (.iconst 0, 1) := by decide +kernel
theorem dX5_step_10 : decode cX5_step 10 = .ok (.aload_n 0, 1) := by decide +kernel
theorem dX5_step_11 : decode cX5_step 11 = .ok (.iload_n 1, 1) := by decide +kernel
theorem dX5_step_12 : decode cX5_step 12 = .ok (.invokevirtual 239, 3) := by decide +kernel
theorem dX5_step_15 : decode cX5_step 15 = .ok (.iconst 1, 1) := by decide +kernel
theorem dX5_step_16 : decode cX5_step 16 = .ok (.isub, 1) := by decide +kernel
theorem dX5_step_17 : decode cX5_step 17 = .ok (.invokestatic 50, 3) := by decide +kernel
theorem dX5_step_20 : decode cX5_step 20 = .ok (.ifCond .ne 6, 3) := by decide +kernel
theorem dX5_step_23 : decode cX5_step 23 = .ok (.ldc 145, 2) := by decide +kernel
theorem dX5_step_25 : decode cX5_step 25 = .ok (.ireturn, 1) := by decide +kernel
theorem dX5_step_26 : decode cX5_step 26 = .ok (.aload_n 0, 1) := by decide +kernel
theorem dX5_step_27 : decode cX5_step 27 = .ok (.aload_n 0, 1) := by decide +kernel
theorem dX5_step_28 : decode cX5_step 28 = .ok (.iload_n 1, 1) := by decide +kernel
theorem dX5_step_29 : decode cX5_step 29 = .ok (.iload_n 2, 1) := by decide +kernel
theorem dX5_step_30 : decode cX5_step 30 = .ok (.invokevirtual 251, 3) := by decide +kernel
theorem dX5_step_33 : decode cX5_step 33 = .ok (.invokevirtual 215, 3) := by decide +kernel
theorem dX5_step_36 : decode cX5_step 36 = .ok (.ifCond .eq 7, 3) := by decide +kernel
theorem dX5_step_39 : decode cX5_step 39 = .ok (.iconst 0, 1) := by decide +kernel
theorem dX5_step_40 : decode cX5_step 40 = .ok (.goto 4, 3) := by decide +kernel
theorem dX5_step_43 : decode cX5_step 43 = .ok (.iconst 1, 1) := by decide +kernel
theorem dX5_step_44 : decode cX5_step 44 = .ok (.invokestatic 149, 3) := by decide +kernel
theorem dX5_step_47 : decode cX5_step 47 = .ok (.ireturn, 1) := by decide +kernel
set_option maxRecDepth 20000 in
theorem ggX5_traceOf_X5_isLeft : GoodIn wsX5_traceOf wsX5_isLeft := goodIn_r _ [7, 8, 9, 10, 11, 12, 13, 14, 15, 16, 17, 18, 19, 20, 21, 22, 23, 24, 25, 26, 27, 28, 29, 30, 31, 32, 33, 34, 35, 36, 37, 38, 39, 40, 41, 42, 43, 44, 45] (by decide +kernel) (by decide +kernel)
set_option maxRecDepth 20000 in
theorem gX5_traceOf_X5_isLeft : GoodIn wsX5_traceOf (wsV RX5 215 RX5 yX5_isLeft wsX5_isLeft) := goodIn_app (goodIn_of _ (by decide +kernel)) ggX5_traceOf_X5_isLeft
theorem dX5_traceOf_0 : decode cX5_traceOf 0 = .ok (.iconst 1, 1) := by decide +kernel
theorem dX5_traceOf_1 : decode cX5_traceOf 1 = .ok (.istore_n 3, 1) := by decide +kernel
theorem dX5_traceOf_2 : decode cX5_traceOf 2 = .ok (.iconst 0, 1) := by decide +kernel
theorem dX5_traceOf_3 : decode cX5_traceOf 3 = .ok (.istore 4, 2) := by decide +kernel
theorem dX5_traceOf_5 : decode cX5_traceOf 5 = .ok (.iconst 0, 1) := by decide +kernel
theorem dX5_traceOf_6 : decode cX5_traceOf 6 = .ok (.istore 5, 2) := by decide +kernel
theorem dX5_traceOf_8 : decode cX5_traceOf 8 = .ok (.iconst 1, 1) := by decide +kernel
theorem dX5_traceOf_9 : decode cX5_traceOf 9 = .ok (.istore 6, 2) := by decide +kernel
theorem dX5_traceOf_11 : decode cX5_traceOf 11 = .ok (.aload_n 0, 1) := by decide +kernel
theorem dX5_traceOf_12 : decode cX5_traceOf 12 = .ok (.getfield 34, 3) := by decide +kernel
theorem dX5_traceOf_15 : decode cX5_traceOf 15 = .ok (.iload_n 1, 1) := by decide +kernel
theorem dX5_traceOf_16 : decode cX5_traceOf 16 = .ok (.iaload, 1) := by decide +kernel
theorem dX5_traceOf_17 : decode cX5_traceOf 17 = .ok (.istore 7, 2) := by decide +kernel
theorem dX5_traceOf_19 : decode cX5_traceOf 19 = .ok (.aload_n 0, 1) := by decide +kernel
theorem dX5_traceOf_20 : decode cX5_traceOf 20 = .ok (.iload 7, 2) := by decide +kernel
theorem dX5_traceOf_22 : decode cX5_traceOf 22 = .ok (.invokevirtual 215, 3) := by decide +kernel
theorem dX5_traceOf_25 : decode cX5_traceOf 25 = .ok (.ifCond .eq 22, 3) := by decide +kernel
theorem dX5_traceOf_28 : decode cX5_traceOf 28 = .ok (.iload_n 3, 1) := by decide +kernel
theorem dX5_traceOf_29 : decode cX5_traceOf 29 = .ok (.iload 4, 2) := by decide +kernel
theorem dX5_traceOf_31 : decode cX5_traceOf 31 = .ok (.iadd, 1) := by decide +kernel
theorem dX5_traceOf_32 : decode cX5_traceOf 32 = .ok (.iload_n 2, 1) := by decide +kernel
theorem dX5_traceOf_33 : decode cX5_traceOf 33 = .ok (.irem, 1) := by decide +kernel
theorem dX5_traceOf_34 : decode cX5_traceOf 34 = .ok (.istore_n 3, 1) := by decide +kernel
theorem dX5_traceOf_35 : decode cX5_traceOf 35 = .ok (.iload 5, 2) := by decide +kernel
theorem dX5_traceOf_37 : decode cX5_traceOf 37 = .ok (.iload 6, 2) := by decide +kernel
theorem dX5_traceOf_39 : decode cX5_traceOf 39 = .ok (.iadd, 1) := by decide +kernel
theorem dX5_traceOf_40 : decode cX5_traceOf 40 = .ok (.iload_n 2, 1) := by decide +kernel
theorem dX5_traceOf_41 : decode cX5_traceOf 41 = .ok (.irem, 1) := by decide +kernel
theorem dX5_traceOf_42 : decode cX5_traceOf 42 = .ok (.istore 5, 2) := by decide +kernel
theorem dX5_traceOf_44 : decode cX5_traceOf 44 = .ok (.goto 20, 3) := by decide +kernel
theorem dX5_traceOf_47 : decode cX5_traceOf 47 = .ok (.iload_n 3, 1) := by decide +kernel
theorem dX5_traceOf_48 : decode cX5_traceOf 48 = .ok (.iload 4, 2) := by decide +kernel
theorem dX5_traceOf_50 : decode cX5_traceOf 50 = .ok (.iadd, 1) := by decide +kernel
theorem dX5_traceOf_51 : decode cX5_traceOf 51 = .ok (.iload_n 2, 1) := by decide +kernel
theorem dX5_traceOf_52 : decode cX5_traceOf 52 = .ok (.irem, 1) := by decide +kernel
theorem dX5_traceOf_53 : decode cX5_traceOf 53 = .ok (.istore 4, 2) := by decide +kernel
theorem dX5_traceOf_55 : decode cX5_traceOf 55 = .ok (.iload 5, 2) := by decide +kernel
theorem dX5_traceOf_57 : decode cX5_traceOf 57 = .ok (.iload 6, 2) := by decide +kernel
theorem dX5_traceOf_59 : decode cX5_traceOf 59 = .ok (.iadd, 1) := by decide +kernel
theorem dX5_traceOf_60 : decode cX5_traceOf 60 = .ok (.iload_n 2, 1) := by decide +kernel
theorem dX5_traceOf_61 : decode cX5_traceOf 61 = .ok (.irem, 1) := by decide +kernel
theorem dX5_traceOf_62 : decode cX5_traceOf 62 = .ok (.istore 6, 2) := by decide +kernel
theorem dX5_traceOf_64 : decode cX5_traceOf 64 = .ok (.aload_n 0, 1) := by decide +kernel
theorem dX5_traceOf_65 : decode cX5_traceOf 65 = .ok (.getfield 28, 3) := by decide +kernel
theorem dX5_traceOf_68 : decode cX5_traceOf 68 = .ok (.iload 7, 2) := by decide +kernel
theorem dX5_traceOf_70 : decode cX5_traceOf 70 = .ok (.iaload, 1) := by decide +kernel
theorem dX5_traceOf_71 : decode cX5_traceOf 71 = .ok (.istore 7, 2) := by decide +kernel
theorem dX5_traceOf_73 : decode cX5_traceOf 73 = .ok (.iload 7, 2) := by decide +kernel
theorem dX5_traceOf_75 : decode cX5_traceOf 75 = .ok (.aload_n 0, 1) := by decide +kernel
theorem dX5_traceOf_76 : decode cX5_traceOf 76 = .ok (.getfield 34, 3) := by decide +kernel
theorem dX5_traceOf_79 : decode cX5_traceOf 79 = .ok (.iload_n 1, 1) := by decide +kernel
theorem dX5_traceOf_80 : decode cX5_traceOf 80 = .ok (.iaload, 1) := by decide +kernel
theorem dX5_traceOf_81 : decode cX5_traceOf 81 = .ok (.if_icmp .ne (-62), 3) := by decide +kernel
theorem dX5_traceOf_84 : decode cX5_traceOf 84 = .ok (.iload_n 3, 1) := by decide +kernel
theorem dX5_traceOf_85 : decode cX5_traceOf 85 = .ok (.iload 6, 2) := by decide +kernel
theorem dX5_traceOf_87 : decode cX5_traceOf 87 = .ok (.iadd, 1) := by decide +kernel
theorem dX5_traceOf_88 : decode cX5_traceOf 88 = .ok (.iload_n 2, 1) := by decide +kernel
theorem dX5_traceOf_89 : decode cX5_traceOf 89 = .ok (.irem, 1) := by decide +kernel
theorem dX5_traceOf_90 : decode cX5_traceOf 90 = .ok (.ireturn, 1) := by decide +kernel
set_option maxRecDepth 20000 in
theorem ggX5_trace_X5_isCycle : GoodIn wsX5_trace wsX5_isCycle := goodIn_r _ [7, 8, 9, 10, 6, 11, 25, 26, 27, 28, 29, 30, 31, 32, 33, 34, 35, 36, 37, 38, 39, 40, 41, 42, 43, 44, 45, 46, 47, 48, 49, 50, 51, 52, 53, 54, 55, 56, 57, 58, 59] (by decide +kernel) (by decide +kernel)
set_option maxRecDepth 20000 in
theorem gX5_trace_X5_isCycle : GoodIn wsX5_trace (wsV RX5 245 RX5 yX5_isCycle wsX5_isCycle) := goodIn_app (goodIn_of _ (by decide +kernel)) ggX5_trace_X5_isCycle
set_option maxRecDepth 20000 in
theorem ggX5_trace_X5_within : GoodIn wsX5_trace wsX5_within := goodIn_r _ [11] (by decide +kernel) (by decide +kernel)
set_option maxRecDepth 20000 in
theorem gX5_trace_X5_within : GoodIn wsX5_trace (va_wsS RX5 50 yX5_within wsX5_within) := goodIn_app (goodIn_of _ (by decide +kernel)) ggX5_trace_X5_within
set_option maxRecDepth 20000 in
theorem ggX5_trace_X5_traceOf : GoodIn wsX5_trace wsX5_traceOf := goodIn_r _ [15, 16, 17, 18, 19, 20, 6, 21, 22, 23, 24, 25, 26, 27, 28, 29, 30, 31, 32, 33, 34, 35, 36, 37, 38, 39, 40, 41, 42, 43, 44, 45, 46, 47, 48, 49, 50, 51, 52, 53, 54, 55, 56, 57, 58, 59] (by decide +kernel) (by decide +kernel)
set_option maxRecDepth 20000 in
theorem gX5_trace_X5_traceOf : GoodIn wsX5_trace (wsV RX5 254 RX5 yX5_traceOf wsX5_traceOf) := goodIn_app (goodIn_of _ (by decide +kernel)) ggX5_trace_X5_traceOf
theorem dX5_trace_0 : decode cX5_trace 0 = .ok (.aload_n 0, 1) := by decide +kernel
theorem dX5_trace_1 : decode cX5_trace 1 = .ok (.iload_n 1, 1) := by decide +kernel
theorem dX5_trace_2 : decode cX5_trace 2 = .ok (.invokevirtual 245, 3) := by decide +kernel
theorem dX5_trace_5 : decode cX5_trace 5 = .ok (.ifCond .ne 8, 3) := by decide +kernel
theorem dX5_trace_8 : decode cX5_trace 8 = .ok (.ldc 145, 2) := by decide +kernel
theorem dX5_trace_10 : decode cX5_trace 10 = .ok (.goto 25, 3) := by decide +kernel
theorem dX5_trace_13 : decode cX5_trace 13 = .ok (.iload_n 2, 1) := by decide +kernel
theorem dX5_trace_14 : decode cX5_trace 14 = .ok (.iconst 2, 1) := by decide +kernel
theorem dX5_trace_15 : decode cX5_trace 15 = .ok (.sipush 1000, 3) := by decide +kernel
theorem dX5_trace_18 : decode cX5_trace 18 = .ok (.invokestatic 50, 3) := by decide +kernel
theorem dX5_trace_21 : decode cX5_trace 21 = .ok (.ifCond .eq 12, 3) := by decide +kernel
theorem dX5_trace_24 : decode cX5_trace 24 = .ok (.aload_n 0, 1) := by decide +kernel
theorem dX5_trace_25 : decode cX5_trace 25 = .ok (.iload_n 1, 1) := by decide +kernel
theorem dX5_trace_26 : decode cX5_trace 26 = .ok (.iload_n 2, 1) := by decide +kernel
theorem dX5_trace_27 : decode cX5_trace 27 = .ok (.invokevirtual 254, 3) := by decide +kernel
theorem dX5_trace_30 : decode cX5_trace 30 = .ok (.goto 5, 3) := by decide +kernel
theorem dX5_trace_33 : decode cX5_trace 33 = .ok (.ldc 54, 2) := by decide +kernel
theorem dX5_trace_35 : decode cX5_trace 35 = .ok (.ireturn, 1) := by decide +kernel
set_option maxRecDepth 20000 in
theorem ggX5_flowStep_X5_abs : GoodIn wsX5_flowStep wsX5_abs := goodIn_r _ [7] (by decide +kernel) (by decide +kernel)
set_option maxRecDepth 20000 in
theorem gX5_flowStep_X5_abs : GoodIn wsX5_flowStep (va_wsS RX5 46 yX5_abs wsX5_abs) := goodIn_app (goodIn_of _ (by decide +kernel)) ggX5_flowStep_X5_abs
theorem dX5_flowStep_0 : decode cX5_flowStep 0 = .ok (.aload_n 0, 1) := by decide +kernel
theorem dX5_flowStep_1 : decode cX5_flowStep 1 = .ok (.getfield 257, 3) := by decide +kernel
theorem dX5_flowStep_4 : decode cX5_flowStep 4 = .ok (.ifCond .le 7, 3) := by decide +kernel
theorem dX5_flowStep_7 : decode cX5_flowStep 7 = .ok (.iconst 1, 1) := by decide +kernel
theorem dX5_flowStep_8 : decode cX5_flowStep 8 = .ok (.goto 4, 3) := by decide +kernel
theorem dX5_flowStep_11 : decode cX5_flowStep 11 = .ok (.iconst 0, 1) := by decide +kernel
theorem dX5_flowStep_12 : decode cX5_flowStep 12 = .ok (.aload_n 0, 1) := by decide +kernel
theorem dX5_flowStep_13 : decode cX5_flowStep 13 = .ok (.getfield 260, 3) := by decide +kernel
theorem dX5_flowStep_16 : decode cX5_flowStep 16 = .ok (.ifCond .le 7, 3) := by decide +kernel
theorem dX5_flowStep_19 : decode cX5_flowStep 19 = .ok (.iconst 1, 1) := by decide +kernel
theorem dX5_flowStep_20 : decode cX5_flowStep 20 = .ok (.goto 4, 3) := by decide +kernel
theorem dX5_flowStep_23 : decode cX5_flowStep 23 = .ok (.iconst 0, 1) := by decide +kernel
theorem dX5_flowStep_24 : decode cX5_flowStep 24 = .ok (.if_icmp .ne 7, 3) := by decide +kernel
theorem dX5_flowStep_27 : decode cX5_flowStep 27 = .ok (.iconst (-1), 1) := by decide +kernel
theorem dX5_flowStep_28 : decode cX5_flowStep 28 = .ok (.goto 4, 3) := by decide +kernel
theorem dX5_flowStep_31 : decode cX5_flowStep 31 = .ok (.iconst 1, 1) := by decide +kernel
theorem dX5_flowStep_32 : decode cX5_flowStep 32 = .ok (.istore_n 1, 1) := by decide +kernel
theorem dX5_flowStep_33 : decode cX5_flowStep 33 = .ok (.aload_n 0, 1) := by decide +kernel
