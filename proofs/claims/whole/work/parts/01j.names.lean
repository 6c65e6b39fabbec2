theorem dX5_flowStep_34 : decode cX5_flowStep 34 = .ok (.getfield 257, 3) := by decide +kernel
theorem dX5_flowStep_37 : decode cX5_flowStep 37 = .ok (.aload_n 0, 1) := by decide +kernel
theorem dX5_flowStep_38 : decode cX5_flowStep 38 = .ok (.getfield 263, 3) := by decide +kernel
theorem dX5_flowStep_41 : decode cX5_flowStep 41 = .ok (.iadd, 1) := by decide +kernel
theorem dX5_flowStep_42 : decode cX5_flowStep 42 = .ok (.iload_n 1, 1) := by decide +kernel
theorem dX5_flowStep_43 : decode cX5_flowStep 43 = .ok (.aload_n 0, 1) := by decide +kernel
theorem dX5_flowStep_44 : decode cX5_flowStep 44 = .ok (.getfield 260, 3) := by decide +kernel
theorem dX5_flowStep_47 : decode cX5_flowStep 47 = .ok (.imul, 1) := by decide +kernel
theorem dX5_flowStep_48 : decode cX5_flowStep 48 = .ok (.iadd, 1) := by decide +kernel
theorem dX5_flowStep_49 : decode cX5_flowStep 49 = .ok (.istore_n 2, 1) := by decide +kernel
theorem dX5_flowStep_50 : decode cX5_flowStep 50 = .ok (.aload_n 0, 1) := by decide +kernel
theorem dX5_flowStep_51 : decode cX5_flowStep 51 = .ok (.getfield 257, 3) := by decide +kernel
theorem dX5_flowStep_54 : decode cX5_flowStep 54 = .ok (.invokestatic 46, 3) := by decide +kernel
theorem dX5_flowStep_57 : decode cX5_flowStep 57 = .ok (.aload_n 0, 1) := by decide +kernel
theorem dX5_flowStep_58 : decode cX5_flowStep 58 = .ok (.getfield 263, 3) := by decide +kernel
theorem dX5_flowStep_61 : decode cX5_flowStep 61 = .ok (.invokestatic 46, 3) := by decide +kernel
theorem dX5_flowStep_64 : decode cX5_flowStep 64 = .ok (.if_icmp .lt 28, 3) := by decide +kernel
theorem dX5_flowStep_67 : decode cX5_flowStep 67 = .ok (.aload_n 0, 1) := by decide +kernel
theorem dX5_flowStep_68 : decode cX5_flowStep 68 = .ok (.dup, 1) := by decide +kernel
theorem dX5_flowStep_69 : decode cX5_flowStep 69 = .ok (.getfield 260, 3) := by decide +kernel
theorem dX5_flowStep_72 : decode cX5_flowStep 72 = .ok (.iconst 2, 1) := by decide +kernel
theorem dX5_flowStep_73 : decode cX5_flowStep 73 = .ok (.iload_n 1, 1) := by decide +kernel
theorem dX5_flowStep_74 : decode cX5_flowStep 74 = .ok (.imul, 1) := by decide +kernel
theorem dX5_flowStep_75 : decode cX5_flowStep 75 = .ok (.aload_n 0, 1) := by decide +kernel
theorem dX5_flowStep_76 : decode cX5_flowStep 76 = .ok (.getfield 263, 3) := by decide +kernel
theorem dX5_flowStep_79 : decode cX5_flowStep 79 = .ok (.imul, 1) := by decide +kernel
theorem dX5_flowStep_80 : decode cX5_flowStep 80 = .ok (.iadd, 1) := by decide +kernel
theorem dX5_flowStep_81 : decode cX5_flowStep 81 = .ok (.putfield 260, 3) := by decide +kernel
theorem dX5_flowStep_84 : decode cX5_flowStep 84 = .ok (.aload_n 0, 1) := by decide +kernel
theorem dX5_flowStep_85 : decode cX5_flowStep 85 = .ok (.iload_n 2, 1) := by decide +kernel
theorem dX5_flowStep_86 : decode cX5_flowStep 86 = .ok (.putfield 257, 3) := by decide +kernel
theorem dX5_flowStep_89 : decode cX5_flowStep 89 = .ok (.goto 25, 3) := by decide +kernel
theorem dX5_flowStep_92 : decode cX5_flowStep 92 = .ok (.aload_n 0, 1) := by decide +kernel
theorem dX5_flowStep_93 : decode cX5_flowStep 93 = .ok (.dup, 1) := by decide +kernel
theorem dX5_flowStep_94 : decode cX5_flowStep 94 = .ok (.getfield 260, 3) := by decide +kernel
theorem dX5_flowStep_97 : decode cX5_flowStep 97 = .ok (.iconst 2, 1) := by decide +kernel
theorem dX5_flowStep_98 : decode cX5_flowStep 98 = .ok (.iload_n 1, 1) := by decide +kernel
theorem dX5_flowStep_99 : decode cX5_flowStep 99 = .ok (.imul, 1) := by decide +kernel
theorem dX5_flowStep_100 : decode cX5_flowStep 100 = .ok (.aload_n 0, 1) := by decide +kernel
theorem dX5_flowStep_101 : decode cX5_flowStep 101 = .ok (.getfield 257, 3) := by decide +kernel
theorem dX5_flowStep_104 : decode cX5_flowStep 104 = .ok (.imul, 1) := by decide +kernel
theorem dX5_flowStep_105 : decode cX5_flowStep 105 = .ok (.iadd, 1) := by decide +kernel
theorem dX5_flowStep_106 : decode cX5_flowStep 106 = .ok (.putfield 260, 3) := by decide +kernel
theorem dX5_flowStep_109 : decode cX5_flowStep 109 = .ok (.aload_n 0, 1) := by decide +kernel
theorem dX5_flowStep_110 : decode cX5_flowStep 110 = .ok (.iload_n 2, 1) := by decide +kernel
theorem dX5_flowStep_111 : decode cX5_flowStep 111 = .ok (.putfield 263, 3) := by decide +kernel
theorem dX5_flowStep_114 : decode cX5_flowStep 114 = .ok (.return_, 1) := by decide +kernel
set_option maxRecDepth 20000 in
theorem ggX5_flowNow_X5_flowStep : GoodIn wsX5_flowNow wsX5_flowStep := goodIn_r _ [8, 1, 3, 2, 9, 10, 7, 11, 21, 22, 23, 24, 25, 26, 27, 28, 29, 30, 31, 32, 33, 34, 35, 36, 37, 38, 39, 40, 41, 42, 43, 44, 45, 46, 47, 48, 49, 50, 51, 52, 53, 54, 55] (by decide +kernel) (by decide +kernel)
set_option maxRecDepth 20000 in
theorem gX5_flowNow_X5_flowStep : GoodIn wsX5_flowNow (wsV RX5 266 RX5 yX5_flowStep wsX5_flowStep) := goodIn_app (goodIn_of _ (by decide +kernel)) ggX5_flowNow_X5_flowStep
set_option maxRecDepth 20000 in
theorem ggX5_flowNow_X5_numberOf : GoodIn wsX5_flowNow wsX5_numberOf := goodIn_r _ [15, 16, 17, 18, 19, 20, 21, 22, 23, 24, 25, 26, 27, 28, 29, 30, 31, 32, 33, 34, 35, 36, 37, 38, 39, 40, 41, 42, 43, 44, 45, 46, 47, 48, 49, 50, 51, 52, 53, 54, 55] (by decide +kernel) (by decide +kernel)
set_option maxRecDepth 20000 in
theorem gX5_flowNow_X5_numberOf : GoodIn wsX5_flowNow (wsV RX5 218 RX5 yX5_numberOf wsX5_numberOf) := goodIn_app (goodIn_of _ (by decide +kernel)) ggX5_flowNow_X5_numberOf
theorem dX5_flowNow_0 : decode cX5_flowNow 0 = .ok (.iconst 0, 1) := by decide +kernel
theorem dX5_flowNow_1 : decode cX5_flowNow 1 = .ok (.istore_n 2, 1) := by decide +kernel
theorem dX5_flowNow_2 : decode cX5_flowNow 2 = .ok (.aload_n 0, 1) := by decide +kernel
theorem dX5_flowNow_3 : decode cX5_flowNow 3 = .ok (.getfield 257, 3) := by decide +kernel
theorem dX5_flowNow_6 : decode cX5_flowNow 6 = .ok (.ifCond .le 7, 3) := by decide +kernel
theorem dX5_flowNow_9 : decode cX5_flowNow 9 = .ok (.iconst 1, 1) := by decide +kernel
theorem dX5_flowNow_10 : decode cX5_flowNow 10 = .ok (.goto 4, 3) := by decide +kernel
theorem dX5_flowNow_13 : decode cX5_flowNow 13 = .ok (.iconst 0, 1) := by decide +kernel
theorem dX5_flowNow_14 : decode cX5_flowNow 14 = .ok (.aload_n 0, 1) := by decide +kernel
theorem dX5_flowNow_15 : decode cX5_flowNow 15 = .ok (.getfield 263, 3) := by decide +kernel
theorem dX5_flowNow_18 : decode cX5_flowNow 18 = .ok (.ifCond .le 7, 3) := by decide +kernel
theorem dX5_flowNow_21 : decode cX5_flowNow 21 = .ok (.iconst 1, 1) := by decide +kernel
theorem dX5_flowNow_22 : decode cX5_flowNow 22 = .ok (.goto 4, 3) := by decide +kernel
theorem dX5_flowNow_25 : decode cX5_flowNow 25 = .ok (.iconst 0, 1) := by decide +kernel
theorem dX5_flowNow_26 : decode cX5_flowNow 26 = .ok (.if_icmp .ne 13, 3) := by decide +kernel
theorem dX5_flowNow_29 : decode cX5_flowNow 29 = .ok (.aload_n 0, 1) := by decide +kernel
theorem dX5_flowNow_30 : decode cX5_flowNow 30 = .ok (.invokevirtual 266, 3) := by decide +kernel
theorem dX5_flowNow_33 : decode cX5_flowNow 33 = .ok (.iinc 2 1, 3) := by decide +kernel
theorem dX5_flowNow_36 : decode cX5_flowNow 36 = .ok (.goto (-34), 3) := by decide +kernel
theorem dX5_flowNow_39 : decode cX5_flowNow 39 = .ok (.iload_n 1, 1) := by decide +kernel
theorem dX5_flowNow_40 : decode cX5_flowNow 40 = .ok (.ifCond .eq 5, 3) := by decide +kernel
theorem dX5_flowNow_43 : decode cX5_flowNow 43 = .ok (.iload_n 2, 1) := by decide +kernel
theorem dX5_flowNow_44 : decode cX5_flowNow 44 = .ok (.ireturn, 1) := by decide +kernel
theorem dX5_flowNow_45 : decode cX5_flowNow 45 = .ok (.aload_n 0, 1) := by decide +kernel
theorem dX5_flowNow_46 : decode cX5_flowNow 46 = .ok (.getfield 257, 3) := by decide +kernel
theorem dX5_flowNow_49 : decode cX5_flowNow 49 = .ok (.ifCond .le 22, 3) := by decide +kernel
theorem dX5_flowNow_52 : decode cX5_flowNow 52 = .ok (.aload_n 0, 1) := by decide +kernel
theorem dX5_flowNow_53 : decode cX5_flowNow 53 = .ok (.aload_n 0, 1) := by decide +kernel
theorem dX5_flowNow_54 : decode cX5_flowNow 54 = .ok (.getfield 257, 3) := by decide +kernel
theorem dX5_flowNow_57 : decode cX5_flowNow 57 = .ok (.aload_n 0, 1) := by decide +kernel
theorem dX5_flowNow_58 : decode cX5_flowNow 58 = .ok (.getfield 260, 3) := by decide +kernel
theorem dX5_flowNow_61 : decode cX5_flowNow 61 = .ok (.aload_n 0, 1) := by decide +kernel
theorem dX5_flowNow_62 : decode cX5_flowNow 62 = .ok (.getfield 263, 3) := by decide +kernel
theorem dX5_flowNow_65 : decode cX5_flowNow 65 = .ok (.invokevirtual 218, 3) := by decide +kernel
theorem dX5_flowNow_68 : decode cX5_flowNow 68 = .ok (.goto 20, 3) := by decide +kernel
theorem dX5_flowNow_71 : decode cX5_flowNow 71 = .ok (.aload_n 0, 1) := by decide +kernel
theorem dX5_flowNow_72 : decode cX5_flowNow 72 = .ok (.aload_n 0, 1) := by decide +kernel
theorem dX5_flowNow_73 : decode cX5_flowNow 73 = .ok (.getfield 263, 3) := by decide +kernel
theorem dX5_flowNow_76 : decode cX5_flowNow 76 = .ok (.aload_n 0, 1) := by decide +kernel
theorem dX5_flowNow_77 : decode cX5_flowNow 77 = .ok (.getfield 260, 3) := by decide +kernel
theorem dX5_flowNow_80 : decode cX5_flowNow 80 = .ok (.ineg, 1) := by decide +kernel
theorem dX5_flowNow_81 : decode cX5_flowNow 81 = .ok (.aload_n 0, 1) := by decide +kernel
theorem dX5_flowNow_82 : decode cX5_flowNow 82 = .ok (.getfield 257, 3) := by decide +kernel
theorem dX5_flowNow_85 : decode cX5_flowNow 85 = .ok (.invokevirtual 218, 3) := by decide +kernel
theorem dX5_flowNow_88 : decode cX5_flowNow 88 = .ok (.ireturn, 1) := by decide +kernel
set_option maxRecDepth 20000 in
theorem ggX5_flow_X5_isRiver : GoodIn wsX5_flow wsX5_isRiver := goodIn_r _ [11, 2, 41, 42, 43, 44, 45, 46, 47, 48, 49, 50, 51, 52, 53, 54, 55, 56, 57, 58, 59, 60, 61, 62, 63, 64, 65, 66, 67, 68, 69, 70, 71, 72, 73, 74, 75] (by decide +kernel) (by decide +kernel)
set_option maxRecDepth 20000 in
theorem gX5_flow_X5_isRiver : GoodIn wsX5_flow (wsV RX5 269 RX5 yX5_isRiver wsX5_isRiver) := goodIn_app (goodIn_of _ (by decide +kernel)) ggX5_flow_X5_isRiver
set_option maxRecDepth 20000 in
theorem ggX5_flow_X5_within : GoodIn wsX5_flow wsX5_within := goodIn_r _ [14] (by decide +kernel) (by decide +kernel)
set_option maxRecDepth 20000 in
theorem gX5_flow_X5_within : GoodIn wsX5_flow (va_wsS RX5 50 yX5_within wsX5_within) := goodIn_app (goodIn_of _ (by decide +kernel)) ggX5_flow_X5_within
set_option maxRecDepth 20000 in
theorem ggX5_flow_X5_discOf : GoodIn wsX5_flow wsX5_discOf := goodIn_r _ [17] (by decide +kernel) (by decide +kernel)
set_option maxRecDepth 20000 in
theorem gX5_flow_X5_discOf : GoodIn wsX5_flow (va_wsS RX5 173 yX5_discOf wsX5_discOf) := goodIn_app (goodIn_of _ (by decide +kernel)) ggX5_flow_X5_discOf
set_option maxRecDepth 20000 in
theorem ggX5_flow_X5_common : GoodIn wsX5_flow wsX5_common := goodIn_r _ [20, 21, 22, 10, 23] (by decide +kernel) (by decide +kernel)
set_option maxRecDepth 20000 in
theorem gX5_flow_X5_common : GoodIn wsX5_flow (va_wsS RX5 155 yX5_common wsX5_common) := goodIn_app (goodIn_of _ (by decide +kernel)) ggX5_flow_X5_common
set_option maxRecDepth 20000 in
theorem ggX5_flow_X5_flowNow : GoodIn wsX5_flow wsX5_flowNow := goodIn_r _ [27, 4, 6, 5, 28, 29, 30, 10, 31, 21, 22, 23, 32, 33, 34, 35, 36, 37, 38, 39, 40, 41, 42, 43, 44, 45, 46, 47, 48, 49, 50, 51, 52, 53, 54, 55, 56, 57, 58, 59, 60, 61, 62, 63, 64, 65, 66, 67, 68, 69, 70, 71, 72, 73, 74, 75] (by decide +kernel) (by decide +kernel)
set_option maxRecDepth 20000 in
theorem gX5_flow_X5_flowNow : GoodIn wsX5_flow (wsV RX5 272 RX5 yX5_flowNow wsX5_flowNow) := goodIn_app (goodIn_of _ (by decide +kernel)) ggX5_flow_X5_flowNow
theorem dX5_flow_0 : decode cX5_flow 0 = .ok (.aload_n 0, 1) := by decide +kernel
theorem dX5_flow_1 : decode cX5_flow 1 = .ok (.invokevirtual 269, 3) := by decide +kernel
theorem dX5_flow_4 : decode cX5_flow 4 = .ok (.ifCond .ne 6, 3) := by decide +kernel
theorem dX5_flow_7 : decode cX5_flow 7 = .ok (.ldc 78, 2) := by decide +kernel
theorem dX5_flow_9 : decode cX5_flow 9 = .ok (.ireturn, 1) := by decide +kernel
theorem dX5_flow_10 : decode cX5_flow 10 = .ok (.iload_n 1, 1) := by decide +kernel
theorem dX5_flow_11 : decode cX5_flow 11 = .ok (.sipush (-999), 3) := by decide +kernel
theorem dX5_flow_14 : decode cX5_flow 14 = .ok (.sipush 999, 3) := by decide +kernel
theorem dX5_flow_17 : decode cX5_flow 17 = .ok (.invokestatic 50, 3) := by decide +kernel
theorem dX5_flow_20 : decode cX5_flow 20 = .ok (.ifCond .eq 33, 3) := by decide +kernel
theorem dX5_flow_23 : decode cX5_flow 23 = .ok (.iload_n 2, 1) := by decide +kernel
theorem dX5_flow_24 : decode cX5_flow 24 = .ok (.sipush (-999), 3) := by decide +kernel
theorem dX5_flow_27 : decode cX5_flow 27 = .ok (.sipush 999, 3) := by decide +kernel
theorem dX5_flow_30 : decode cX5_flow 30 = .ok (.invokestatic 50, 3) := by decide +kernel
theorem dX5_flow_33 : decode cX5_flow 33 = .ok (.ifCond .eq 20, 3) := by decide +kernel
theorem dX5_flow_36 : decode cX5_flow 36 = .ok (.iload_n 3, 1) := by decide +kernel
theorem dX5_flow_37 : decode cX5_flow 37 = .ok (.sipush (-999), 3) := by decide +kernel
theorem dX5_flow_40 : decode cX5_flow 40 = .ok (.sipush 999, 3) := by decide +kernel
theorem dX5_flow_43 : decode cX5_flow 43 = .ok (.invokestatic 50, 3) := by decide +kernel
theorem dX5_flow_46 : decode cX5_flow 46 = .ok (.ifCond .eq 7, 3) := by decide +kernel
theorem dX5_flow_49 : decode cX5_flow 49 = .ok (.iconst 1, 1) := by decide +kernel
theorem dX5_flow_50 : decode cX5_flow 50 = .ok (.goto 4, 3) := by decide +kernel
theorem dX5_flow_53 : decode cX5_flow 53 = .ok (.iconst 0, 1) := by decide +kernel
theorem dX5_flow_54 : decode cX5_flow 54 = .ok (.istore 5, 2) := by decide +kernel
theorem dX5_flow_56 : decode cX5_flow 56 = .ok (.iload 5, 2) := by decide +kernel
theorem dX5_flow_58 : decode cX5_flow 58 = .ok (.ifCond .eq 29, 3) := by decide +kernel
theorem dX5_flow_61 : decode cX5_flow 61 = .ok (.iload_n 1, 1) := by decide +kernel
theorem dX5_flow_62 : decode cX5_flow 62 = .ok (.iload_n 2, 1) := by decide +kernel
theorem dX5_flow_63 : decode cX5_flow 63 = .ok (.iload_n 3, 1) := by decide +kernel
theorem dX5_flow_64 : decode cX5_flow 64 = .ok (.invokestatic 173, 3) := by decide +kernel
theorem dX5_flow_67 : decode cX5_flow 67 = .ok (.aload_n 0, 1) := by decide +kernel
theorem dX5_flow_68 : decode cX5_flow 68 = .ok (.getfield 209, 3) := by decide +kernel
theorem dX5_flow_71 : decode cX5_flow 71 = .ok (.if_icmp .ne 16, 3) := by decide +kernel
theorem dX5_flow_74 : decode cX5_flow 74 = .ok (.iload_n 1, 1) := by decide +kernel
theorem dX5_flow_75 : decode cX5_flow 75 = .ok (.iload_n 2, 1) := by decide +kernel
theorem dX5_flow_76 : decode cX5_flow 76 = .ok (.invokestatic 155, 3) := by decide +kernel
theorem dX5_flow_79 : decode cX5_flow 79 = .ok (.iload_n 3, 1) := by decide +kernel
theorem dX5_flow_80 : decode cX5_flow 80 = .ok (.invokestatic 155, 3) := by decide +kernel
theorem dX5_flow_83 : decode cX5_flow 83 = .ok (.iconst 1, 1) := by decide +kernel
theorem dX5_flow_84 : decode cX5_flow 84 = .ok (.if_icmp .le 6, 3) := by decide +kernel
theorem dX5_flow_87 : decode cX5_flow 87 = .ok (.ldc 54, 2) := by decide +kernel
theorem dX5_flow_89 : decode cX5_flow 89 = .ok (.ireturn, 1) := by decide +kernel
theorem dX5_flow_90 : decode cX5_flow 90 = .ok (.aload_n 0, 1) := by decide +kernel
theorem dX5_flow_91 : decode cX5_flow 91 = .ok (.iload_n 1, 1) := by decide +kernel
theorem dX5_flow_92 : decode cX5_flow 92 = .ok (.putfield 257, 3) := by decide +kernel
theorem dX5_flow_95 : decode cX5_flow 95 = .ok (.aload_n 0, 1) := by decide +kernel
theorem dX5_flow_96 : decode cX5_flow 96 = .ok (.iload_n 2, 1) := by decide +kernel
theorem dX5_flow_97 : decode cX5_flow 97 = .ok (.putfield 260, 3) := by decide +kernel
theorem dX5_flow_100 : decode cX5_flow 100 = .ok (.aload_n 0, 1) := by decide +kernel
theorem dX5_flow_101 : decode cX5_flow 101 = .ok (.iload_n 3, 1) := by decide +kernel
theorem dX5_flow_102 : decode cX5_flow 102 = .ok (.putfield 263, 3) := by decide +kernel
theorem dX5_flow_105 : decode cX5_flow 105 = .ok (.aload_n 0, 1) := by decide +kernel
theorem dX5_flow_106 : decode cX5_flow 106 = .ok (.iload 4, 2) := by decide +kernel
theorem dX5_flow_108 : decode cX5_flow 108 = .ok (.invokevirtual 272, 3) := by decide +kernel
theorem dX5_flow_111 : decode cX5_flow 111 = .ok (.ireturn, 1) := by decide +kernel
set_option maxRecDepth 20000 in
theorem ggX5_lay_X5_isCycle : GoodIn wsX5_lay wsX5_isCycle := goodIn_r _ [11, 12, 13, 14, 10, 15, 41, 42, 43, 44, 45, 46, 47, 48, 49, 50, 51, 52, 53, 54, 55, 56, 57, 58, 59, 60, 61, 62, 63, 64, 65, 66, 67, 68, 69, 70, 71, 72, 73, 74, 75] (by decide +kernel) (by decide +kernel)
set_option maxRecDepth 20000 in
theorem gX5_lay_X5_isCycle : GoodIn wsX5_lay (wsV RX5 245 RX5 yX5_isCycle wsX5_isCycle) := goodIn_app (goodIn_of _ (by decide +kernel)) ggX5_lay_X5_isCycle
set_option maxRecDepth 20000 in
theorem ggX5_lay_X5_sizeOf : GoodIn wsX5_lay wsX5_sizeOf := goodIn_r _ [19, 20, 21, 41, 42, 43, 44, 45, 46, 47, 48, 49, 50, 51, 52, 53, 54, 55, 56, 57, 58, 59, 60, 61, 62, 63, 64, 65, 66, 67, 68, 69, 70, 71, 72, 73, 74, 75] (by decide +kernel) (by decide +kernel)
set_option maxRecDepth 20000 in
theorem gX5_lay_X5_sizeOf : GoodIn wsX5_lay (wsV RX5 239 RX5 yX5_sizeOf wsX5_sizeOf) := goodIn_app (goodIn_of _ (by decide +kernel)) ggX5_lay_X5_sizeOf
set_option maxRecDepth 20000 in
theorem ggX5_lay_X5_formAt : GoodIn wsX5_lay wsX5_formAt := goodIn_r _ [25, 26, 27, 41, 42, 43, 44, 45, 46, 47, 48, 49, 50, 51, 52, 53, 54, 55, 56, 57, 58, 59, 60, 61, 62, 63, 64, 65, 66, 67, 68, 69, 70, 71, 72, 73, 74, 75] (by decide +kernel) (by decide +kernel)
set_option maxRecDepth 20000 in
theorem gX5_lay_X5_formAt : GoodIn wsX5_lay (wsV RX5 251 RX5 yX5_formAt wsX5_formAt) := goodIn_app (goodIn_of _ (by decide +kernel)) ggX5_lay_X5_formAt
set_option maxRecDepth 20000 in
theorem ggX5_lay_X5_isLeft : GoodIn wsX5_lay wsX5_isLeft := goodIn_r _ [31, 32, 33, 34, 41, 42, 43, 44, 45, 46, 47, 48, 49, 50, 51, 52, 53, 54, 55, 56, 57, 58, 59, 60, 61, 62, 63, 64, 65, 66, 67, 68, 69, 70, 71, 72, 73, 74, 75] (by decide +kernel) (by decide +kernel)
set_option maxRecDepth 20000 in
theorem gX5_lay_X5_isLeft : GoodIn wsX5_lay (wsV RX5 215 RX5 yX5_isLeft wsX5_isLeft) := goodIn_app (goodIn_of _ (by decide +kernel)) ggX5_lay_X5_isLeft
set_option maxRecDepth 20000 in
theorem ggX5_lay_X5_keepNew : GoodIn wsX5_lay wsX5_keepNew := goodIn_r _ [38, 39, 3, 5, 40, 6, 41, 42, 43, 44, 45, 46, 47, 48, 49, 50, 51, 52, 53, 54, 55, 56, 57, 58, 59, 60, 61, 62, 63, 64, 65, 66, 67, 68, 69, 70, 71, 72, 73, 74, 75] (by decide +kernel) (by decide +kernel)
set_option maxRecDepth 20000 in
theorem gX5_lay_X5_keepNew : GoodIn wsX5_lay (wsV RX5 82 RX5 yX5_keepNew wsX5_keepNew) := goodIn_app (goodIn_of _ (by decide +kernel)) ggX5_lay_X5_keepNew
theorem dX5_lay_0 : decode cX5_lay 0 = .ok (.aload_n 0, 1) := by decide +kernel
theorem dX5_lay_1 : decode cX5_lay 1 = .ok (.iload_n 1, 1) := by decide +kernel
theorem dX5_lay_2 : decode cX5_lay 2 = .ok (.invokevirtual 245, 3) := by decide +kernel
theorem dX5_lay_5 : decode cX5_lay 5 = .ok (.ifCond .ne 6, 3) := by decide +kernel
theorem dX5_lay_8 : decode cX5_lay 8 = .ok (.ldc 145, 2) := by decide +kernel
theorem dX5_lay_10 : decode cX5_lay 10 = .ok (.ireturn, 1) := by decide +kernel
theorem dX5_lay_11 : decode cX5_lay 11 = .ok (.aload_n 0, 1) := by decide +kernel
theorem dX5_lay_12 : decode cX5_lay 12 = .ok (.iload_n 1, 1) := by decide +kernel
theorem dX5_lay_13 : decode cX5_lay 13 = .ok (.invokevirtual 239, 3) := by decide +kernel
theorem dX5_lay_16 : decode cX5_lay 16 = .ok (.istore_n 2, 1) := by decide +kernel
theorem dX5_lay_17 : decode cX5_lay 17 = .ok (.iload_n 2, 1) := by decide +kernel
theorem dX5_lay_18 : decode cX5_lay 18 = .ok (.bipush 20, 2) := by decide +kernel
theorem dX5_lay_20 : decode cX5_lay 20 = .ok (.if_icmp .le 6, 3) := by decide +kernel
theorem dX5_lay_23 : decode cX5_lay 23 = .ok (.ldc 78, 2) := by decide +kernel
theorem dX5_lay_25 : decode cX5_lay 25 = .ok (.ireturn, 1) := by decide +kernel
theorem dX5_lay_26 : decode cX5_lay 26 = .ok (.aload_n 0, 1) := by decide +kernel
theorem dX5_lay_27 : decode cX5_lay 27 = .ok (.getfield 75, 3) := by decide +kernel
theorem dX5_lay_30 : decode cX5_lay 30 = .ok (.bipush 6, 2) := by decide +kernel
theorem dX5_lay_32 : decode cX5_lay 32 = .ok (.if_icmp .ne 6, 3) := by decide +kernel
theorem dX5_lay_35 : decode cX5_lay 35 = .ok (.ldc 59, 2) := by decide +kernel
theorem dX5_lay_37 : decode cX5_lay 37 = .ok (.ireturn, 1) := by decide +kernel
theorem dX5_lay_38 : decode cX5_lay 38 = .ok (.aload_n 0, 1) := by decide +kernel
theorem dX5_lay_39 : decode cX5_lay 39 = .ok (.iload_n 2, 1) := by decide +kernel
theorem dX5_lay_40 : decode cX5_lay 40 = .ok (.putfield 60, 3) := by decide +kernel
theorem dX5_lay_43 : decode cX5_lay 43 = .ok (.iconst 0, 1) := by decide +kernel
theorem dX5_lay_44 : decode cX5_lay 44 = .ok (.istore_n 3, 1) := by decide +kernel
theorem dX5_lay_45 : decode cX5_lay 45 = .ok (.iload_n 3, 1) := by decide +kernel
theorem dX5_lay_46 : decode cX5_lay 46 = .ok (.iload_n 2, 1) := by decide +kernel
theorem dX5_lay_47 : decode cX5_lay 47 = .ok (.if_icmp .ge 33, 3) := by decide +kernel
theorem dX5_lay_50 : decode cX5_lay 50 = .ok (.aload_n 0, 1) := by decide +kernel
theorem dX5_lay_51 : decode cX5_lay 51 = .ok (.getfield 37, 3) := by decide +kernel
theorem dX5_lay_54 : decode cX5_lay 54 = .ok (.iload_n 3, 1) := by decide +kernel
theorem dX5_lay_55 : decode cX5_lay 55 = .ok (.aload_n 0, 1) := by decide +kernel
theorem dX5_lay_56 : decode cX5_lay 56 = .ok (.aload_n 0, 1) := by decide +kernel
theorem dX5_lay_57 : decode cX5_lay 57 = .ok (.iload_n 1, 1) := by decide +kernel
theorem dX5_lay_58 : decode cX5_lay 58 = .ok (.iload_n 3, 1) := by decide +kernel
theorem dX5_lay_59 : decode cX5_lay 59 = .ok (.invokevirtual 251, 3) := by decide +kernel
theorem dX5_lay_62 : decode cX5_lay 62 = .ok (.invokevirtual 215, 3) := by decide +kernel
theorem dX5_lay_65 : decode cX5_lay 65 = .ok (.ifCond .eq 7, 3) := by decide +kernel
theorem dX5_lay_68 : decode cX5_lay 68 = .ok (.iconst 0, 1) := by decide +kernel
theorem dX5_lay_69 : decode cX5_lay 69 = .ok (.goto 4, 3) := by decide +kernel
theorem dX5_lay_72 : decode cX5_lay 72 = .ok (.iconst 1, 1) := by decide +kernel
theorem dX5_lay_73 : decode cX5_lay 73 = .ok (.iastore, 1) := by decide +kernel
theorem dX5_lay_74 : decode cX5_lay 74 = .ok (.iinc 3 1, 3) := by decide +kernel
theorem dX5_lay_77 : decode cX5_lay 77 = .ok (.goto (-32), 3) := by decide +kernel
theorem dX5_lay_80 : decode cX5_lay 80 = .ok (.aload_n 0, 1) := by decide +kernel
theorem dX5_lay_81 : decode cX5_lay 81 = .ok (.invokevirtual 82, 3) := by decide +kernel
theorem dX5_lay_84 : decode cX5_lay 84 = .ok (.ireturn, 1) := by decide +kernel
set_option maxRecDepth 20000 in
theorem ggX5_whereNow_X5_layForm : GoodIn wsX5_whereNow wsX5_layForm := goodIn_r _ [10, 11, 12, 13, 14, 15, 1, 2, 3, 16, 17, 18, 9, 19, 20, 21, 22, 23, 24, 25, 26, 27, 28, 29, 30, 31, 32, 33, 45, 46, 47, 48, 49, 50, 51, 52, 53, 54, 55, 56, 57, 58, 59, 60, 61, 62, 63, 64, 65, 66, 67, 68, 69, 70, 71, 72, 73, 74, 75, 76, 77, 78, 79] (by decide +kernel) (by decide +kernel)
set_option maxRecDepth 20000 in
theorem gX5_whereNow_X5_layForm : GoodIn wsX5_whereNow (wsV RX5 170 RX5 yX5_layForm wsX5_layForm) := goodIn_app (goodIn_of _ (by decide +kernel)) ggX5_whereNow_X5_layForm
set_option maxRecDepth 20000 in
theorem ggX5_whereNow_X5_discOf : GoodIn wsX5_whereNow wsX5_discOf := goodIn_r _ [36] (by decide +kernel) (by decide +kernel)
set_option maxRecDepth 20000 in
theorem gX5_whereNow_X5_discOf : GoodIn wsX5_whereNow (va_wsS RX5 173 yX5_discOf wsX5_discOf) := goodIn_app (goodIn_of _ (by decide +kernel)) ggX5_whereNow_X5_discOf
set_option maxRecDepth 20000 in
theorem ggX5_whereNow_X5_numberOf : GoodIn wsX5_whereNow wsX5_numberOf := goodIn_r _ [40, 41, 42, 43, 44, 5, 45, 46, 47, 48, 49, 50, 51, 52, 53, 54, 55, 56, 57, 58, 59, 60, 61, 62, 63, 64, 65, 66, 67, 68, 69, 70, 71, 72, 73, 74, 75, 76, 77, 78, 79] (by decide +kernel) (by decide +kernel)
set_option maxRecDepth 20000 in
theorem gX5_whereNow_X5_numberOf : GoodIn wsX5_whereNow (wsV RX5 218 RX5 yX5_numberOf wsX5_numberOf) := goodIn_app (goodIn_of _ (by decide +kernel)) ggX5_whereNow_X5_numberOf
theorem dX5_whereNow_0 : decode cX5_whereNow 0 = .ok (.aload_n 0, 1) := by decide +kernel
theorem dX5_whereNow_1 : decode cX5_whereNow 1 = .ok (.iload_n 1, 1) := by decide +kernel
theorem dX5_whereNow_2 : decode cX5_whereNow 2 = .ok (.invokevirtual 170, 3) := by decide +kernel
theorem dX5_whereNow_5 : decode cX5_whereNow 5 = .ok (.aload_n 0, 1) := by decide +kernel
theorem dX5_whereNow_6 : decode cX5_whereNow 6 = .ok (.getfield 161, 3) := by decide +kernel
theorem dX5_whereNow_9 : decode cX5_whereNow 9 = .ok (.aload_n 0, 1) := by decide +kernel
theorem dX5_whereNow_10 : decode cX5_whereNow 10 = .ok (.getfield 164, 3) := by decide +kernel
theorem dX5_whereNow_13 : decode cX5_whereNow 13 = .ok (.aload_n 0, 1) := by decide +kernel
theorem dX5_whereNow_14 : decode cX5_whereNow 14 = .ok (.getfield 167, 3) := by decide +kernel
theorem dX5_whereNow_17 : decode cX5_whereNow 17 = .ok (.invokestatic 173, 3) := by decide +kernel
theorem dX5_whereNow_20 : decode cX5_whereNow 20 = .ok (.aload_n 0, 1) := by decide +kernel
theorem dX5_whereNow_21 : decode cX5_whereNow 21 = .ok (.getfield 209, 3) := by decide +kernel
theorem dX5_whereNow_24 : decode cX5_whereNow 24 = .ok (.if_icmp .ne 22, 3) := by decide +kernel
theorem dX5_whereNow_27 : decode cX5_whereNow 27 = .ok (.aload_n 0, 1) := by decide +kernel
theorem dX5_whereNow_28 : decode cX5_whereNow 28 = .ok (.aload_n 0, 1) := by decide +kernel
theorem dX5_whereNow_29 : decode cX5_whereNow 29 = .ok (.getfield 161, 3) := by decide +kernel
theorem dX5_whereNow_32 : decode cX5_whereNow 32 = .ok (.aload_n 0, 1) := by decide +kernel
theorem dX5_whereNow_33 : decode cX5_whereNow 33 = .ok (.getfield 164, 3) := by decide +kernel
theorem dX5_whereNow_36 : decode cX5_whereNow 36 = .ok (.aload_n 0, 1) := by decide +kernel
theorem dX5_whereNow_37 : decode cX5_whereNow 37 = .ok (.getfield 167, 3) := by decide +kernel
theorem dX5_whereNow_40 : decode cX5_whereNow 40 = .ok (.invokevirtual 218, 3) := by decide +kernel
theorem dX5_whereNow_43 : decode cX5_whereNow 43 = .ok (.goto 5, 3) := by decide +kernel
theorem dX5_whereNow_46 : decode cX5_whereNow 46 = .ok (.ldc 106, 2) := by decide +kernel
theorem dX5_whereNow_48 : decode cX5_whereNow 48 = .ok (.ireturn, 1) := by decide +kernel
set_option maxRecDepth 20000 in
theorem ggX5_where_X5_isRoad : GoodIn wsX5_where wsX5_isRoad := goodIn_r _ [7, 8, 9, 10, 6, 11, 75, 76, 77, 78, 79, 80, 81, 82, 83, 84, 85, 86, 87, 88, 89, 90, 91, 92, 93, 94, 95, 96, 97, 98, 99, 100, 101, 102, 103, 104, 105, 106, 107, 108, 109] (by decide +kernel) (by decide +kernel)
set_option maxRecDepth 20000 in
theorem gX5_where_X5_isRoad : GoodIn wsX5_where (wsV RX5 142 RX5 yX5_isRoad wsX5_isRoad) := goodIn_app (goodIn_of _ (by decide +kernel)) ggX5_where_X5_isRoad
set_option maxRecDepth 20000 in
theorem ggX5_where_X5_isClosed : GoodIn wsX5_where wsX5_isClosed := goodIn_r _ [15, 16, 17, 18, 6, 19, 20, 21, 22, 23, 24, 25, 26, 27, 28, 29, 30, 31, 75, 76, 77, 78, 79, 80, 81, 82, 83, 84, 85, 86, 87, 88, 89, 90, 91, 92, 93, 94, 95, 96, 97, 98, 99, 100, 101, 102, 103, 104, 105, 106, 107, 108, 109] (by decide +kernel) (by decide +kernel)
set_option maxRecDepth 20000 in
theorem gX5_where_X5_isClosed : GoodIn wsX5_where (wsV RX5 177 RX5 yX5_isClosed wsX5_isClosed) := goodIn_app (goodIn_of _ (by decide +kernel)) ggX5_where_X5_isClosed
set_option maxRecDepth 20000 in
theorem ggX5_where_X5_isRiver : GoodIn wsX5_where wsX5_isRiver := goodIn_r _ [35, 36, 75, 76, 77, 78, 79, 80, 81, 82, 83, 84, 85, 86, 87, 88, 89, 90, 91, 92, 93, 94, 95, 96, 97, 98, 99, 100, 101, 102, 103, 104, 105, 106, 107, 108, 109] (by decide +kernel) (by decide +kernel)
set_option maxRecDepth 20000 in
theorem gX5_where_X5_isRiver : GoodIn wsX5_where (wsV RX5 269 RX5 yX5_isRiver wsX5_isRiver) := goodIn_app (goodIn_of _ (by decide +kernel)) ggX5_where_X5_isRiver
set_option maxRecDepth 20000 in
theorem ggX5_where_X5_whereNow : GoodIn wsX5_where wsX5_whereNow := goodIn_r _ [40, 41, 42, 43, 36, 44, 45, 46, 47, 6, 48, 49, 50, 51, 52, 53, 16, 17, 18, 19, 20, 21, 22, 23, 54, 55, 56, 57, 58, 59, 60, 61, 62, 63, 64, 65, 66, 67, 68, 69, 70, 71, 72, 73, 74, 75, 76, 77, 78, 79, 80, 81, 82, 83, 84, 85, 86, 87, 88, 89, 90, 91, 92, 93, 94, 95, 96, 97, 98, 99, 100, 101, 102, 103, 104, 105, 106, 107, 108, 109] (by decide +kernel) (by decide +kernel)
set_option maxRecDepth 20000 in
theorem gX5_where_X5_whereNow : GoodIn wsX5_where (wsV RX5 276 RX5 yX5_whereNow wsX5_whereNow) := goodIn_app (goodIn_of _ (by decide +kernel)) ggX5_where_X5_whereNow
theorem dX5_where_0 : decode cX5_where 0 = .ok (.aload_n 0, 1) := by decide +kernel
theorem dX5_where_1 : decode cX5_where 1 = .ok (.iload_n 1, 1) := by decide +kernel
theorem dX5_where_2 : decode cX5_where 2 = .ok (.invokevirtual 142, 3) := by decide +kernel
theorem dX5_where_5 : decode cX5_where 5 = .ok (.ifCond .ne 6, 3) := by decide +kernel
theorem dX5_where_8 : decode cX5_where 8 = .ok (.ldc 145, 2) := by decide +kernel
theorem dX5_where_10 : decode cX5_where 10 = .ok (.ireturn, 1) := by decide +kernel
theorem dX5_where_11 : decode cX5_where 11 = .ok (.aload_n 0, 1) := by decide +kernel
theorem dX5_where_12 : decode cX5_where 12 = .ok (.iload_n 1, 1) := by decide +kernel
theorem dX5_where_13 : decode cX5_where 13 = .ok (.invokevirtual 177, 3) := by decide +kernel
theorem dX5_where_16 : decode cX5_where 16 = .ok (.ifCond .eq 18, 3) := by decide +kernel
theorem dX5_where_19 : decode cX5_where 19 = .ok (.aload_n 0, 1) := by decide +kernel
theorem dX5_where_20 : decode cX5_where 20 = .ok (.invokevirtual 269, 3) := by decide +kernel
theorem dX5_where_23 : decode cX5_where 23 = .ok (.ifCond .eq 11, 3) := by decide +kernel
theorem dX5_where_26 : decode cX5_where 26 = .ok (.aload_n 0, 1) := by decide +kernel
theorem dX5_where_27 : decode cX5_where 27 = .ok (.iload_n 1, 1) := by decide +kernel
theorem dX5_where_28 : decode cX5_where 28 = .ok (.invokevirtual 276, 3) := by decide +kernel
theorem dX5_where_31 : decode cX5_where 31 = .ok (.goto 5, 3) := by decide +kernel
theorem dX5_where_34 : decode cX5_where 34 = .ok (.ldc 78, 2) := by decide +kernel
theorem dX5_where_36 : decode cX5_where 36 = .ok (.ireturn, 1) := by decide +kernel
theorem dX5_drawOf_0 : decode cX5_drawOf 0 = .ok (.aload_n 0, 1) := by decide +kernel
theorem dX5_drawOf_1 : decode cX5_drawOf 1 = .ok (.ldc2_w 279, 3) := by decide +kernel
theorem dX5_drawOf_4 : decode cX5_drawOf 4 = .ok (.aload_n 0, 1) := by decide +kernel
theorem dX5_drawOf_5 : decode cX5_drawOf 5 = .ok (.getfield 281, 3) := by decide +kernel
theorem dX5_drawOf_8 : decode cX5_drawOf 8 = .ok (.lmul, 1) := by decide +kernel
theorem dX5_drawOf_9 : decode cX5_drawOf 9 = .ok (.ldc2_w 285, 3) := by decide +kernel
theorem dX5_drawOf_12 : decode cX5_drawOf 12 = .ok (.ladd, 1) := by decide +kernel
theorem dX5_drawOf_13 : decode cX5_drawOf 13 = .ok (.ldc2_w 287, 3) := by decide +kernel
theorem dX5_drawOf_16 : decode cX5_drawOf 16 = .ok (.lrem, 1) := by decide +kernel
theorem dX5_drawOf_17 : decode cX5_drawOf 17 = .ok (.putfield 281, 3) := by decide +kernel
theorem dX5_drawOf_20 : decode cX5_drawOf 20 = .ok (.aload_n 0, 1) := by decide +kernel
theorem dX5_drawOf_21 : decode cX5_drawOf 21 = .ok (.getfield 281, 3) := by decide +kernel
theorem dX5_drawOf_24 : decode cX5_drawOf 24 = .ok (.ldc2_w 289, 3) := by decide +kernel
theorem dX5_drawOf_27 : decode cX5_drawOf 27 = .ok (.ldiv, 1) := by decide +kernel
theorem dX5_drawOf_28 : decode cX5_drawOf 28 = .ok (.iload_n 1, 1) := by decide +kernel
theorem dX5_drawOf_29 : decode cX5_drawOf 29 = .ok (.i2l, 1) := by decide +kernel
theorem dX5_drawOf_30 : decode cX5_drawOf 30 = .ok (.lrem, 1) := by decide +kernel
theorem dX5_drawOf_31 : decode cX5_drawOf 31 = .ok (.l2i, 1) := by decide +kernel
theorem dX5_drawOf_32 : decode cX5_drawOf 32 = .ok (.ireturn, 1) := by decide +kernel
set_option maxRecDepth 20000 in
theorem ggX5_drawnNow_X5_layOther : GoodIn wsX5_drawnNow wsX5_layOther := goodIn_r _ [8, 1, 9, 2, 10, 47, 48, 49, 50, 51, 52, 53, 54, 55, 56, 57, 58, 59, 60, 61, 62, 63, 64, 65, 66, 67, 68, 69, 70, 71, 72, 73, 74, 75, 76, 77, 78, 79, 80, 81] (by decide +kernel) (by decide +kernel)
set_option maxRecDepth 20000 in
theorem gX5_drawnNow_X5_layOther : GoodIn wsX5_drawnNow (wsV RX5 107 RX5 yX5_layOther wsX5_layOther) := goodIn_app (goodIn_of _ (by decide +kernel)) ggX5_drawnNow_X5_layOther
set_option maxRecDepth 20000 in
theorem ggX5_drawnNow_X5_drawOf : GoodIn wsX5_drawnNow wsX5_drawOf := goodIn_r _ [14, 15, 3, 16, 17, 18, 47, 48, 49, 50, 51, 52, 53, 54, 55, 56, 57, 58, 59, 60, 61, 62, 63, 64, 65, 66, 67, 68, 69, 70, 71, 72, 73, 74, 75, 76, 77, 78, 79, 80, 81] (by decide +kernel) (by decide +kernel)
set_option maxRecDepth 20000 in
theorem gX5_drawnNow_X5_drawOf : GoodIn wsX5_drawnNow (wsV RX5 291 RX5 yX5_drawOf wsX5_drawOf) := goodIn_app (goodIn_of _ (by decide +kernel)) ggX5_drawnNow_X5_drawOf
set_option maxRecDepth 20000 in
theorem ggX5_drawnNow_X5_isClosedNow : GoodIn wsX5_drawnNow wsX5_isClosedNow := goodIn_r _ [22, 1, 23, 24, 25, 7, 26, 2, 47, 48, 49, 50, 51, 52, 53, 54, 55, 56, 57, 58, 59, 60, 61, 62, 63, 64, 65, 66, 67, 68, 69, 70, 71, 72, 73, 74, 75, 76, 77, 78, 79, 80, 81] (by decide +kernel) (by decide +kernel)
set_option maxRecDepth 20000 in
theorem gX5_drawnNow_X5_isClosedNow : GoodIn wsX5_drawnNow (wsV RX5 95 RX5 yX5_isClosedNow wsX5_isClosedNow) := goodIn_app (goodIn_of _ (by decide +kernel)) ggX5_drawnNow_X5_isClosedNow
set_option maxRecDepth 20000 in
theorem ggX5_drawnNow_X5_traceNow : GoodIn wsX5_drawnNow wsX5_traceNow := goodIn_r _ [30, 31, 32, 33, 34, 35, 7, 36, 37, 38, 1, 2, 47, 48, 49, 50, 51, 52, 53, 54, 55, 56, 57, 58, 59, 60, 61, 62, 63, 64, 65, 66, 67, 68, 69, 70, 71, 72, 73, 74, 75, 76, 77, 78, 79, 80, 81] (by decide +kernel) (by decide +kernel)
set_option maxRecDepth 20000 in
theorem gX5_drawnNow_X5_traceNow : GoodIn wsX5_drawnNow (wsV RX5 135 RX5 yX5_traceNow wsX5_traceNow) := goodIn_app (goodIn_of _ (by decide +kernel)) ggX5_drawnNow_X5_traceNow
set_option maxRecDepth 20000 in
theorem ggX5_drawnNow_X5_crossNow : GoodIn wsX5_drawnNow wsX5_crossNow := goodIn_r _ [42, 1, 9, 43, 44, 45, 7, 46, 2, 10, 47, 48, 49, 50, 51, 52, 53, 54, 55, 56, 57, 58, 59, 60, 61, 62, 63, 64, 65, 66, 67, 68, 69, 70, 71, 72, 73, 74, 75, 76, 77, 78, 79, 80, 81] (by decide +kernel) (by decide +kernel)
set_option maxRecDepth 20000 in
theorem gX5_drawnNow_X5_crossNow : GoodIn wsX5_drawnNow (wsV RX5 193 RX5 yX5_crossNow wsX5_crossNow) := goodIn_app (goodIn_of _ (by decide +kernel)) ggX5_drawnNow_X5_crossNow
theorem dX5_drawnNow_0 : decode cX5_drawnNow 0 = .ok (.iconst 0, 1) := by decide +kernel
theorem dX5_drawnNow_1 : decode cX5_drawnNow 1 = .ok (.istore_n 3, 1) := by decide +kernel
theorem dX5_drawnNow_2 : decode cX5_drawnNow 2 = .ok (.iconst 0, 1) := by decide +kernel
theorem dX5_drawnNow_3 : decode cX5_drawnNow 3 = .ok (.istore 4, 2) := by decide +kernel
theorem dX5_drawnNow_5 : decode cX5_drawnNow 5 = .ok (.iconst 0, 1) := by decide +kernel
theorem dX5_drawnNow_6 : decode cX5_drawnNow 6 = .ok (.istore 5, 2) := by decide +kernel
theorem dX5_drawnNow_8 : decode cX5_drawnNow 8 = .ok (.iconst 0, 1) := by decide +kernel
theorem dX5_drawnNow_9 : decode cX5_drawnNow 9 = .ok (.istore 6, 2) := by decide +kernel
theorem dX5_drawnNow_11 : decode cX5_drawnNow 11 = .ok (.iconst 0, 1) := by decide +kernel
theorem dX5_drawnNow_12 : decode cX5_drawnNow 12 = .ok (.istore 7, 2) := by decide +kernel
theorem dX5_drawnNow_14 : decode cX5_drawnNow 14 = .ok (.iload 7, 2) := by decide +kernel
theorem dX5_drawnNow_16 : decode cX5_drawnNow 16 = .ok (.iload_n 1, 1) := by decide +kernel
theorem dX5_drawnNow_17 : decode cX5_drawnNow 17 = .ok (.if_icmp .ge 122, 3) := by decide +kernel
theorem dX5_drawnNow_20 : decode cX5_drawnNow 20 = .ok (.aload_n 0, 1) := by decide +kernel
theorem dX5_drawnNow_21 : decode cX5_drawnNow 21 = .ok (.iconst 0, 1) := by decide +kernel
theorem dX5_drawnNow_22 : decode cX5_drawnNow 22 = .ok (.iconst 0, 1) := by decide +kernel
theorem dX5_drawnNow_23 : decode cX5_drawnNow 23 = .ok (.invokevirtual 107, 3) := by decide +kernel
theorem dX5_drawnNow_26 : decode cX5_drawnNow 26 = .ok (.aload_n 0, 1) := by decide +kernel
theorem dX5_drawnNow_27 : decode cX5_drawnNow 27 = .ok (.bipush 8, 2) := by decide +kernel
theorem dX5_drawnNow_29 : decode cX5_drawnNow 29 = .ok (.putfield 85, 3) := by decide +kernel
theorem dX5_drawnNow_32 : decode cX5_drawnNow 32 = .ok (.iconst 0, 1) := by decide +kernel
theorem dX5_drawnNow_33 : decode cX5_drawnNow 33 = .ok (.istore 8, 2) := by decide +kernel
theorem dX5_drawnNow_35 : decode cX5_drawnNow 35 = .ok (.iload 8, 2) := by decide +kernel
theorem dX5_drawnNow_37 : decode cX5_drawnNow 37 = .ok (.bipush 8, 2) := by decide +kernel
theorem dX5_drawnNow_39 : decode cX5_drawnNow 39 = .ok (.if_icmp .ge 30, 3) := by decide +kernel
theorem dX5_drawnNow_42 : decode cX5_drawnNow 42 = .ok (.aload_n 0, 1) := by decide +kernel
theorem dX5_drawnNow_43 : decode cX5_drawnNow 43 = .ok (.getfield 40, 3) := by decide +kernel
theorem dX5_drawnNow_46 : decode cX5_drawnNow 46 = .ok (.iload 8, 2) := by decide +kernel
theorem dX5_drawnNow_48 : decode cX5_drawnNow 48 = .ok (.aload_n 0, 1) := by decide +kernel
theorem dX5_drawnNow_49 : decode cX5_drawnNow 49 = .ok (.iconst 2, 1) := by decide +kernel
theorem dX5_drawnNow_50 : decode cX5_drawnNow 50 = .ok (.invokevirtual 291, 3) := by decide +kernel
theorem dX5_drawnNow_53 : decode cX5_drawnNow 53 = .ok (.iconst 1, 1) := by decide +kernel
theorem dX5_drawnNow_54 : decode cX5_drawnNow 54 = .ok (.if_icmp .ne 7, 3) := by decide +kernel
theorem dX5_drawnNow_57 : decode cX5_drawnNow 57 = .ok (.iconst 1, 1) := by decide +kernel
theorem dX5_drawnNow_58 : decode cX5_drawnNow 58 = .ok (.goto 4, 3) := by decide +kernel
theorem dX5_drawnNow_61 : decode cX5_drawnNow 61 = .ok (.iconst 0, 1) := by decide +kernel
theorem dX5_drawnNow_62 : decode cX5_drawnNow 62 = .ok (.iastore, 1) := by decide +kernel
theorem dX5_drawnNow_63 : decode cX5_drawnNow 63 = .ok (.iinc 8 1, 3) := by decide +kernel
theorem dX5_drawnNow_66 : decode cX5_drawnNow 66 = .ok (.goto (-31), 3) := by decide +kernel
theorem dX5_drawnNow_69 : decode cX5_drawnNow 69 = .ok (.aload_n 0, 1) := by decide +kernel
theorem dX5_drawnNow_70 : decode cX5_drawnNow 70 = .ok (.invokevirtual 95, 3) := by decide +kernel
theorem dX5_drawnNow_73 : decode cX5_drawnNow 73 = .ok (.istore 8, 2) := by decide +kernel
theorem dX5_drawnNow_75 : decode cX5_drawnNow 75 = .ok (.iload_n 3, 1) := by decide +kernel
theorem dX5_drawnNow_76 : decode cX5_drawnNow 76 = .ok (.iload 8, 2) := by decide +kernel
theorem dX5_drawnNow_78 : decode cX5_drawnNow 78 = .ok (.ifCond .eq 7, 3) := by decide +kernel
theorem dX5_drawnNow_81 : decode cX5_drawnNow 81 = .ok (.iconst 1, 1) := by decide +kernel
theorem dX5_drawnNow_82 : decode cX5_drawnNow 82 = .ok (.goto 4, 3) := by decide +kernel
theorem dX5_drawnNow_85 : decode cX5_drawnNow 85 = .ok (.iconst 0, 1) := by decide +kernel
theorem dX5_drawnNow_86 : decode cX5_drawnNow 86 = .ok (.iadd, 1) := by decide +kernel
theorem dX5_drawnNow_87 : decode cX5_drawnNow 87 = .ok (.istore_n 3, 1) := by decide +kernel
theorem dX5_drawnNow_88 : decode cX5_drawnNow 88 = .ok (.iload 4, 2) := by decide +kernel
theorem dX5_drawnNow_90 : decode cX5_drawnNow 90 = .ok (.iload 8, 2) := by decide +kernel
theorem dX5_drawnNow_92 : decode cX5_drawnNow 92 = .ok (.ifCond .eq 10, 3) := by decide +kernel
theorem dX5_drawnNow_95 : decode cX5_drawnNow 95 = .ok (.aload_n 0, 1) := by decide +kernel
theorem dX5_drawnNow_96 : decode cX5_drawnNow 96 = .ok (.invokevirtual 135, 3) := by decide +kernel
theorem dX5_drawnNow_99 : decode cX5_drawnNow 99 = .ok (.goto 4, 3) := by decide +kernel
theorem dX5_drawnNow_102 : decode cX5_drawnNow 102 = .ok (.iconst 0, 1) := by decide +kernel
theorem dX5_drawnNow_103 : decode cX5_drawnNow 103 = .ok (.iadd, 1) := by decide +kernel
theorem dX5_drawnNow_104 : decode cX5_drawnNow 104 = .ok (.istore 4, 2) := by decide +kernel
theorem dX5_drawnNow_106 : decode cX5_drawnNow 106 = .ok (.iload 5, 2) := by decide +kernel
theorem dX5_drawnNow_108 : decode cX5_drawnNow 108 = .ok (.iload 8, 2) := by decide +kernel
theorem dX5_drawnNow_110 : decode cX5_drawnNow 110 = .ok (.ifCond .eq 15, 3) := by decide +kernel
theorem dX5_drawnNow_113 : decode cX5_drawnNow 113 = .ok (.iload 6, 2) := by decide +kernel
theorem dX5_drawnNow_115 : decode cX5_drawnNow 115 = .ok (.ifCond .eq 10, 3) := by decide +kernel
theorem dX5_drawnNow_118 : decode cX5_drawnNow 118 = .ok (.aload_n 0, 1) := by decide +kernel
theorem dX5_drawnNow_119 : decode cX5_drawnNow 119 = .ok (.invokevirtual 193, 3) := by decide +kernel
theorem dX5_drawnNow_122 : decode cX5_drawnNow 122 = .ok (.goto 4, 3) := by decide +kernel
theorem dX5_drawnNow_125 : decode cX5_drawnNow 125 = .ok (.iconst 0, 1) := by decide +kernel
theorem dX5_drawnNow_126 : decode cX5_drawnNow 126 = .ok (.iadd, 1) := by decide +kernel
theorem dX5_drawnNow_127 : decode cX5_drawnNow 127 = .ok (.istore 5, 2) := by decide +kernel
theorem dX5_drawnNow_129 : decode cX5_drawnNow 129 = .ok (.iload 8, 2) := by decide +kernel
theorem dX5_drawnNow_131 : decode cX5_drawnNow 131 = .ok (.istore 6, 2) := by decide +kernel
theorem dX5_drawnNow_133 : decode cX5_drawnNow 133 = .ok (.iinc 7 1, 3) := by decide +kernel
theorem dX5_drawnNow_136 : decode cX5_drawnNow 136 = .ok (.goto (-122), 3) := by decide +kernel
theorem dX5_drawnNow_139 : decode cX5_drawnNow 139 = .ok (.iload_n 2, 1) := by decide +kernel
theorem dX5_drawnNow_140 : decode cX5_drawnNow 140 = .ok (.ifCond .ne 7, 3) := by decide +kernel
theorem dX5_drawnNow_143 : decode cX5_drawnNow 143 = .ok (.iload_n 3, 1) := by decide +kernel
theorem dX5_drawnNow_144 : decode cX5_drawnNow 144 = .ok (.goto 28, 3) := by decide +kernel
theorem dX5_drawnNow_147 : decode cX5_drawnNow 147 = .ok (.iload_n 2, 1) := by decide +kernel
theorem dX5_drawnNow_148 : decode cX5_drawnNow 148 = .ok (.iconst 1, 1) := by decide +kernel
theorem dX5_drawnNow_149 : decode cX5_drawnNow 149 = .ok (.if_icmp .ne 8, 3) := by decide +kernel
theorem dX5_drawnNow_152 : decode cX5_drawnNow 152 = .ok (.iload 4, 2) := by decide +kernel
theorem dX5_drawnNow_154 : decode cX5_drawnNow 154 = .ok (.goto 18, 3) := by decide +kernel
theorem dX5_drawnNow_157 : decode cX5_drawnNow 157 = .ok (.iload_n 2, 1) := by decide +kernel
theorem dX5_drawnNow_158 : decode cX5_drawnNow 158 = .ok (.iconst 2, 1) := by decide +kernel
theorem dX5_drawnNow_159 : decode cX5_drawnNow 159 = .ok (.if_icmp .ne 8, 3) := by decide +kernel
theorem dX5_drawnNow_162 : decode cX5_drawnNow 162 = .ok (.iload 5, 2) := by decide +kernel
theorem dX5_drawnNow_164 : decode cX5_drawnNow 164 = .ok (.goto 8, 3) := by decide +kernel
theorem dX5_drawnNow_167 : decode cX5_drawnNow 167 = .ok (.aload_n 0, 1) := by decide +kernel
theorem dX5_drawnNow_168 : decode cX5_drawnNow 168 = .ok (.getfield 281, 3) := by decide +kernel
theorem dX5_drawnNow_171 : decode cX5_drawnNow 171 = .ok (.l2i, 1) := by decide +kernel
theorem dX5_drawnNow_172 : decode cX5_drawnNow 172 = .ok (.ireturn, 1) := by decide +kernel
set_option maxRecDepth 20000 in
theorem ggX5_drawn_X5_within : GoodIn wsX5_drawn wsX5_within := goodIn_r _ [6] (by decide +kernel) (by decide +kernel)
set_option maxRecDepth 20000 in
theorem gX5_drawn_X5_within : GoodIn wsX5_drawn (va_wsS RX5 50 yX5_within wsX5_within) := goodIn_app (goodIn_of _ (by decide +kernel)) ggX5_drawn_X5_within
set_option maxRecDepth 20000 in
theorem ggX5_drawn_X5_drawnNow : GoodIn wsX5_drawn wsX5_drawnNow := goodIn_r _ [10, 11, 12, 2, 13, 14, 15, 5, 16, 17, 18, 19, 20, 21, 22, 23, 24, 25, 26, 27, 28, 29, 30, 31, 32, 33, 34, 35, 36, 37, 38, 39, 40, 41, 42, 43, 44, 45, 46, 47, 48, 49, 50, 51, 52, 53, 54, 55, 56, 57, 58, 59, 60, 61, 62, 63, 64, 65, 66, 67, 68, 69, 70, 71, 72, 73, 74, 75, 76, 77, 78, 79, 80, 81, 82, 83, 84, 85, 86, 87, 88, 89] (by decide +kernel) (by decide +kernel)
set_option maxRecDepth 20000 in
theorem gX5_drawn_X5_drawnNow : GoodIn wsX5_drawn (wsV RX5 294 RX5 yX5_drawnNow wsX5_drawnNow) := goodIn_app (goodIn_of _ (by decide +kernel)) ggX5_drawn_X5_drawnNow
theorem dX5_drawn_0 : decode cX5_drawn 0 = .ok (.iload_n 1, 1) := by decide +kernel
theorem dX5_drawn_1 : decode cX5_drawn 1 = .ok (.iconst 1, 1) := by decide +kernel
theorem dX5_drawn_2 : decode cX5_drawn 2 = .ok (.bipush 40, 2) := by decide +kernel
theorem dX5_drawn_4 : decode cX5_drawn 4 = .ok (.invokestatic 50, 3) := by decide +kernel
theorem dX5_drawn_7 : decode cX5_drawn 7 = .ok (.ifCond .eq 16, 3) := by decide +kernel
theorem dX5_drawn_10 : decode cX5_drawn 10 = .ok (.iload_n 2, 1) := by decide +kernel
theorem dX5_drawn_11 : decode cX5_drawn 11 = .ok (.ifCond .lt 12, 3) := by decide +kernel
theorem dX5_drawn_14 : decode cX5_drawn 14 = .ok (.iload_n 3, 1) := by decide +kernel
theorem dX5_drawn_15 : decode cX5_drawn 15 = .ok (.iconst 0, 1) := by decide +kernel
theorem dX5_drawn_16 : decode cX5_drawn 16 = .ok (.iconst 3, 1) := by decide +kernel
theorem dX5_drawn_17 : decode cX5_drawn 17 = .ok (.invokestatic 50, 3) := by decide +kernel
theorem dX5_drawn_20 : decode cX5_drawn 20 = .ok (.ifCond .ne 6, 3) := by decide +kernel
theorem dX5_drawn_23 : decode cX5_drawn 23 = .ok (.ldc 54, 2) := by decide +kernel
theorem dX5_drawn_25 : decode cX5_drawn 25 = .ok (.ireturn, 1) := by decide +kernel
theorem dX5_drawn_26 : decode cX5_drawn 26 = .ok (.aload_n 0, 1) := by decide +kernel
theorem dX5_drawn_27 : decode cX5_drawn 27 = .ok (.iload_n 2, 1) := by decide +kernel
theorem dX5_drawn_28 : decode cX5_drawn 28 = .ok (.i2l, 1) := by decide +kernel
theorem dX5_drawn_29 : decode cX5_drawn 29 = .ok (.putfield 281, 3) := by decide +kernel
theorem dX5_drawn_32 : decode cX5_drawn 32 = .ok (.aload_n 0, 1) := by decide +kernel
theorem dX5_drawn_33 : decode cX5_drawn 33 = .ok (.iload_n 1, 1) := by decide +kernel
theorem dX5_drawn_34 : decode cX5_drawn 34 = .ok (.iload_n 3, 1) := by decide +kernel
theorem dX5_drawn_35 : decode cX5_drawn 35 = .ok (.invokevirtual 294, 3) := by decide +kernel
theorem dX5_drawn_38 : decode cX5_drawn 38 = .ok (.ireturn, 1) := by decide +kernel
set_option maxRecDepth 20000 in
theorem ggX5_closedMany_X5_isClosed : GoodIn wsX5_closedMany wsX5_isClosed := goodIn_r _ [6, 7, 8, 9, 5, 10, 11, 12, 13, 14, 15, 16, 17, 18, 19, 20, 21, 22, 23, 24, 25, 26, 27, 28, 29, 30, 31, 32, 33, 34, 35, 36, 37, 38, 39, 40, 41, 42, 43, 44, 45, 46, 47, 48, 49, 50, 51, 52, 53, 54, 55, 56, 57] (by decide +kernel) (by decide +kernel)
set_option maxRecDepth 20000 in
theorem gX5_closedMany_X5_isClosed : GoodIn wsX5_closedMany (wsV RX5 177 RX5 yX5_isClosed wsX5_isClosed) := goodIn_app (goodIn_of _ (by decide +kernel)) ggX5_closedMany_X5_isClosed
theorem dX5_closedMany_0 : decode cX5_closedMany 0 = .ok (.iconst 0, 1) := by decide +kernel
theorem dX5_closedMany_1 : decode cX5_closedMany 1 = .ok (.istore_n 1, 1) := by decide +kernel
theorem dX5_closedMany_2 : decode cX5_closedMany 2 = .ok (.iconst 0, 1) := by decide +kernel
theorem dX5_closedMany_3 : decode cX5_closedMany 3 = .ok (.istore_n 2, 1) := by decide +kernel
theorem dX5_closedMany_4 : decode cX5_closedMany 4 = .ok (.iload_n 2, 1) := by decide +kernel
theorem dX5_closedMany_5 : decode cX5_closedMany 5 = .ok (.aload_n 0, 1) := by decide +kernel
theorem dX5_closedMany_6 : decode cX5_closedMany 6 = .ok (.getfield 75, 3) := by decide +kernel
theorem dX5_closedMany_9 : decode cX5_closedMany 9 = .ok (.if_icmp .ge 25, 3) := by decide +kernel
theorem dX5_closedMany_12 : decode cX5_closedMany 12 = .ok (.iload_n 1, 1) := by decide +kernel
theorem dX5_closedMany_13 : decode cX5_closedMany 13 = .ok (.aload_n 0, 1) := by decide +kernel
theorem dX5_closedMany_14 : decode cX5_closedMany 14 = .ok (.iload_n 2, 1) := by decide +kernel
theorem dX5_closedMany_15 : decode cX5_closedMany 15 = .ok (.invokevirtual 177, 3) := by decide +kernel
theorem dX5_closedMany_18 : decode cX5_closedMany 18 = .ok (.ifCond .eq 7, 3) := by decide +kernel
theorem dX5_closedMany_21 : decode cX5_closedMany 21 = .ok (.iconst 1, 1) := by decide +kernel
theorem dX5_closedMany_22 : decode cX5_closedMany 22 = .ok (.goto 4, 3) := by decide +kernel
theorem dX5_closedMany_25 : decode cX5_closedMany 25 = .ok (.iconst 0, 1) := by decide +kernel
theorem dX5_closedMany_26 : decode cX5_closedMany 26 = .ok (.iadd, 1) := by decide +kernel
theorem dX5_closedMany_27 : decode cX5_closedMany 27 = .ok (.istore_n 1, 1) := by decide +kernel
theorem dX5_closedMany_28 : decode cX5_closedMany 28 = .ok (.iinc 2 1, 3) := by decide +kernel
theorem dX5_closedMany_31 : decode cX5_closedMany 31 = .ok (.goto (-27), 3) := by decide +kernel
theorem dX5_closedMany_34 : decode cX5_closedMany 34 = .ok (.iload_n 1, 1) := by decide +kernel
theorem dX5_closedMany_35 : decode cX5_closedMany 35 = .ok (.ireturn, 1) := by decide +kernel
set_option maxRecDepth 20000 in
theorem ggX5_newMany_X5_alikeNow : GoodIn wsX5_newMany wsX5_alikeNow := goodIn_r _ [7, 8, 9, 10, 6, 11, 12, 13, 14, 15, 16, 17, 18, 19, 20, 21, 22, 23, 24, 25, 2, 26, 27, 28, 29, 30, 31, 32, 33, 34, 35, 36, 37, 38, 39, 40, 41, 42, 43, 44, 45, 46, 47, 48, 49, 50, 51, 52, 53, 54, 55, 56, 57, 58, 59, 60] (by decide +kernel) (by decide +kernel)
set_option maxRecDepth 20000 in
theorem gX5_newMany_X5_alikeNow : GoodIn wsX5_newMany (wsV RX5 186 RX5 yX5_alikeNow wsX5_alikeNow) := goodIn_app (goodIn_of _ (by decide +kernel)) ggX5_newMany_X5_alikeNow
theorem dX5_newMany_0 : decode cX5_newMany 0 = .ok (.iconst 0, 1) := by decide +kernel
theorem dX5_newMany_1 : decode cX5_newMany 1 = .ok (.istore_n 1, 1) := by decide +kernel
theorem dX5_newMany_2 : decode cX5_newMany 2 = .ok (.iconst 0, 1) := by decide +kernel
theorem dX5_newMany_3 : decode cX5_newMany 3 = .ok (.istore_n 2, 1) := by decide +kernel
theorem dX5_newMany_4 : decode cX5_newMany 4 = .ok (.iload_n 2, 1) := by decide +kernel
theorem dX5_newMany_5 : decode cX5_newMany 5 = .ok (.aload_n 0, 1) := by decide +kernel
theorem dX5_newMany_6 : decode cX5_newMany 6 = .ok (.getfield 75, 3) := by decide +kernel
theorem dX5_newMany_9 : decode cX5_newMany 9 = .ok (.if_icmp .ge 60, 3) := by decide +kernel
theorem dX5_newMany_12 : decode cX5_newMany 12 = .ok (.iconst 1, 1) := by decide +kernel
theorem dX5_newMany_13 : decode cX5_newMany 13 = .ok (.istore_n 3, 1) := by decide +kernel
theorem dX5_newMany_14 : decode cX5_newMany 14 = .ok (.iconst 0, 1) := by decide +kernel
theorem dX5_newMany_15 : decode cX5_newMany 15 = .ok (.istore 4, 2) := by decide +kernel
theorem dX5_newMany_17 : decode cX5_newMany 17 = .ok (.iload 4, 2) := by decide +kernel
theorem dX5_newMany_19 : decode cX5_newMany 19 = .ok (.iload_n 2, 1) := by decide +kernel
theorem dX5_newMany_20 : decode cX5_newMany 20 = .ok (.if_icmp .ge 31, 3) := by decide +kernel
theorem dX5_newMany_23 : decode cX5_newMany 23 = .ok (.iload_n 3, 1) := by decide +kernel
theorem dX5_newMany_24 : decode cX5_newMany 24 = .ok (.ifCond .eq 19, 3) := by decide +kernel
theorem dX5_newMany_27 : decode cX5_newMany 27 = .ok (.aload_n 0, 1) := by decide +kernel
theorem dX5_newMany_28 : decode cX5_newMany 28 = .ok (.iload 4, 2) := by decide +kernel
theorem dX5_newMany_30 : decode cX5_newMany 30 = .ok (.iload_n 2, 1) := by decide +kernel
theorem dX5_newMany_31 : decode cX5_newMany 31 = .ok (.invokevirtual 186, 3) := by decide +kernel
theorem dX5_newMany_34 : decode cX5_newMany 34 = .ok (.ldc 106, 2) := by decide +kernel
theorem dX5_newMany_36 : decode cX5_newMany 36 = .ok (.if_icmp .ne 7, 3) := by decide +kernel
theorem dX5_newMany_39 : decode cX5_newMany 39 = .ok (.iconst 1, 1) := by decide +kernel
theorem dX5_newMany_40 : decode cX5_newMany 40 = .ok (.goto 4, 3) := by decide +kernel
theorem dX5_newMany_43 : decode cX5_newMany 43 = .ok (.iconst 0, 1) := by decide +kernel
theorem dX5_newMany_44 : decode cX5_newMany 44 = .ok (.istore_n 3, 1) := by decide +kernel
theorem dX5_newMany_45 : decode cX5_newMany 45 = .ok (.iinc 4 1, 3) := by decide +kernel
theorem dX5_newMany_48 : decode cX5_newMany 48 = .ok (.goto (-31), 3) := by decide +kernel
theorem dX5_newMany_51 : decode cX5_newMany 51 = .ok (.iload_n 1, 1) := by decide +kernel
theorem dX5_newMany_52 : decode cX5_newMany 52 = .ok (.iload_n 3, 1) := by decide +kernel
theorem dX5_newMany_53 : decode cX5_newMany 53 = .ok (.ifCond .eq 7, 3) := by decide +kernel
theorem dX5_newMany_56 : decode cX5_newMany 56 = .ok (.iconst 1, 1) := by decide +kernel
theorem dX5_newMany_57 : decode cX5_newMany 57 = .ok (.goto 4, 3) := by decide +kernel
theorem dX5_newMany_60 : decode cX5_newMany 60 = .ok (.iconst 0, 1) := by decide +kernel
theorem dX5_newMany_61 : decode cX5_newMany 61 = .ok (.iadd, 1) := by decide +kernel
theorem dX5_newMany_62 : decode cX5_newMany 62 = .ok (.istore_n 1, 1) := by decide +kernel
theorem dX5_newMany_63 : decode cX5_newMany 63 = .ok (.iinc 2 1, 3) := by decide +kernel
theorem dX5_newMany_66 : decode cX5_newMany 66 = .ok (.goto (-62), 3) := by decide +kernel
theorem dX5_newMany_69 : decode cX5_newMany 69 = .ok (.iload_n 1, 1) := by decide +kernel
theorem dX5_newMany_70 : decode cX5_newMany 70 = .ok (.ireturn, 1) := by decide +kernel
set_option maxRecDepth 20000 in
theorem ggX5_howMany_X5_closedMany : GoodIn wsX5_howMany wsX5_closedMany := goodIn_r _ [11, 1, 12, 13, 14, 10, 15, 16, 17, 18, 19, 20, 21, 22, 23, 24, 25, 26, 27, 28, 29, 30, 31, 51, 52, 53, 54, 55, 56, 57, 58, 59, 60, 61, 62, 63, 64, 65, 66, 67, 68, 69, 70, 71, 72, 73, 74, 75, 76, 77, 78, 79, 80, 81, 82, 83, 84, 85] (by decide +kernel) (by decide +kernel)
set_option maxRecDepth 20000 in
theorem gX5_howMany_X5_closedMany : GoodIn wsX5_howMany (wsV RX5 297 RX5 yX5_closedMany wsX5_closedMany) := goodIn_app (goodIn_of _ (by decide +kernel)) ggX5_howMany_X5_closedMany
set_option maxRecDepth 20000 in
theorem ggX5_howMany_X5_newMany : GoodIn wsX5_howMany wsX5_newMany := goodIn_r _ [35, 1, 36, 37, 38, 39, 10, 40, 16, 17, 18, 19, 20, 21, 22, 23, 41, 42, 43, 44, 45, 46, 47, 48, 49, 50, 51, 52, 53, 54, 55, 56, 57, 58, 59, 60, 61, 62, 63, 64, 65, 66, 67, 68, 69, 70, 71, 72, 73, 74, 75, 76, 77, 78, 79, 80, 81, 82, 83, 84, 85] (by decide +kernel) (by decide +kernel)
set_option maxRecDepth 20000 in
theorem gX5_howMany_X5_newMany : GoodIn wsX5_howMany (wsV RX5 300 RX5 yX5_newMany wsX5_newMany) := goodIn_app (goodIn_of _ (by decide +kernel)) ggX5_howMany_X5_newMany
theorem dX5_howMany_0 : decode cX5_howMany 0 = .ok (.iload_n 1, 1) := by decide +kernel
theorem dX5_howMany_1 : decode cX5_howMany 1 = .ok (.tableswitch 78 0 6 #[43, 48, 53, 58, 63, 68, 73], 43) := by decide +kernel
theorem dX5_howMany_44 : decode cX5_howMany 44 = .ok (.aload_n 0, 1) := by decide +kernel
theorem dX5_howMany_45 : decode cX5_howMany 45 = .ok (.getfield 75, 3) := by decide +kernel
theorem dX5_howMany_48 : decode cX5_howMany 48 = .ok (.ireturn, 1) := by decide +kernel
theorem dX5_howMany_49 : decode cX5_howMany 49 = .ok (.aload_n 0, 1) := by decide +kernel
theorem dX5_howMany_50 : decode cX5_howMany 50 = .ok (.invokevirtual 297, 3) := by decide +kernel
theorem dX5_howMany_53 : decode cX5_howMany 53 = .ok (.ireturn, 1) := by decide +kernel
theorem dX5_howMany_54 : decode cX5_howMany 54 = .ok (.aload_n 0, 1) := by decide +kernel
theorem dX5_howMany_55 : decode cX5_howMany 55 = .ok (.invokevirtual 300, 3) := by decide +kernel
theorem dX5_howMany_58 : decode cX5_howMany 58 = .ok (.ireturn, 1) := by decide +kernel
theorem dX5_howMany_59 : decode cX5_howMany 59 = .ok (.aload_n 0, 1) := by decide +kernel
theorem dX5_howMany_60 : decode cX5_howMany 60 = .ok (.getfield 55, 3) := by decide +kernel
theorem dX5_howMany_63 : decode cX5_howMany 63 = .ok (.ireturn, 1) := by decide +kernel
theorem dX5_howMany_64 : decode cX5_howMany 64 = .ok (.aload_n 0, 1) := by decide +kernel
theorem dX5_howMany_65 : decode cX5_howMany 65 = .ok (.getfield 79, 3) := by decide +kernel
theorem dX5_howMany_68 : decode cX5_howMany 68 = .ok (.ireturn, 1) := by decide +kernel
theorem dX5_howMany_69 : decode cX5_howMany 69 = .ok (.aload_n 0, 1) := by decide +kernel
theorem dX5_howMany_70 : decode cX5_howMany 70 = .ok (.getfield 212, 3) := by decide +kernel
theorem dX5_howMany_73 : decode cX5_howMany 73 = .ok (.ireturn, 1) := by decide +kernel
theorem dX5_howMany_74 : decode cX5_howMany 74 = .ok (.aload_n 0, 1) := by decide +kernel
theorem dX5_howMany_75 : decode cX5_howMany 75 = .ok (.getfield 224, 3) := by decide +kernel
theorem dX5_howMany_78 : decode cX5_howMany 78 = .ok (.ireturn, 1) := by decide +kernel
theorem dX5_howMany_79 : decode cX5_howMany 79 = .ok (.ldc 54, 2) := by decide +kernel
theorem dX5_howMany_81 : decode cX5_howMany 81 = .ok (.ireturn, 1) := by decide +kernel
set_option maxRecDepth 20000 in
theorem ggX5_count_X5_howMany : GoodIn wsX5_count wsX5_howMany := goodIn_r _ [5, 6, 7, 8, 9, 10, 11, 12, 13, 14, 4, 15, 16, 17, 18, 19, 20, 21, 22, 23, 24, 25, 26, 27, 28, 29, 30, 31, 32, 33, 34, 35, 36, 37, 38, 39, 40, 41, 42, 43, 44, 45, 46, 47, 48, 49, 50, 51, 52, 53, 54, 55, 56, 57, 58, 59, 60, 61, 62, 63, 64, 65, 66, 67, 68, 69, 70, 71, 72, 73, 74, 75, 76, 77, 78, 79, 80, 81, 82, 83, 84, 85, 86, 87, 88, 89] (by decide +kernel) (by decide +kernel)
set_option maxRecDepth 20000 in
theorem gX5_count_X5_howMany : GoodIn wsX5_count (wsV RX5 303 RX5 yX5_howMany wsX5_howMany) := goodIn_app (goodIn_of _ (by decide +kernel)) ggX5_count_X5_howMany
theorem dX5_count_0 : decode cX5_count 0 = .ok (.aload_n 0, 1) := by decide +kernel
theorem dX5_count_1 : decode cX5_count 1 = .ok (.iload_n 1, 1) := by decide +kernel
theorem dX5_count_2 : decode cX5_count 2 = .ok (.invokevirtual 303, 3) := by decide +kernel
theorem dX5_count_5 : decode cX5_count 5 = .ok (.ireturn, 1) := by decide +kernel
theorem dX5_mix_0 : decode cX5_mix 0 = .ok (.aload_n 0, 1) := by decide +kernel
theorem dX5_mix_1 : decode cX5_mix 1 = .ok (.ldc2_w 306, 3) := by decide +kernel
theorem dX5_mix_4 : decode cX5_mix 4 = .ok (.aload_n 0, 1) := by decide +kernel
theorem dX5_mix_5 : decode cX5_mix 5 = .ok (.getfield 308, 3) := by decide +kernel
theorem dX5_mix_8 : decode cX5_mix 8 = .ok (.lmul, 1) := by decide +kernel
theorem dX5_mix_9 : decode cX5_mix 9 = .ok (.lload_n 1, 1) := by decide +kernel
theorem dX5_mix_10 : decode cX5_mix 10 = .ok (.ladd, 1) := by decide +kernel
theorem dX5_mix_11 : decode cX5_mix 11 = .ok (.putfield 308, 3) := by decide +kernel
theorem dX5_mix_14 : decode cX5_mix 14 = .ok (.return_, 1) := by decide +kernel
set_option maxRecDepth 20000 in
theorem ggX5_mixRoad_X5_roadNow : GoodIn wsX5_mixRoad wsX5_roadNow := goodIn_r _ [7, 8, 9, 10, 11, 6, 12, 1, 13, 2, 14, 15, 16, 17, 18, 19, 20, 21, 22, 23, 24, 25, 26, 27, 28, 29, 30, 31, 32, 33, 34, 35, 36, 37, 38, 39, 40, 41, 42, 43, 44, 45, 46, 47, 48, 49, 50, 51, 52, 53, 54, 55, 56, 57, 58, 59, 60, 103, 104, 105, 106, 107, 108, 109, 110, 111, 112, 113, 114, 115, 116, 117, 118, 119, 120, 121, 122, 123, 124, 125, 126, 127, 128, 129, 130, 131, 132, 133, 134, 135, 136, 137] (by decide +kernel) (by decide +kernel)
set_option maxRecDepth 20000 in
theorem gX5_mixRoad_X5_roadNow : GoodIn wsX5_mixRoad (wsV RX5 146 RX5 yX5_roadNow wsX5_roadNow) := goodIn_app (goodIn_of _ (by decide +kernel)) ggX5_mixRoad_X5_roadNow
set_option maxRecDepth 20000 in
theorem ggX5_mixRoad_X5_mix : GoodIn wsX5_mixRoad wsX5_mix := goodIn_r _ [64, 65, 66, 103, 104, 105, 106, 107, 108, 109, 110, 111, 112, 113, 114, 115, 116, 117, 118, 119, 120, 121, 122, 123, 124, 125, 126, 127, 128, 129, 130, 131, 132, 133, 134, 135, 136, 137] (by decide +kernel) (by decide +kernel)
set_option maxRecDepth 20000 in
theorem gX5_mixRoad_X5_mix : GoodIn wsX5_mixRoad (wsV RX5 311 RX5 yX5_mix wsX5_mix) := goodIn_app (goodIn_of _ (by decide +kernel)) ggX5_mixRoad_X5_mix
set_option maxRecDepth 20000 in
theorem ggX5_mixRoad_X5_codeOf : GoodIn wsX5_mixRoad wsX5_codeOf := goodIn_r _ [69] (by decide +kernel) (by decide +kernel)
set_option maxRecDepth 20000 in
theorem gX5_mixRoad_X5_codeOf : GoodIn wsX5_mixRoad (va_wsS RX5 149 yX5_codeOf wsX5_codeOf) := goodIn_app (goodIn_of _ (by decide +kernel)) ggX5_mixRoad_X5_codeOf
set_option maxRecDepth 20000 in
theorem ggX5_mixRoad_X5_tableNow : GoodIn wsX5_mixRoad wsX5_tableNow := goodIn_r _ [73, 34, 40, 41, 35, 9, 10, 11, 6, 12, 1, 8, 13, 2, 36, 37, 38, 39, 103, 104, 105, 106, 107, 108, 109, 110, 111, 112, 113, 114, 115, 116, 117, 118, 119, 120, 121, 122, 123, 124, 125, 126, 127, 128, 129, 130, 131, 132, 133, 134, 135, 136, 137] (by decide +kernel) (by decide +kernel)
set_option maxRecDepth 20000 in
theorem gX5_mixRoad_X5_tableNow : GoodIn wsX5_mixRoad (wsV RX5 152 RX5 yX5_tableNow wsX5_tableNow) := goodIn_app (goodIn_of _ (by decide +kernel)) ggX5_mixRoad_X5_tableNow
set_option maxRecDepth 20000 in
theorem ggX5_mixRoad_X5_endNow : GoodIn wsX5_mixRoad wsX5_endNow := goodIn_r _ [77, 34, 40, 41, 35, 9, 10, 11, 6, 12, 1, 8, 13, 2, 36, 37, 38, 39, 103, 104, 105, 106, 107, 108, 109, 110, 111, 112, 113, 114, 115, 116, 117, 118, 119, 120, 121, 122, 123, 124, 125, 126, 127, 128, 129, 130, 131, 132, 133, 134, 135, 136, 137] (by decide +kernel) (by decide +kernel)
set_option maxRecDepth 20000 in
theorem gX5_mixRoad_X5_endNow : GoodIn wsX5_mixRoad (wsV RX5 183 RX5 yX5_endNow wsX5_endNow) := goodIn_app (goodIn_of _ (by decide +kernel)) ggX5_mixRoad_X5_endNow
set_option maxRecDepth 20000 in
theorem ggX5_mixRoad_X5_isClosed : GoodIn wsX5_mixRoad wsX5_isClosed := goodIn_r _ [81, 9, 10, 11, 6, 12, 1, 8, 13, 2, 42, 43, 44, 45, 14, 15, 16, 17, 103, 104, 105, 106, 107, 108, 109, 110, 111, 112, 113, 114, 115, 116, 117, 118, 119, 120, 121, 122, 123, 124, 125, 126, 127, 128, 129, 130, 131, 132, 133, 134, 135, 136, 137] (by decide +kernel) (by decide +kernel)
set_option maxRecDepth 20000 in
theorem gX5_mixRoad_X5_isClosed : GoodIn wsX5_mixRoad (wsV RX5 177 RX5 yX5_isClosed wsX5_isClosed) := goodIn_app (goodIn_of _ (by decide +kernel)) ggX5_mixRoad_X5_isClosed
set_option maxRecDepth 20000 in
theorem ggX5_mixRoad_X5_formNow : GoodIn wsX5_mixRoad wsX5_formNow := goodIn_r _ [85, 86, 87, 88, 89, 90, 91, 92, 6, 93, 41, 35, 34, 40, 9, 10, 11, 12, 1, 8, 13, 2, 36, 37, 38, 39, 94, 95, 96, 97, 98, 99, 100, 101, 102, 103, 104, 105, 106, 107, 108, 109, 110, 111, 112, 113, 114, 115, 116, 117, 118, 119, 120, 121, 122, 123, 124, 125, 126, 127, 128, 129, 130, 131, 132, 133, 134, 135, 136, 137] (by decide +kernel) (by decide +kernel)
set_option maxRecDepth 20000 in
theorem gX5_mixRoad_X5_formNow : GoodIn wsX5_mixRoad (wsV RX5 180 RX5 yX5_formNow wsX5_formNow) := goodIn_app (goodIn_of _ (by decide +kernel)) ggX5_mixRoad_X5_formNow
theorem dX5_mixRoad_0 : decode cX5_mixRoad 0 = .ok (.iconst 0, 1) := by decide +kernel
theorem dX5_mixRoad_1 : decode cX5_mixRoad 1 = .ok (.istore_n 2, 1) := by decide +kernel
theorem dX5_mixRoad_2 : decode cX5_mixRoad 2 = .ok (.iload_n 2, 1) := by decide +kernel
theorem dX5_mixRoad_3 : decode cX5_mixRoad 3 = .ok (.bipush 10, 2) := by decide +kernel
theorem dX5_mixRoad_5 : decode cX5_mixRoad 5 = .ok (.if_icmp .ge 20, 3) := by decide +kernel
theorem dX5_mixRoad_8 : decode cX5_mixRoad 8 = .ok (.aload_n 0, 1) := by decide +kernel
theorem dX5_mixRoad_9 : decode cX5_mixRoad 9 = .ok (.aload_n 0, 1) := by decide +kernel
theorem dX5_mixRoad_10 : decode cX5_mixRoad 10 = .ok (.iload_n 1, 1) := by decide +kernel
theorem dX5_mixRoad_11 : decode cX5_mixRoad 11 = .ok (.iload_n 2, 1) := by decide +kernel
theorem dX5_mixRoad_12 : decode cX5_mixRoad 12 = .ok (.invokevirtual 146, 3) := by decide +kernel
theorem dX5_mixRoad_15 : decode cX5_mixRoad 15 = .ok (.i2l, 1) := by decide +kernel
theorem dX5_mixRoad_16 : decode cX5_mixRoad 16 = .ok (.invokevirtual 311, 3) := by decide +kernel
theorem dX5_mixRoad_19 : decode cX5_mixRoad 19 = .ok (.iinc 2 1, 3) := by decide +kernel
theorem dX5_mixRoad_22 : decode cX5_mixRoad 22 = .ok (.goto (-20), 3) := by decide +kernel
theorem dX5_mixRoad_25 : decode cX5_mixRoad 25 = .ok (.iconst 0, 1) := by decide +kernel
theorem dX5_mixRoad_26 : decode cX5_mixRoad 26 = .ok (.istore_n 2, 1) := by decide +kernel
theorem dX5_mixRoad_27 : decode cX5_mixRoad 27 = .ok (.iload_n 2, 1) := by decide +kernel
theorem dX5_mixRoad_28 : decode cX5_mixRoad 28 = .ok (.aload_n 0, 1) := by decide +kernel
theorem dX5_mixRoad_29 : decode cX5_mixRoad 29 = .ok (.getfield 13, 3) := by decide +kernel
theorem dX5_mixRoad_32 : decode cX5_mixRoad 32 = .ok (.iload_n 1, 1) := by decide +kernel
theorem dX5_mixRoad_33 : decode cX5_mixRoad 33 = .ok (.iaload, 1) := by decide +kernel
theorem dX5_mixRoad_34 : decode cX5_mixRoad 34 = .ok (.if_icmp .ge 28, 3) := by decide +kernel
theorem dX5_mixRoad_37 : decode cX5_mixRoad 37 = .ok (.aload_n 0, 1) := by decide +kernel
theorem dX5_mixRoad_38 : decode cX5_mixRoad 38 = .ok (.aload_n 0, 1) := by decide +kernel
theorem dX5_mixRoad_39 : decode cX5_mixRoad 39 = .ok (.getfield 16, 3) := by decide +kernel
theorem dX5_mixRoad_42 : decode cX5_mixRoad 42 = .ok (.bipush 20, 2) := by decide +kernel
theorem dX5_mixRoad_44 : decode cX5_mixRoad 44 = .ok (.iload_n 1, 1) := by decide +kernel
theorem dX5_mixRoad_45 : decode cX5_mixRoad 45 = .ok (.imul, 1) := by decide +kernel
theorem dX5_mixRoad_46 : decode cX5_mixRoad 46 = .ok (.iload_n 2, 1) := by decide +kernel
theorem dX5_mixRoad_47 : decode cX5_mixRoad 47 = .ok (.iadd, 1) := by decide +kernel
theorem dX5_mixRoad_48 : decode cX5_mixRoad 48 = .ok (.iaload, 1) := by decide +kernel
theorem dX5_mixRoad_49 : decode cX5_mixRoad 49 = .ok (.invokestatic 149, 3) := by decide +kernel
theorem dX5_mixRoad_52 : decode cX5_mixRoad 52 = .ok (.i2l, 1) := by decide +kernel
theorem dX5_mixRoad_53 : decode cX5_mixRoad 53 = .ok (.invokevirtual 311, 3) := by decide +kernel
theorem dX5_mixRoad_56 : decode cX5_mixRoad 56 = .ok (.iinc 2 1, 3) := by decide +kernel
theorem dX5_mixRoad_59 : decode cX5_mixRoad 59 = .ok (.goto (-32), 3) := by decide +kernel
theorem dX5_mixRoad_62 : decode cX5_mixRoad 62 = .ok (.iconst 0, 1) := by decide +kernel
theorem dX5_mixRoad_63 : decode cX5_mixRoad 63 = .ok (.istore_n 2, 1) := by decide +kernel
theorem dX5_mixRoad_64 : decode cX5_mixRoad 64 = .ok (.iload_n 2, 1) := by decide +kernel
theorem dX5_mixRoad_65 : decode cX5_mixRoad 65 = .ok (.iconst 4, 1) := by decide +kernel
theorem dX5_mixRoad_66 : decode cX5_mixRoad 66 = .ok (.if_icmp .ge 20, 3) := by decide +kernel
theorem dX5_mixRoad_69 : decode cX5_mixRoad 69 = .ok (.aload_n 0, 1) := by decide +kernel
theorem dX5_mixRoad_70 : decode cX5_mixRoad 70 = .ok (.aload_n 0, 1) := by decide +kernel
theorem dX5_mixRoad_71 : decode cX5_mixRoad 71 = .ok (.iload_n 1, 1) := by decide +kernel
theorem dX5_mixRoad_72 : decode cX5_mixRoad 72 = .ok (.iload_n 2, 1) := by decide +kernel
theorem dX5_mixRoad_73 : decode cX5_mixRoad 73 = .ok (.invokevirtual 152, 3) := by decide +kernel
theorem dX5_mixRoad_76 : decode cX5_mixRoad 76 = .ok (.i2l, 1) := by decide +kernel
theorem dX5_mixRoad_77 : decode cX5_mixRoad 77 = .ok (.invokevirtual 311, 3) := by decide +kernel
theorem dX5_mixRoad_80 : decode cX5_mixRoad 80 = .ok (.iinc 2 1, 3) := by decide +kernel
theorem dX5_mixRoad_83 : decode cX5_mixRoad 83 = .ok (.goto (-19), 3) := by decide +kernel
theorem dX5_mixRoad_86 : decode cX5_mixRoad 86 = .ok (.aload_n 0, 1) := by decide +kernel
theorem dX5_mixRoad_87 : decode cX5_mixRoad 87 = .ok (.aload_n 0, 1) := by decide +kernel
theorem dX5_mixRoad_88 : decode cX5_mixRoad 88 = .ok (.iload_n 1, 1) := by decide +kernel
theorem dX5_mixRoad_89 : decode cX5_mixRoad 89 = .ok (.iconst 0, 1) := by decide +kernel
theorem dX5_mixRoad_90 : decode cX5_mixRoad 90 = .ok (.invokevirtual 183, 3) := by decide +kernel
theorem dX5_mixRoad_93 : decode cX5_mixRoad 93 = .ok (.i2l, 1) := by decide +kernel
theorem dX5_mixRoad_94 : decode cX5_mixRoad 94 = .ok (.invokevirtual 311, 3) := by decide +kernel
theorem dX5_mixRoad_97 : decode cX5_mixRoad 97 = .ok (.aload_n 0, 1) := by decide +kernel
theorem dX5_mixRoad_98 : decode cX5_mixRoad 98 = .ok (.aload_n 0, 1) := by decide +kernel
theorem dX5_mixRoad_99 : decode cX5_mixRoad 99 = .ok (.iload_n 1, 1) := by decide +kernel
theorem dX5_mixRoad_100 : decode cX5_mixRoad 100 = .ok (.iconst 1, 1) := by decide +kernel
theorem dX5_mixRoad_101 : decode cX5_mixRoad 101 = .ok (.invokevirtual 183, 3) := by decide +kernel
theorem dX5_mixRoad_104 : decode cX5_mixRoad 104 = .ok (.i2l, 1) := by decide +kernel
theorem dX5_mixRoad_105 : decode cX5_mixRoad 105 = .ok (.invokevirtual 311, 3) := by decide +kernel
theorem dX5_mixRoad_108 : decode cX5_mixRoad 108 = .ok (.aload_n 0, 1) := by decide +kernel
theorem dX5_mixRoad_109 : decode cX5_mixRoad 109 = .ok (.iload_n 1, 1) := by decide +kernel
theorem dX5_mixRoad_110 : decode cX5_mixRoad 110 = .ok (.invokevirtual 177, 3) := by decide +kernel
theorem dX5_mixRoad_113 : decode cX5_mixRoad 113 = .ok (.istore_n 2, 1) := by decide +kernel
theorem dX5_mixRoad_114 : decode cX5_mixRoad 114 = .ok (.iconst 0, 1) := by decide +kernel
theorem dX5_mixRoad_115 : decode cX5_mixRoad 115 = .ok (.istore_n 3, 1) := by decide +kernel
theorem dX5_mixRoad_116 : decode cX5_mixRoad 116 = .ok (.iload_n 3, 1) := by decide +kernel
theorem dX5_mixRoad_117 : decode cX5_mixRoad 117 = .ok (.iconst 5, 1) := by decide +kernel
theorem dX5_mixRoad_118 : decode cX5_mixRoad 118 = .ok (.if_icmp .ge 24, 3) := by decide +kernel
theorem dX5_mixRoad_121 : decode cX5_mixRoad 121 = .ok (.iload_n 2, 1) := by decide +kernel
theorem dX5_mixRoad_122 : decode cX5_mixRoad 122 = .ok (.ifCond .eq 20, 3) := by decide +kernel
theorem dX5_mixRoad_125 : decode cX5_mixRoad 125 = .ok (.aload_n 0, 1) := by decide +kernel
theorem dX5_mixRoad_126 : decode cX5_mixRoad 126 = .ok (.aload_n 0, 1) := by decide +kernel
theorem dX5_mixRoad_127 : decode cX5_mixRoad 127 = .ok (.iload_n 1, 1) := by decide +kernel
theorem dX5_mixRoad_128 : decode cX5_mixRoad 128 = .ok (.iload_n 3, 1) := by decide +kernel
theorem dX5_mixRoad_129 : decode cX5_mixRoad 129 = .ok (.invokevirtual 180, 3) := by decide +kernel
theorem dX5_mixRoad_132 : decode cX5_mixRoad 132 = .ok (.i2l, 1) := by decide +kernel
theorem dX5_mixRoad_133 : decode cX5_mixRoad 133 = .ok (.invokevirtual 311, 3) := by decide +kernel
theorem dX5_mixRoad_136 : decode cX5_mixRoad 136 = .ok (.iinc 3 1, 3) := by decide +kernel
theorem dX5_mixRoad_139 : decode cX5_mixRoad 139 = .ok (.goto (-23), 3) := by decide +kernel
theorem dX5_mixRoad_142 : decode cX5_mixRoad 142 = .ok (.return_, 1) := by decide +kernel
set_option maxRecDepth 20000 in
theorem ggX5_mixCrossings_X5_isClosed : GoodIn wsX5_mixCrossings wsX5_isClosed := goodIn_r _ [6, 7, 8, 9, 5, 10, 11, 12, 13, 14, 15, 16, 17, 18, 19, 20, 21, 22, 47, 48, 49, 50, 51, 52, 53, 54, 55, 56, 57, 58, 59, 60, 61, 62, 63, 64, 65, 66, 67, 68, 69, 70, 71, 72, 73, 74, 75, 76, 77, 78, 79, 80, 81] (by decide +kernel) (by decide +kernel)
set_option maxRecDepth 20000 in
theorem gX5_mixCrossings_X5_isClosed : GoodIn wsX5_mixCrossings (wsV RX5 177 RX5 yX5_isClosed wsX5_isClosed) := goodIn_app (goodIn_of _ (by decide +kernel)) ggX5_mixCrossings_X5_isClosed
set_option maxRecDepth 20000 in
theorem ggX5_mixCrossings_X5_crossings : GoodIn wsX5_mixCrossings wsX5_crossings := goodIn_r _ [26, 7, 8, 9, 5, 10, 11, 12, 13, 14, 27, 28, 29, 30, 31, 32, 33, 34, 35, 36, 37, 38, 39, 40, 47, 48, 49, 50, 51, 52, 53, 54, 55, 56, 57, 58, 59, 60, 61, 62, 63, 64, 65, 66, 67, 68, 69, 70, 71, 72, 73, 74, 75, 76, 77, 78, 79, 80, 81] (by decide +kernel) (by decide +kernel)
set_option maxRecDepth 20000 in
theorem gX5_mixCrossings_X5_crossings : GoodIn wsX5_mixCrossings (wsV RX5 196 RX5 yX5_crossings wsX5_crossings) := goodIn_app (goodIn_of _ (by decide +kernel)) ggX5_mixCrossings_X5_crossings
set_option maxRecDepth 20000 in
theorem ggX5_mixCrossings_X5_mix : GoodIn wsX5_mixCrossings wsX5_mix := goodIn_r _ [44, 45, 46, 47, 48, 49, 50, 51, 52, 53, 54, 55, 56, 57, 58, 59, 60, 61, 62, 63, 64, 65, 66, 67, 68, 69, 70, 71, 72, 73, 74, 75, 76, 77, 78, 79, 80, 81] (by decide +kernel) (by decide +kernel)
set_option maxRecDepth 20000 in
theorem gX5_mixCrossings_X5_mix : GoodIn wsX5_mixCrossings (wsV RX5 311 RX5 yX5_mix wsX5_mix) := goodIn_app (goodIn_of _ (by decide +kernel)) ggX5_mixCrossings_X5_mix
theorem dX5_mixCrossings_0 : decode cX5_mixCrossings 0 = .ok (.iconst 0, 1) := by decide +kernel
theorem dX5_mixCrossings_1 : decode cX5_mixCrossings 1 = .ok (.istore_n 1, 1) := by decide +kernel
theorem dX5_mixCrossings_2 : decode cX5_mixCrossings 2 = .ok (.iload_n 1, 1) := by decide +kernel
theorem dX5_mixCrossings_3 : decode cX5_mixCrossings 3 = .ok (.aload_n 0, 1) := by decide +kernel
theorem dX5_mixCrossings_4 : decode cX5_mixCrossings 4 = .ok (.getfield 75, 3) := by decide +kernel
theorem dX5_mixCrossings_7 : decode cX5_mixCrossings 7 = .ok (.if_icmp .ge 52, 3) := by decide +kernel
theorem dX5_mixCrossings_10 : decode cX5_mixCrossings 10 = .ok (.iload_n 1, 1) := by decide +kernel
theorem dX5_mixCrossings_11 : decode cX5_mixCrossings 11 = .ok (.istore_n 2, 1) := by decide +kernel
theorem dX5_mixCrossings_12 : decode cX5_mixCrossings 12 = .ok (.iload_n 2, 1) := by decide +kernel
theorem dX5_mixCrossings_13 : decode cX5_mixCrossings 13 = .ok (.aload_n 0, 1) := by decide +kernel
theorem dX5_mixCrossings_14 : decode cX5_mixCrossings 14 = .ok (.getfield 75, 3) := by decide +kernel
theorem dX5_mixCrossings_17 : decode cX5_mixCrossings 17 = .ok (.if_icmp .ge 36, 3) := by decide +kernel
theorem dX5_mixCrossings_20 : decode cX5_mixCrossings 20 = .ok (.aload_n 0, 1) := by decide +kernel
theorem dX5_mixCrossings_21 : decode cX5_mixCrossings 21 = .ok (.iload_n 1, 1) := by decide +kernel
theorem dX5_mixCrossings_22 : decode cX5_mixCrossings 22 = .ok (.invokevirtual 177, 3) := by decide +kernel
theorem dX5_mixCrossings_25 : decode cX5_mixCrossings 25 = .ok (.ifCond .eq 22, 3) := by decide +kernel
theorem dX5_mixCrossings_28 : decode cX5_mixCrossings 28 = .ok (.aload_n 0, 1) := by decide +kernel
theorem dX5_mixCrossings_29 : decode cX5_mixCrossings 29 = .ok (.iload_n 2, 1) := by decide +kernel
theorem dX5_mixCrossings_30 : decode cX5_mixCrossings 30 = .ok (.invokevirtual 177, 3) := by decide +kernel
theorem dX5_mixCrossings_33 : decode cX5_mixCrossings 33 = .ok (.ifCond .eq 14, 3) := by decide +kernel
theorem dX5_mixCrossings_36 : decode cX5_mixCrossings 36 = .ok (.aload_n 0, 1) := by decide +kernel
theorem dX5_mixCrossings_37 : decode cX5_mixCrossings 37 = .ok (.aload_n 0, 1) := by decide +kernel
theorem dX5_mixCrossings_38 : decode cX5_mixCrossings 38 = .ok (.iload_n 1, 1) := by decide +kernel
theorem dX5_mixCrossings_39 : decode cX5_mixCrossings 39 = .ok (.iload_n 2, 1) := by decide +kernel
theorem dX5_mixCrossings_40 : decode cX5_mixCrossings 40 = .ok (.invokevirtual 196, 3) := by decide +kernel
theorem dX5_mixCrossings_43 : decode cX5_mixCrossings 43 = .ok (.i2l, 1) := by decide +kernel
theorem dX5_mixCrossings_44 : decode cX5_mixCrossings 44 = .ok (.invokevirtual 311, 3) := by decide +kernel
theorem dX5_mixCrossings_47 : decode cX5_mixCrossings 47 = .ok (.iinc 2 1, 3) := by decide +kernel
theorem dX5_mixCrossings_50 : decode cX5_mixCrossings 50 = .ok (.goto (-38), 3) := by decide +kernel
theorem dX5_mixCrossings_53 : decode cX5_mixCrossings 53 = .ok (.iinc 1 1, 3) := by decide +kernel
theorem dX5_mixCrossings_56 : decode cX5_mixCrossings 56 = .ok (.goto (-54), 3) := by decide +kernel
theorem dX5_mixCrossings_59 : decode cX5_mixCrossings 59 = .ok (.return_, 1) := by decide +kernel
set_option maxRecDepth 20000 in
theorem ggX5_mixRiver_X5_simpleNow : GoodIn wsX5_mixRiver wsX5_simpleNow := goodIn_r _ [7, 8, 9, 10, 11, 12, 13, 14, 15, 6, 16, 17, 18, 19, 20, 21, 22, 23, 1, 24, 48, 49, 50, 51, 52, 53, 54, 55, 56, 57, 58, 59, 60, 61, 62, 63, 64, 65, 66, 67, 68, 69, 70, 71, 72, 73, 74, 75, 76, 77, 78, 79, 80, 81, 82] (by decide +kernel) (by decide +kernel)
set_option maxRecDepth 20000 in
theorem gX5_mixRiver_X5_simpleNow : GoodIn wsX5_mixRiver (wsV RX5 236 RX5 yX5_simpleNow wsX5_simpleNow) := goodIn_app (goodIn_of _ (by decide +kernel)) ggX5_mixRiver_X5_simpleNow
set_option maxRecDepth 20000 in
theorem ggX5_mixRiver_X5_mix : GoodIn wsX5_mixRiver wsX5_mix := goodIn_r _ [28, 29, 30, 48, 49, 50, 51, 52, 53, 54, 55, 56, 57, 58, 59, 60, 61, 62, 63, 64, 65, 66, 67, 68, 69, 70, 71, 72, 73, 74, 75, 76, 77, 78, 79, 80, 81, 82] (by decide +kernel) (by decide +kernel)
