theorem dX4_change_5 : decode cX4_change 5 = .ok (.astore_n 3, 1) := by decide +kernel
theorem dX4_change_6 : decode cX4_change 6 = .ok (.aload_n 3, 1) := by decide +kernel
theorem dX4_change_7 : decode cX4_change 7 = .ok (.ifnonnull 6, 3) := by decide +kernel
theorem dX4_change_10 : decode cX4_change 10 = .ok (.ldc 74, 2) := by decide +kernel
theorem dX4_change_12 : decode cX4_change 12 = .ok (.ireturn, 1) := by decide +kernel
theorem dX4_change_13 : decode cX4_change 13 = .ok (.iload_n 2, 1) := by decide +kernel
theorem dX4_change_14 : decode cX4_change 14 = .ok (.ifCond .lt 8, 3) := by decide +kernel
theorem dX4_change_17 : decode cX4_change 17 = .ok (.iload_n 2, 1) := by decide +kernel
theorem dX4_change_18 : decode cX4_change 18 = .ok (.iconst 3, 1) := by decide +kernel
theorem dX4_change_19 : decode cX4_change 19 = .ok (.if_icmp .lt 6, 3) := by decide +kernel
theorem dX4_change_22 : decode cX4_change 22 = .ok (.ldc 36, 2) := by decide +kernel
theorem dX4_change_24 : decode cX4_change 24 = .ok (.ireturn, 1) := by decide +kernel
theorem dX4_change_25 : decode cX4_change 25 = .ok (.aload_n 3, 1) := by decide +kernel
theorem dX4_change_26 : decode cX4_change 26 = .ok (.aload_n 3, 1) := by decide +kernel
theorem dX4_change_27 : decode cX4_change 27 = .ok (.iload_n 2, 1) := by decide +kernel
theorem dX4_change_28 : decode cX4_change 28 = .ok (.invokevirtual 142, 3) := by decide +kernel
theorem dX4_change_31 : decode cX4_change 31 = .ok (.aload_n 3, 1) := by decide +kernel
theorem dX4_change_32 : decode cX4_change 32 = .ok (.getfield 75, 3) := by decide +kernel
theorem dX4_change_35 : decode cX4_change 35 = .ok (.invokevirtual 138, 3) := by decide +kernel
theorem dX4_change_38 : decode cX4_change 38 = .ok (.aload_n 3, 1) := by decide +kernel
theorem dX4_change_39 : decode cX4_change 39 = .ok (.invokevirtual 90, 3) := by decide +kernel
theorem dX4_change_42 : decode cX4_change 42 = .ok (.ireturn, 1) := by decide +kernel
set_option maxRecDepth 20000 in
theorem ggX4_join_X4_roadAt : GoodIn wsX4_join wsX4_roadAt := goodIn_rq _ [8, 9, 10, 48, 49, 50, 51, 52, 53] (by decide +kernel) (by decide +kernel)
set_option maxRecDepth 20000 in
theorem gX4_join_X4_roadAt : GoodIn wsX4_join (wsV RX4 70 RX4 yX4_roadAt wsX4_roadAt) := goodIn_app (goodIn_of _ (by decide +kernel)) ggX4_join_X4_roadAt
set_option maxRecDepth 20000 in
theorem ggX4_join_X4_addRoad : GoodIn wsX4_join wsX4_addRoad := goodIn_rq _ [14, 15, 9, 10, 16, 17, 18, 19, 20, 21, 22, 23, 24, 25, 26, 27, 28, 29, 30, 31, 32, 33, 34, 35, 36, 37, 38, 39, 40, 48, 49, 50, 51, 52, 53, 41, 42, 43, 44, 45, 46, 47] (by decide +kernel) (by decide +kernel)
set_option maxRecDepth 20000 in
theorem gX4_join_X4_addRoad : GoodIn wsX4_join (wsV RX4 63 RX4 yX4_addRoad wsX4_addRoad) := goodIn_app (goodIn_of _ (by decide +kernel)) ggX4_join_X4_addRoad
theorem dX4_join_0 : decode cX4_join 0 = .ok (.aload_n 0, 1) := by decide +kernel
theorem dX4_join_1 : decode cX4_join 1 = .ok (.iload_n 1, 1) := by decide +kernel
theorem dX4_join_2 : decode cX4_join 2 = .ok (.invokevirtual 70, 3) := by decide +kernel
theorem dX4_join_5 : decode cX4_join 5 = .ok (.astore_n 3, 1) := by decide +kernel
theorem dX4_join_6 : decode cX4_join 6 = .ok (.aload_n 0, 1) := by decide +kernel
theorem dX4_join_7 : decode cX4_join 7 = .ok (.iload_n 2, 1) := by decide +kernel
theorem dX4_join_8 : decode cX4_join 8 = .ok (.invokevirtual 70, 3) := by decide +kernel
theorem dX4_join_11 : decode cX4_join 11 = .ok (.astore 4, 2) := by decide +kernel
theorem dX4_join_13 : decode cX4_join 13 = .ok (.aload_n 3, 1) := by decide +kernel
theorem dX4_join_14 : decode cX4_join 14 = .ok (.ifnull 8, 3) := by decide +kernel
theorem dX4_join_17 : decode cX4_join 17 = .ok (.aload 4, 2) := by decide +kernel
theorem dX4_join_19 : decode cX4_join 19 = .ok (.ifnonnull 6, 3) := by decide +kernel
theorem dX4_join_22 : decode cX4_join 22 = .ok (.ldc 74, 2) := by decide +kernel
theorem dX4_join_24 : decode cX4_join 24 = .ok (.ireturn, 1) := by decide +kernel
theorem dX4_join_25 : decode cX4_join 25 = .ok (.aload_n 0, 1) := by decide +kernel
theorem dX4_join_26 : decode cX4_join 26 = .ok (.aload_n 3, 1) := by decide +kernel
theorem dX4_join_27 : decode cX4_join 27 = .ok (.getfield 76, 3) := by decide +kernel
theorem dX4_join_30 : decode cX4_join 30 = .ok (.aload 4, 2) := by decide +kernel
theorem dX4_join_32 : decode cX4_join 32 = .ok (.getfield 75, 3) := by decide +kernel
theorem dX4_join_35 : decode cX4_join 35 = .ok (.ishl, 1) := by decide +kernel
theorem dX4_join_36 : decode cX4_join 36 = .ok (.aload 4, 2) := by decide +kernel
theorem dX4_join_38 : decode cX4_join 38 = .ok (.getfield 76, 3) := by decide +kernel
theorem dX4_join_41 : decode cX4_join 41 = .ok (.ior, 1) := by decide +kernel
theorem dX4_join_42 : decode cX4_join 42 = .ok (.aload_n 3, 1) := by decide +kernel
theorem dX4_join_43 : decode cX4_join 43 = .ok (.getfield 75, 3) := by decide +kernel
theorem dX4_join_46 : decode cX4_join 46 = .ok (.aload 4, 2) := by decide +kernel
theorem dX4_join_48 : decode cX4_join 48 = .ok (.getfield 75, 3) := by decide +kernel
theorem dX4_join_51 : decode cX4_join 51 = .ok (.iadd, 1) := by decide +kernel
theorem dX4_join_52 : decode cX4_join 52 = .ok (.invokevirtual 63, 3) := by decide +kernel
theorem dX4_join_55 : decode cX4_join 55 = .ok (.ireturn, 1) := by decide +kernel
set_option maxRecDepth 20000 in
theorem ggX4_times_X4_roadAt : GoodIn wsX4_times wsX4_roadAt := goodIn_rq _ [9, 10, 11, 49, 50, 51, 52, 53, 54] (by decide +kernel) (by decide +kernel)
set_option maxRecDepth 20000 in
theorem gX4_times_X4_roadAt : GoodIn wsX4_times (wsV RX4 70 RX4 yX4_roadAt wsX4_roadAt) := goodIn_app (goodIn_of _ (by decide +kernel)) ggX4_times_X4_roadAt
set_option maxRecDepth 20000 in
theorem ggX4_times_X4_addRoad : GoodIn wsX4_times wsX4_addRoad := goodIn_rq _ [15, 16, 10, 11, 17, 18, 19, 20, 21, 22, 23, 24, 25, 26, 27, 28, 29, 30, 31, 32, 33, 34, 35, 36, 37, 38, 39, 40, 41, 49, 50, 51, 52, 53, 54, 42, 43, 44, 45, 46, 47, 48] (by decide +kernel) (by decide +kernel)
set_option maxRecDepth 20000 in
theorem gX4_times_X4_addRoad : GoodIn wsX4_times (wsV RX4 63 RX4 yX4_addRoad wsX4_addRoad) := goodIn_app (goodIn_of _ (by decide +kernel)) ggX4_times_X4_addRoad
theorem dX4_times_0 : decode cX4_times 0 = .ok (.aload_n 0, 1) := by decide +kernel
theorem dX4_times_1 : decode cX4_times 1 = .ok (.iload_n 1, 1) := by decide +kernel
theorem dX4_times_2 : decode cX4_times 2 = .ok (.invokevirtual 70, 3) := by decide +kernel
theorem dX4_times_5 : decode cX4_times 5 = .ok (.astore_n 3, 1) := by decide +kernel
theorem dX4_times_6 : decode cX4_times 6 = .ok (.aload_n 3, 1) := by decide +kernel
theorem dX4_times_7 : decode cX4_times 7 = .ok (.ifnonnull 6, 3) := by decide +kernel
theorem dX4_times_10 : decode cX4_times 10 = .ok (.ldc 74, 2) := by decide +kernel
theorem dX4_times_12 : decode cX4_times 12 = .ok (.ireturn, 1) := by decide +kernel
theorem dX4_times_13 : decode cX4_times 13 = .ok (.iload_n 2, 1) := by decide +kernel
theorem dX4_times_14 : decode cX4_times 14 = .ok (.iconst 2, 1) := by decide +kernel
theorem dX4_times_15 : decode cX4_times 15 = .ok (.if_icmp .lt 8, 3) := by decide +kernel
theorem dX4_times_18 : decode cX4_times 18 = .ok (.iload_n 2, 1) := by decide +kernel
theorem dX4_times_19 : decode cX4_times 19 = .ok (.iconst 5, 1) := by decide +kernel
theorem dX4_times_20 : decode cX4_times 20 = .ok (.if_icmp .le 6, 3) := by decide +kernel
theorem dX4_times_23 : decode cX4_times 23 = .ok (.ldc 36, 2) := by decide +kernel
theorem dX4_times_25 : decode cX4_times 25 = .ok (.ireturn, 1) := by decide +kernel
theorem dX4_times_26 : decode cX4_times 26 = .ok (.iconst 0, 1) := by decide +kernel
theorem dX4_times_27 : decode cX4_times 27 = .ok (.istore 4, 2) := by decide +kernel
theorem dX4_times_29 : decode cX4_times 29 = .ok (.iconst 0, 1) := by decide +kernel
theorem dX4_times_30 : decode cX4_times 30 = .ok (.istore 5, 2) := by decide +kernel
theorem dX4_times_32 : decode cX4_times 32 = .ok (.iload 5, 2) := by decide +kernel
theorem dX4_times_34 : decode cX4_times 34 = .ok (.iload_n 2, 1) := by decide +kernel
theorem dX4_times_35 : decode cX4_times 35 = .ok (.if_icmp .ge 23, 3) := by decide +kernel
theorem dX4_times_38 : decode cX4_times 38 = .ok (.iload 4, 2) := by decide +kernel
theorem dX4_times_40 : decode cX4_times 40 = .ok (.aload_n 3, 1) := by decide +kernel
theorem dX4_times_41 : decode cX4_times 41 = .ok (.getfield 75, 3) := by decide +kernel
theorem dX4_times_44 : decode cX4_times 44 = .ok (.ishl, 1) := by decide +kernel
theorem dX4_times_45 : decode cX4_times 45 = .ok (.aload_n 3, 1) := by decide +kernel
theorem dX4_times_46 : decode cX4_times 46 = .ok (.getfield 76, 3) := by decide +kernel
theorem dX4_times_49 : decode cX4_times 49 = .ok (.ior, 1) := by decide +kernel
theorem dX4_times_50 : decode cX4_times 50 = .ok (.istore 4, 2) := by decide +kernel
theorem dX4_times_52 : decode cX4_times 52 = .ok (.iinc 5 1, 3) := by decide +kernel
theorem dX4_times_55 : decode cX4_times 55 = .ok (.goto (-23), 3) := by decide +kernel
theorem dX4_times_58 : decode cX4_times 58 = .ok (.aload_n 0, 1) := by decide +kernel
theorem dX4_times_59 : decode cX4_times 59 = .ok (.iload 4, 2) := by decide +kernel
theorem dX4_times_61 : decode cX4_times 61 = .ok (.iload_n 2, 1) := by decide +kernel
theorem dX4_times_62 : decode cX4_times 62 = .ok (.aload_n 3, 1) := by decide +kernel
theorem dX4_times_63 : decode cX4_times 63 = .ok (.getfield 75, 3) := by decide +kernel
theorem dX4_times_66 : decode cX4_times 66 = .ok (.imul, 1) := by decide +kernel
theorem dX4_times_67 : decode cX4_times 67 = .ok (.invokevirtual 63, 3) := by decide +kernel
theorem dX4_times_70 : decode cX4_times 70 = .ok (.ireturn, 1) := by decide +kernel
set_option maxRecDepth 20000 in
theorem ggX4_cut_X4_commonDivisor : GoodIn wsX4_cut wsX4_commonDivisor := goodIn_rq _ [5, 6, 7, 8, 9, 10, 11, 12] (by decide +kernel) (by decide +kernel)
set_option maxRecDepth 20000 in
theorem gX4_cut_X4_commonDivisor : GoodIn wsX4_cut (va_wsS RX4 145 yX4_commonDivisor wsX4_commonDivisor) := goodIn_app (goodIn_of _ (by decide +kernel)) ggX4_cut_X4_commonDivisor
set_option maxRecDepth 20000 in
theorem ggX4_cut_X4_addRoad : GoodIn wsX4_cut wsX4_addRoad := goodIn_rq _ [16, 17, 18, 19, 20, 21, 22, 23, 24, 25, 26, 27, 28, 29, 30, 31, 32, 33, 34, 35, 36, 37, 38, 39, 40, 41, 42, 43, 44, 45, 46, 47, 48, 49, 50, 51, 52, 53, 54, 55, 56, 57] (by decide +kernel) (by decide +kernel)
set_option maxRecDepth 20000 in
theorem gX4_cut_X4_addRoad : GoodIn wsX4_cut (wsV RX4 63 RX4 yX4_addRoad wsX4_addRoad) := goodIn_app (goodIn_of _ (by decide +kernel)) ggX4_cut_X4_addRoad
theorem dX4_cut_0 : decode cX4_cut 0 = .ok (.iload_n 1, 1) := by decide +kernel
theorem dX4_cut_1 : decode cX4_cut 1 = .ok (.iconst 1, 1) := by decide +kernel
theorem dX4_cut_2 : decode cX4_cut 2 = .ok (.if_icmp .lt 34, 3) := by decide +kernel
theorem dX4_cut_5 : decode cX4_cut 5 = .ok (.iload_n 1, 1) := by decide +kernel
theorem dX4_cut_6 : decode cX4_cut 6 = .ok (.bipush 99, 2) := by decide +kernel
theorem dX4_cut_8 : decode cX4_cut 8 = .ok (.if_icmp .gt 28, 3) := by decide +kernel
theorem dX4_cut_11 : decode cX4_cut 11 = .ok (.iload_n 2, 1) := by decide +kernel
theorem dX4_cut_12 : decode cX4_cut 12 = .ok (.iconst 1, 1) := by decide +kernel
theorem dX4_cut_13 : decode cX4_cut 13 = .ok (.if_icmp .lt 23, 3) := by decide +kernel
theorem dX4_cut_16 : decode cX4_cut 16 = .ok (.iload_n 2, 1) := by decide +kernel
theorem dX4_cut_17 : decode cX4_cut 17 = .ok (.bipush 99, 2) := by decide +kernel
theorem dX4_cut_19 : decode cX4_cut 19 = .ok (.if_icmp .gt 17, 3) := by decide +kernel
theorem dX4_cut_22 : decode cX4_cut 22 = .ok (.iload_n 1, 1) := by decide +kernel
theorem dX4_cut_23 : decode cX4_cut 23 = .ok (.iload_n 2, 1) := by decide +kernel
theorem dX4_cut_24 : decode cX4_cut 24 = .ok (.if_icmp .eq 12, 3) := by decide +kernel
theorem dX4_cut_27 : decode cX4_cut 27 = .ok (.iload_n 1, 1) := by decide +kernel
theorem dX4_cut_28 : decode cX4_cut 28 = .ok (.iload_n 2, 1) := by decide +kernel
theorem dX4_cut_29 : decode cX4_cut 29 = .ok (.invokestatic 145, 3) := by decide +kernel
theorem dX4_cut_32 : decode cX4_cut 32 = .ok (.iconst 1, 1) := by decide +kernel
theorem dX4_cut_33 : decode cX4_cut 33 = .ok (.if_icmp .le 6, 3) := by decide +kernel
theorem dX4_cut_36 : decode cX4_cut 36 = .ok (.ldc 36, 2) := by decide +kernel
theorem dX4_cut_38 : decode cX4_cut 38 = .ok (.ireturn, 1) := by decide +kernel
theorem dX4_cut_39 : decode cX4_cut 39 = .ok (.iconst 0, 1) := by decide +kernel
theorem dX4_cut_40 : decode cX4_cut 40 = .ok (.istore_n 3, 1) := by decide +kernel
theorem dX4_cut_41 : decode cX4_cut 41 = .ok (.iconst 0, 1) := by decide +kernel
theorem dX4_cut_42 : decode cX4_cut 42 = .ok (.istore 4, 2) := by decide +kernel
theorem dX4_cut_44 : decode cX4_cut 44 = .ok (.iload_n 1, 1) := by decide +kernel
theorem dX4_cut_45 : decode cX4_cut 45 = .ok (.istore 5, 2) := by decide +kernel
theorem dX4_cut_47 : decode cX4_cut 47 = .ok (.iload_n 2, 1) := by decide +kernel
theorem dX4_cut_48 : decode cX4_cut 48 = .ok (.istore 6, 2) := by decide +kernel
theorem dX4_cut_50 : decode cX4_cut 50 = .ok (.iload 5, 2) := by decide +kernel
theorem dX4_cut_52 : decode cX4_cut 52 = .ok (.iload 6, 2) := by decide +kernel
theorem dX4_cut_54 : decode cX4_cut 54 = .ok (.if_icmp .eq 50, 3) := by decide +kernel
theorem dX4_cut_57 : decode cX4_cut 57 = .ok (.iload 4, 2) := by decide +kernel
theorem dX4_cut_59 : decode cX4_cut 59 = .ok (.bipush 99, 2) := by decide +kernel
theorem dX4_cut_61 : decode cX4_cut 61 = .ok (.if_icmp .ge 43, 3) := by decide +kernel
theorem dX4_cut_64 : decode cX4_cut 64 = .ok (.iload 5, 2) := by decide +kernel
theorem dX4_cut_66 : decode cX4_cut 66 = .ok (.iload 6, 2) := by decide +kernel
theorem dX4_cut_68 : decode cX4_cut 68 = .ok (.if_icmp .le 19, 3) := by decide +kernel
theorem dX4_cut_71 : decode cX4_cut 71 = .ok (.iload_n 3, 1) := by decide +kernel
theorem dX4_cut_72 : decode cX4_cut 72 = .ok (.iconst 1, 1) := by decide +kernel
theorem dX4_cut_73 : decode cX4_cut 73 = .ok (.ishl, 1) := by decide +kernel
theorem dX4_cut_74 : decode cX4_cut 74 = .ok (.iconst 1, 1) := by decide +kernel
theorem dX4_cut_75 : decode cX4_cut 75 = .ok (.ior, 1) := by decide +kernel
theorem dX4_cut_76 : decode cX4_cut 76 = .ok (.istore_n 3, 1) := by decide +kernel
theorem dX4_cut_77 : decode cX4_cut 77 = .ok (.iload 5, 2) := by decide +kernel
theorem dX4_cut_79 : decode cX4_cut 79 = .ok (.iload 6, 2) := by decide +kernel
theorem dX4_cut_81 : decode cX4_cut 81 = .ok (.isub, 1) := by decide +kernel
theorem dX4_cut_82 : decode cX4_cut 82 = .ok (.istore 5, 2) := by decide +kernel
theorem dX4_cut_84 : decode cX4_cut 84 = .ok (.goto 14, 3) := by decide +kernel
theorem dX4_cut_87 : decode cX4_cut 87 = .ok (.iload_n 3, 1) := by decide +kernel
theorem dX4_cut_88 : decode cX4_cut 88 = .ok (.iconst 1, 1) := by decide +kernel
theorem dX4_cut_89 : decode cX4_cut 89 = .ok (.ishl, 1) := by decide +kernel
theorem dX4_cut_90 : decode cX4_cut 90 = .ok (.istore_n 3, 1) := by decide +kernel
theorem dX4_cut_91 : decode cX4_cut 91 = .ok (.iload 6, 2) := by decide +kernel
theorem dX4_cut_93 : decode cX4_cut 93 = .ok (.iload 5, 2) := by decide +kernel
theorem dX4_cut_95 : decode cX4_cut 95 = .ok (.isub, 1) := by decide +kernel
theorem dX4_cut_96 : decode cX4_cut 96 = .ok (.istore 6, 2) := by decide +kernel
theorem dX4_cut_98 : decode cX4_cut 98 = .ok (.iinc 4 1, 3) := by decide +kernel
theorem dX4_cut_101 : decode cX4_cut 101 = .ok (.goto (-51), 3) := by decide +kernel
theorem dX4_cut_104 : decode cX4_cut 104 = .ok (.aload_n 0, 1) := by decide +kernel
theorem dX4_cut_105 : decode cX4_cut 105 = .ok (.iload_n 3, 1) := by decide +kernel
theorem dX4_cut_106 : decode cX4_cut 106 = .ok (.iload 4, 2) := by decide +kernel
theorem dX4_cut_108 : decode cX4_cut 108 = .ok (.invokevirtual 63, 3) := by decide +kernel
theorem dX4_cut_111 : decode cX4_cut 111 = .ok (.ireturn, 1) := by decide +kernel
theorem dX4_drop_0 : decode cX4_drop 0 = .ok (.aload_n 0, 1) := by decide +kernel
theorem dX4_drop_1 : decode cX4_drop 1 = .ok (.getfield 148, 3) := by decide +kernel
theorem dX4_drop_4 : decode cX4_drop 4 = .ok (.ifCond .gt 6, 3) := by decide +kernel
theorem dX4_drop_7 : decode cX4_drop 7 = .ok (.ldc 56, 2) := by decide +kernel
theorem dX4_drop_9 : decode cX4_drop 9 = .ok (.ireturn, 1) := by decide +kernel
theorem dX4_drop_10 : decode cX4_drop 10 = .ok (.aload_n 0, 1) := by decide +kernel
theorem dX4_drop_11 : decode cX4_drop 11 = .ok (.dup, 1) := by decide +kernel
theorem dX4_drop_12 : decode cX4_drop 12 = .ok (.getfield 148, 3) := by decide +kernel
theorem dX4_drop_15 : decode cX4_drop 15 = .ok (.iconst 1, 1) := by decide +kernel
theorem dX4_drop_16 : decode cX4_drop 16 = .ok (.isub, 1) := by decide +kernel
theorem dX4_drop_17 : decode cX4_drop 17 = .ok (.putfield 148, 3) := by decide +kernel
theorem dX4_drop_20 : decode cX4_drop 20 = .ok (.aload_n 0, 1) := by decide +kernel
theorem dX4_drop_21 : decode cX4_drop 21 = .ok (.getfield 148, 3) := by decide +kernel
theorem dX4_drop_24 : decode cX4_drop 24 = .ok (.ireturn, 1) := by decide +kernel
set_option maxRecDepth 20000 in
theorem ggX4_drawn_X0_run : GoodIn wsX4_drawn wsX0_run := goodIn_rq _ [11, 12, 13, 14, 15, 16, 17, 18, 19, 20, 21, 22, 23, 24, 25, 26, 27, 28, 29, 30, 31, 32, 33, 34, 35, 36, 37, 10, 38, 39, 40, 41, 42, 43, 44, 45, 46, 47, 48, 49, 50, 51, 52, 53, 54, 55, 56, 57, 58, 59, 60, 61, 62, 63, 70, 71, 72, 73, 74, 75, 76, 77, 78, 79, 80, 81, 82] (by decide +kernel) (by decide +kernel)
set_option maxRecDepth 20000 in
theorem gX4_drawn_X0_run : GoodIn wsX4_drawn (wsV RX4 198 RX0 yX0_run wsX0_run) := goodIn_app (goodIn_of _ (by decide +kernel)) ggX4_drawn_X0_run
theorem dX4_drawn_0 : decode cX4_drawn 0 = .ok (.iload_n 1, 1) := by decide +kernel
theorem dX4_drawn_1 : decode cX4_drawn 1 = .ok (.iconst 1, 1) := by decide +kernel
theorem dX4_drawn_2 : decode cX4_drawn 2 = .ok (.if_icmp .lt 22, 3) := by decide +kernel
theorem dX4_drawn_5 : decode cX4_drawn 5 = .ok (.iload_n 1, 1) := by decide +kernel
theorem dX4_drawn_6 : decode cX4_drawn 6 = .ok (.bipush 40, 2) := by decide +kernel
theorem dX4_drawn_8 : decode cX4_drawn 8 = .ok (.if_icmp .gt 16, 3) := by decide +kernel
theorem dX4_drawn_11 : decode cX4_drawn 11 = .ok (.iload_n 2, 1) := by decide +kernel
theorem dX4_drawn_12 : decode cX4_drawn 12 = .ok (.ifCond .lt 12, 3) := by decide +kernel
theorem dX4_drawn_15 : decode cX4_drawn 15 = .ok (.iload_n 3, 1) := by decide +kernel
theorem dX4_drawn_16 : decode cX4_drawn 16 = .ok (.ifCond .lt 8, 3) := by decide +kernel
theorem dX4_drawn_19 : decode cX4_drawn 19 = .ok (.iload_n 3, 1) := by decide +kernel
theorem dX4_drawn_20 : decode cX4_drawn 20 = .ok (.iconst 4, 1) := by decide +kernel
theorem dX4_drawn_21 : decode cX4_drawn 21 = .ok (.if_icmp .lt 6, 3) := by decide +kernel
theorem dX4_drawn_24 : decode cX4_drawn 24 = .ok (.ldc 36, 2) := by decide +kernel
theorem dX4_drawn_26 : decode cX4_drawn 26 = .ok (.ireturn, 1) := by decide +kernel
theorem dX4_drawn_27 : decode cX4_drawn 27 = .ok (.aload_n 0, 1) := by decide +kernel
theorem dX4_drawn_28 : decode cX4_drawn 28 = .ok (.getfield 32, 3) := by decide +kernel
theorem dX4_drawn_31 : decode cX4_drawn 31 = .ok (.iload_n 1, 1) := by decide +kernel
theorem dX4_drawn_32 : decode cX4_drawn 32 = .ok (.iload_n 2, 1) := by decide +kernel
theorem dX4_drawn_33 : decode cX4_drawn 33 = .ok (.invokevirtual 198, 3) := by decide +kernel
theorem dX4_drawn_36 : decode cX4_drawn 36 = .ok (.iload_n 3, 1) := by decide +kernel
theorem dX4_drawn_37 : decode cX4_drawn 37 = .ok (.tableswitch 51 0 2 #[27, 35, 43], 27) := by decide +kernel
theorem dX4_drawn_64 : decode cX4_drawn 64 = .ok (.aload_n 0, 1) := by decide +kernel
theorem dX4_drawn_65 : decode cX4_drawn 65 = .ok (.getfield 32, 3) := by decide +kernel
theorem dX4_drawn_68 : decode cX4_drawn 68 = .ok (.getfield 201, 3) := by decide +kernel
theorem dX4_drawn_71 : decode cX4_drawn 71 = .ok (.ireturn, 1) := by decide +kernel
theorem dX4_drawn_72 : decode cX4_drawn 72 = .ok (.aload_n 0, 1) := by decide +kernel
theorem dX4_drawn_73 : decode cX4_drawn 73 = .ok (.getfield 32, 3) := by decide +kernel
theorem dX4_drawn_76 : decode cX4_drawn 76 = .ok (.getfield 204, 3) := by decide +kernel
theorem dX4_drawn_79 : decode cX4_drawn 79 = .ok (.ireturn, 1) := by decide +kernel
theorem dX4_drawn_80 : decode cX4_drawn 80 = .ok (.aload_n 0, 1) := by decide +kernel
theorem dX4_drawn_81 : decode cX4_drawn 81 = .ok (.getfield 32, 3) := by decide +kernel
theorem dX4_drawn_84 : decode cX4_drawn 84 = .ok (.getfield 207, 3) := by decide +kernel
theorem dX4_drawn_87 : decode cX4_drawn 87 = .ok (.ireturn, 1) := by decide +kernel
theorem dX4_drawn_88 : decode cX4_drawn 88 = .ok (.aload_n 0, 1) := by decide +kernel
theorem dX4_drawn_89 : decode cX4_drawn 89 = .ok (.getfield 32, 3) := by decide +kernel
theorem dX4_drawn_92 : decode cX4_drawn 92 = .ok (.getfield 209, 3) := by decide +kernel
theorem dX4_drawn_95 : decode cX4_drawn 95 = .ok (.l2i, 1) := by decide +kernel
theorem dX4_drawn_96 : decode cX4_drawn 96 = .ok (.ireturn, 1) := by decide +kernel
set_option maxRecDepth 20000 in
theorem ggX4_count_X4_closedRoads : GoodIn wsX4_count wsX4_closedRoads := goodIn_rq _ [13, 1, 14, 15, 16, 12, 17, 18, 19, 20, 21, 22, 23, 24, 25, 26, 27, 28, 29, 56, 57, 58, 59, 60, 61, 73, 74, 75, 76, 77, 78, 79] (by decide +kernel) (by decide +kernel)
set_option maxRecDepth 20000 in
theorem gX4_count_X4_closedRoads : GoodIn wsX4_count (wsV RX4 213 RX4 yX4_closedRoads wsX4_closedRoads) := goodIn_app (goodIn_of _ (by decide +kernel)) ggX4_count_X4_closedRoads
set_option maxRecDepth 20000 in
theorem ggX4_count_X4_roadClasses : GoodIn wsX4_count wsX4_roadClasses := goodIn_rq _ [33, 1, 34, 35, 36, 12, 37, 38, 39, 40, 41, 42, 43, 44, 45, 18, 19, 20, 21, 22, 46, 47, 48, 26, 49, 50, 51, 52, 53, 54, 55, 28, 29, 56, 57, 58, 59, 60, 61, 73, 74, 75, 76, 77, 78, 79] (by decide +kernel) (by decide +kernel)
set_option maxRecDepth 20000 in
theorem gX4_count_X4_roadClasses : GoodIn wsX4_count (wsV RX4 216 RX4 yX4_roadClasses wsX4_roadClasses) := goodIn_app (goodIn_of _ (by decide +kernel)) ggX4_count_X4_roadClasses
theorem dX4_count_0 : decode cX4_count 0 = .ok (.iload_n 1, 1) := by decide +kernel
theorem dX4_count_1 : decode cX4_count 1 = .ok (.tableswitch 87 0 6 #[43, 48, 53, 58, 66, 71, 79], 43) := by decide +kernel
theorem dX4_count_44 : decode cX4_count 44 = .ok (.aload_n 0, 1) := by decide +kernel
theorem dX4_count_45 : decode cX4_count 45 = .ok (.getfield 148, 3) := by decide +kernel
theorem dX4_count_48 : decode cX4_count 48 = .ok (.ireturn, 1) := by decide +kernel
theorem dX4_count_49 : decode cX4_count 49 = .ok (.aload_n 0, 1) := by decide +kernel
theorem dX4_count_50 : decode cX4_count 50 = .ok (.invokevirtual 213, 3) := by decide +kernel
theorem dX4_count_53 : decode cX4_count 53 = .ok (.ireturn, 1) := by decide +kernel
theorem dX4_count_54 : decode cX4_count 54 = .ok (.aload_n 0, 1) := by decide +kernel
theorem dX4_count_55 : decode cX4_count 55 = .ok (.invokevirtual 216, 3) := by decide +kernel
theorem dX4_count_58 : decode cX4_count 58 = .ok (.ireturn, 1) := by decide +kernel
theorem dX4_count_59 : decode cX4_count 59 = .ok (.aload_n 0, 1) := by decide +kernel
theorem dX4_count_60 : decode cX4_count 60 = .ok (.getfield 10, 3) := by decide +kernel
theorem dX4_count_63 : decode cX4_count 63 = .ok (.getfield 37, 3) := by decide +kernel
theorem dX4_count_66 : decode cX4_count 66 = .ok (.ireturn, 1) := by decide +kernel
theorem dX4_count_67 : decode cX4_count 67 = .ok (.aload_n 0, 1) := by decide +kernel
theorem dX4_count_68 : decode cX4_count 68 = .ok (.getfield 67, 3) := by decide +kernel
theorem dX4_count_71 : decode cX4_count 71 = .ok (.ireturn, 1) := by decide +kernel
theorem dX4_count_72 : decode cX4_count 72 = .ok (.aload_n 0, 1) := by decide +kernel
theorem dX4_count_73 : decode cX4_count 73 = .ok (.getfield 25, 3) := by decide +kernel
theorem dX4_count_76 : decode cX4_count 76 = .ok (.getfield 156, 3) := by decide +kernel
theorem dX4_count_79 : decode cX4_count 79 = .ok (.ireturn, 1) := by decide +kernel
theorem dX4_count_80 : decode cX4_count 80 = .ok (.aload_n 0, 1) := by decide +kernel
theorem dX4_count_81 : decode cX4_count 81 = .ok (.getfield 25, 3) := by decide +kernel
theorem dX4_count_84 : decode cX4_count 84 = .ok (.getfield 219, 3) := by decide +kernel
theorem dX4_count_87 : decode cX4_count 87 = .ok (.ireturn, 1) := by decide +kernel
theorem dX4_count_88 : decode cX4_count 88 = .ok (.ldc 36, 2) := by decide +kernel
theorem dX4_count_90 : decode cX4_count 90 = .ok (.ireturn, 1) := by decide +kernel
theorem dX4_roadAt_0 : decode cX4_roadAt 0 = .ok (.iload_n 1, 1) := by decide +kernel
theorem dX4_roadAt_1 : decode cX4_roadAt 1 = .ok (.ifCond .lt 29, 3) := by decide +kernel
theorem dX4_roadAt_4 : decode cX4_roadAt 4 = .ok (.iload_n 1, 1) := by decide +kernel
theorem dX4_roadAt_5 : decode cX4_roadAt 5 = .ok (.aload_n 0, 1) := by decide +kernel
theorem dX4_roadAt_6 : decode cX4_roadAt 6 = .ok (.getfield 148, 3) := by decide +kernel
theorem dX4_roadAt_9 : decode cX4_roadAt 9 = .ok (.if_icmp .ge 21, 3) := by decide +kernel
theorem dX4_roadAt_12 : decode cX4_roadAt 12 = .ok (.iload_n 1, 1) := by decide +kernel
theorem dX4_roadAt_13 : decode cX4_roadAt 13 = .ok (.aload_n 0, 1) := by decide +kernel
theorem dX4_roadAt_14 : decode cX4_roadAt 14 = .ok (.getfield 18, 3) := by decide +kernel
theorem dX4_roadAt_17 : decode cX4_roadAt 17 = .ok (.arraylength, 1) := by decide +kernel
theorem dX4_roadAt_18 : decode cX4_roadAt 18 = .ok (.if_icmp .ge 12, 3) := by decide +kernel
theorem dX4_roadAt_21 : decode cX4_roadAt 21 = .ok (.aload_n 0, 1) := by decide +kernel
theorem dX4_roadAt_22 : decode cX4_roadAt 22 = .ok (.getfield 18, 3) := by decide +kernel
theorem dX4_roadAt_25 : decode cX4_roadAt 25 = .ok (.iload_n 1, 1) := by decide +kernel
theorem dX4_roadAt_26 : decode cX4_roadAt 26 = .ok (.aaload, 1) := by decide +kernel
theorem dX4_roadAt_27 : decode cX4_roadAt 27 = .ok (.goto 4, 3) := by decide +kernel
theorem dX4_roadAt_30 : decode cX4_roadAt 30 = .ok (.aconst_null, 1) := by decide +kernel
theorem dX4_roadAt_31 : decode cX4_roadAt 31 = .ok (.areturn, 1) := by decide +kernel
set_option maxRecDepth 20000 in
theorem ggX4_addRoad_X3_init : GoodIn wsX4_addRoad wsX3_init := goodIn_rq _ [10, 11, 12, 13, 14, 15, 16, 7, 17, 18, 19, 20, 21, 22, 23, 24, 25, 26, 27, 28, 35, 36, 37, 38, 39, 40, 41] (by decide +kernel) (by decide +kernel)
set_option maxRecDepth 20000 in
theorem gX4_addRoad_X3_init : GoodIn wsX4_addRoad (wsX3_init) := ggX4_addRoad_X3_init
theorem dX4_addRoad_0 : decode cX4_addRoad 0 = .ok (.iload_n 2, 1) := by decide +kernel
theorem dX4_addRoad_1 : decode cX4_addRoad 1 = .ok (.bipush 20, 2) := by decide +kernel
theorem dX4_addRoad_3 : decode cX4_addRoad 3 = .ok (.if_icmp .le 6, 3) := by decide +kernel
theorem dX4_addRoad_6 : decode cX4_addRoad 6 = .ok (.ldc 56, 2) := by decide +kernel
theorem dX4_addRoad_8 : decode cX4_addRoad 8 = .ok (.ireturn, 1) := by decide +kernel
theorem dX4_addRoad_9 : decode cX4_addRoad 9 = .ok (.aload_n 0, 1) := by decide +kernel
theorem dX4_addRoad_10 : decode cX4_addRoad 10 = .ok (.getfield 148, 3) := by decide +kernel
theorem dX4_addRoad_13 : decode cX4_addRoad 13 = .ok (.ifCond .lt 15, 3) := by decide +kernel
theorem dX4_addRoad_16 : decode cX4_addRoad 16 = .ok (.aload_n 0, 1) := by decide +kernel
theorem dX4_addRoad_17 : decode cX4_addRoad 17 = .ok (.getfield 148, 3) := by decide +kernel
theorem dX4_addRoad_20 : decode cX4_addRoad 20 = .ok (.aload_n 0, 1) := by decide +kernel
theorem dX4_addRoad_21 : decode cX4_addRoad 21 = .ok (.getfield 18, 3) := by decide +kernel
theorem dX4_addRoad_24 : decode cX4_addRoad 24 = .ok (.arraylength, 1) := by decide +kernel
theorem dX4_addRoad_25 : decode cX4_addRoad 25 = .ok (.if_icmp .lt 6, 3) := by decide +kernel
theorem dX4_addRoad_28 : decode cX4_addRoad 28 = .ok (.ldc 41, 2) := by decide +kernel
theorem dX4_addRoad_30 : decode cX4_addRoad 30 = .ok (.ireturn, 1) := by decide +kernel
theorem dX4_addRoad_31 : decode cX4_addRoad 31 = .ok (.aload_n 0, 1) := by decide +kernel
theorem dX4_addRoad_32 : decode cX4_addRoad 32 = .ok (.getfield 148, 3) := by decide +kernel
theorem dX4_addRoad_35 : decode cX4_addRoad 35 = .ok (.istore_n 3, 1) := by decide +kernel
theorem dX4_addRoad_36 : decode cX4_addRoad 36 = .ok (.aload_n 0, 1) := by decide +kernel
theorem dX4_addRoad_37 : decode cX4_addRoad 37 = .ok (.getfield 18, 3) := by decide +kernel
theorem dX4_addRoad_40 : decode cX4_addRoad 40 = .ok (.iload_n 3, 1) := by decide +kernel
theorem dX4_addRoad_41 : decode cX4_addRoad 41 = .ok (.new 16, 3) := by decide +kernel
theorem dX4_addRoad_44 : decode cX4_addRoad 44 = .ok (.dup, 1) := by decide +kernel
theorem dX4_addRoad_45 : decode cX4_addRoad 45 = .ok (.iload_n 1, 1) := by decide +kernel
theorem dX4_addRoad_46 : decode cX4_addRoad 46 = .ok (.iload_n 2, 1) := by decide +kernel
theorem dX4_addRoad_47 : decode cX4_addRoad 47 = .ok (.invokespecial 282, 3) := by decide +kernel
theorem dX4_addRoad_50 : decode cX4_addRoad 50 = .ok (.aastore, 1) := by decide +kernel
theorem dX4_addRoad_51 : decode cX4_addRoad 51 = .ok (.aload_n 0, 1) := by decide +kernel
theorem dX4_addRoad_52 : decode cX4_addRoad 52 = .ok (.dup, 1) := by decide +kernel
theorem dX4_addRoad_53 : decode cX4_addRoad 53 = .ok (.getfield 148, 3) := by decide +kernel
theorem dX4_addRoad_56 : decode cX4_addRoad 56 = .ok (.iconst 1, 1) := by decide +kernel
theorem dX4_addRoad_57 : decode cX4_addRoad 57 = .ok (.iadd, 1) := by decide +kernel
theorem dX4_addRoad_58 : decode cX4_addRoad 58 = .ok (.putfield 148, 3) := by decide +kernel
theorem dX4_addRoad_61 : decode cX4_addRoad 61 = .ok (.iload_n 3, 1) := by decide +kernel
theorem dX4_addRoad_62 : decode cX4_addRoad 62 = .ok (.ireturn, 1) := by decide +kernel
set_option maxRecDepth 20000 in
theorem ggX4_isClosedRoad_X4_roadAt : GoodIn wsX4_isClosedRoad wsX4_roadAt := goodIn_rq _ [5, 6, 7, 15, 16, 17, 18, 19, 20] (by decide +kernel) (by decide +kernel)
set_option maxRecDepth 20000 in
theorem gX4_isClosedRoad_X4_roadAt : GoodIn wsX4_isClosedRoad (wsV RX4 70 RX4 yX4_roadAt wsX4_roadAt) := goodIn_app (goodIn_of _ (by decide +kernel)) ggX4_isClosedRoad_X4_roadAt
set_option maxRecDepth 20000 in
theorem ggX4_isClosedRoad_X3_isClosed : GoodIn wsX4_isClosedRoad wsX3_isClosed := goodIn_rq _ [12, 13, 14, 21, 22, 23, 24, 25, 26, 27] (by decide +kernel) (by decide +kernel)
set_option maxRecDepth 20000 in
theorem gX4_isClosedRoad_X3_isClosed : GoodIn wsX4_isClosedRoad (wsV RX4 93 RX3 yX3_isClosed wsX3_isClosed) := goodIn_app (goodIn_of _ (by decide +kernel)) ggX4_isClosedRoad_X3_isClosed
theorem dX4_isClosedRoad_0 : decode cX4_isClosedRoad 0 = .ok (.aload_n 0, 1) := by decide +kernel
theorem dX4_isClosedRoad_1 : decode cX4_isClosedRoad 1 = .ok (.iload_n 1, 1) := by decide +kernel
theorem dX4_isClosedRoad_2 : decode cX4_isClosedRoad 2 = .ok (.invokevirtual 70, 3) := by decide +kernel
theorem dX4_isClosedRoad_5 : decode cX4_isClosedRoad 5 = .ok (.astore_n 2, 1) := by decide +kernel
theorem dX4_isClosedRoad_6 : decode cX4_isClosedRoad 6 = .ok (.aload_n 2, 1) := by decide +kernel
theorem dX4_isClosedRoad_7 : decode cX4_isClosedRoad 7 = .ok (.ifnull 14, 3) := by decide +kernel
theorem dX4_isClosedRoad_10 : decode cX4_isClosedRoad 10 = .ok (.aload_n 2, 1) := by decide +kernel
theorem dX4_isClosedRoad_11 : decode cX4_isClosedRoad 11 = .ok (.invokevirtual 93, 3) := by decide +kernel
theorem dX4_isClosedRoad_14 : decode cX4_isClosedRoad 14 = .ok (.ifCond .eq 7, 3) := by decide +kernel
theorem dX4_isClosedRoad_17 : decode cX4_isClosedRoad 17 = .ok (.iconst 1, 1) := by decide +kernel
theorem dX4_isClosedRoad_18 : decode cX4_isClosedRoad 18 = .ok (.goto 4, 3) := by decide +kernel
theorem dX4_isClosedRoad_21 : decode cX4_isClosedRoad 21 = .ok (.iconst 0, 1) := by decide +kernel
theorem dX4_isClosedRoad_22 : decode cX4_isClosedRoad 22 = .ok (.ireturn, 1) := by decide +kernel
set_option maxRecDepth 20000 in
theorem ggX4_closedRoads_X4_isClosedRoad : GoodIn wsX4_closedRoads wsX4_isClosedRoad := goodIn_rq _ [6, 7, 8, 9, 5, 10, 1, 11, 12, 13, 14, 15, 16, 17, 18, 19, 20, 21, 22, 23, 24, 25, 26, 27, 28, 29, 30, 31] (by decide +kernel) (by decide +kernel)
set_option maxRecDepth 20000 in
theorem gX4_closedRoads_X4_isClosedRoad : GoodIn wsX4_closedRoads (wsV RX4 262 RX4 yX4_isClosedRoad wsX4_isClosedRoad) := goodIn_app (goodIn_of _ (by decide +kernel)) ggX4_closedRoads_X4_isClosedRoad
theorem dX4_closedRoads_0 : decode cX4_closedRoads 0 = .ok (.iconst 0, 1) := by decide +kernel
theorem dX4_closedRoads_1 : decode cX4_closedRoads 1 = .ok (.istore_n 1, 1) := by decide +kernel
theorem dX4_closedRoads_2 : decode cX4_closedRoads 2 = .ok (.iconst 0, 1) := by decide +kernel
theorem dX4_closedRoads_3 : decode cX4_closedRoads 3 = .ok (.istore_n 2, 1) := by decide +kernel
theorem dX4_closedRoads_4 : decode cX4_closedRoads 4 = .ok (.iload_n 2, 1) := by decide +kernel
theorem dX4_closedRoads_5 : decode cX4_closedRoads 5 = .ok (.aload_n 0, 1) := by decide +kernel
theorem dX4_closedRoads_6 : decode cX4_closedRoads 6 = .ok (.getfield 148, 3) := by decide +kernel
theorem dX4_closedRoads_9 : decode cX4_closedRoads 9 = .ok (.if_icmp .ge 20, 3) := by decide +kernel
theorem dX4_closedRoads_12 : decode cX4_closedRoads 12 = .ok (.aload_n 0, 1) := by decide +kernel
theorem dX4_closedRoads_13 : decode cX4_closedRoads 13 = .ok (.iload_n 2, 1) := by decide +kernel
theorem dX4_closedRoads_14 : decode cX4_closedRoads 14 = .ok (.invokevirtual 262, 3) := by decide +kernel
theorem dX4_closedRoads_17 : decode cX4_closedRoads 17 = .ok (.ifCond .eq 6, 3) := by decide +kernel
theorem dX4_closedRoads_20 : decode cX4_closedRoads 20 = .ok (.iinc 1 1, 3) := by decide +kernel
theorem dX4_closedRoads_23 : decode cX4_closedRoads 23 = .ok (.iinc 2 1, 3) := by decide +kernel
theorem dX4_closedRoads_26 : decode cX4_closedRoads 26 = .ok (.goto (-22), 3) := by decide +kernel
theorem dX4_closedRoads_29 : decode cX4_closedRoads 29 = .ok (.iload_n 1, 1) := by decide +kernel
theorem dX4_closedRoads_30 : decode cX4_closedRoads 30 = .ok (.ireturn, 1) := by decide +kernel
set_option maxRecDepth 20000 in
theorem ggX4_roadClasses_X4_isFirstOfClass : GoodIn wsX4_roadClasses wsX4_isFirstOfClass := goodIn_rq _ [6, 7, 8, 9, 5, 10, 11, 12, 13, 14, 15, 16, 17, 18, 1, 19, 20, 21, 22, 23, 24, 25, 26, 27, 28, 29, 30, 31, 32, 39, 40, 41, 42, 43, 44, 45, 33, 34, 35, 36, 37, 38] (by decide +kernel) (by decide +kernel)
set_option maxRecDepth 20000 in
theorem gX4_roadClasses_X4_isFirstOfClass : GoodIn wsX4_roadClasses (wsV RX4 284 RX4 yX4_isFirstOfClass wsX4_isFirstOfClass) := goodIn_app (goodIn_of _ (by decide +kernel)) ggX4_roadClasses_X4_isFirstOfClass
theorem dX4_roadClasses_0 : decode cX4_roadClasses 0 = .ok (.iconst 0, 1) := by decide +kernel
theorem dX4_roadClasses_1 : decode cX4_roadClasses 1 = .ok (.istore_n 1, 1) := by decide +kernel
theorem dX4_roadClasses_2 : decode cX4_roadClasses 2 = .ok (.iconst 0, 1) := by decide +kernel
theorem dX4_roadClasses_3 : decode cX4_roadClasses 3 = .ok (.istore_n 2, 1) := by decide +kernel
theorem dX4_roadClasses_4 : decode cX4_roadClasses 4 = .ok (.iload_n 2, 1) := by decide +kernel
theorem dX4_roadClasses_5 : decode cX4_roadClasses 5 = .ok (.aload_n 0, 1) := by decide +kernel
theorem dX4_roadClasses_6 : decode cX4_roadClasses 6 = .ok (.getfield 148, 3) := by decide +kernel
theorem dX4_roadClasses_9 : decode cX4_roadClasses 9 = .ok (.if_icmp .ge 20, 3) := by decide +kernel
theorem dX4_roadClasses_12 : decode cX4_roadClasses 12 = .ok (.aload_n 0, 1) := by decide +kernel
theorem dX4_roadClasses_13 : decode cX4_roadClasses 13 = .ok (.iload_n 2, 1) := by decide +kernel
theorem dX4_roadClasses_14 : decode cX4_roadClasses 14 = .ok (.invokevirtual 284, 3) := by decide +kernel
theorem dX4_roadClasses_17 : decode cX4_roadClasses 17 = .ok (.ifCond .eq 6, 3) := by decide +kernel
theorem dX4_roadClasses_20 : decode cX4_roadClasses 20 = .ok (.iinc 1 1, 3) := by decide +kernel
theorem dX4_roadClasses_23 : decode cX4_roadClasses 23 = .ok (.iinc 2 1, 3) := by decide +kernel
theorem dX4_roadClasses_26 : decode cX4_roadClasses 26 = .ok (.goto (-22), 3) := by decide +kernel
theorem dX4_roadClasses_29 : decode cX4_roadClasses 29 = .ok (.iload_n 1, 1) := by decide +kernel
theorem dX4_roadClasses_30 : decode cX4_roadClasses 30 = .ok (.ireturn, 1) := by decide +kernel
set_option maxRecDepth 20000 in
theorem ggX4_isFirstOfClass_X4_alike : GoodIn wsX4_isFirstOfClass wsX4_alike := goodIn_rq _ [5, 6, 7, 8, 9, 10, 11, 12, 4, 13, 14, 15, 16, 17, 18, 19, 20, 21, 22, 23, 24, 25, 26, 27, 28, 29, 30, 31, 32, 33, 34, 35, 36, 37, 38, 39, 40, 41] (by decide +kernel) (by decide +kernel)
set_option maxRecDepth 20000 in
theorem gX4_isFirstOfClass_X4_alike : GoodIn wsX4_isFirstOfClass (wsV RX4 287 RX4 yX4_alike wsX4_alike) := goodIn_app (goodIn_of _ (by decide +kernel)) ggX4_isFirstOfClass_X4_alike
theorem dX4_isFirstOfClass_0 : decode cX4_isFirstOfClass 0 = .ok (.iconst 0, 1) := by decide +kernel
theorem dX4_isFirstOfClass_1 : decode cX4_isFirstOfClass 1 = .ok (.istore_n 2, 1) := by decide +kernel
theorem dX4_isFirstOfClass_2 : decode cX4_isFirstOfClass 2 = .ok (.iload_n 2, 1) := by decide +kernel
theorem dX4_isFirstOfClass_3 : decode cX4_isFirstOfClass 3 = .ok (.iload_n 1, 1) := by decide +kernel
theorem dX4_isFirstOfClass_4 : decode cX4_isFirstOfClass 4 = .ok (.if_icmp .ge 20, 3) := by decide +kernel
theorem dX4_isFirstOfClass_7 : decode cX4_isFirstOfClass 7 = .ok (.aload_n 0, 1) := by decide +kernel
theorem dX4_isFirstOfClass_8 : decode cX4_isFirstOfClass 8 = .ok (.iload_n 2, 1) := by decide +kernel
theorem dX4_isFirstOfClass_9 : decode cX4_isFirstOfClass 9 = .ok (.iload_n 1, 1) := by decide +kernel
theorem dX4_isFirstOfClass_10 : decode cX4_isFirstOfClass 10 = .ok (.invokevirtual 287, 3) := by decide +kernel
theorem dX4_isFirstOfClass_13 : decode cX4_isFirstOfClass 13 = .ok (.ifCond .lt 5, 3) := by decide +kernel
theorem dX4_isFirstOfClass_16 : decode cX4_isFirstOfClass 16 = .ok (.iconst 0, 1) := by decide +kernel
theorem dX4_isFirstOfClass_17 : decode cX4_isFirstOfClass 17 = .ok (.ireturn, 1) := by decide +kernel
theorem dX4_isFirstOfClass_18 : decode cX4_isFirstOfClass 18 = .ok (.iinc 2 1, 3) := by decide +kernel
theorem dX4_isFirstOfClass_21 : decode cX4_isFirstOfClass 21 = .ok (.goto (-19), 3) := by decide +kernel
theorem dX4_isFirstOfClass_24 : decode cX4_isFirstOfClass 24 = .ok (.iconst 1, 1) := by decide +kernel
theorem dX4_isFirstOfClass_25 : decode cX4_isFirstOfClass 25 = .ok (.ireturn, 1) := by decide +kernel
theorem dX4_code_0 : decode cX4_code 0 = .ok (.iload_n 0, 1) := by decide +kernel
theorem dX4_code_1 : decode cX4_code 1 = .ok (.iconst 1, 1) := by decide +kernel
theorem dX4_code_2 : decode cX4_code 2 = .ok (.if_icmp .ne 8, 3) := by decide +kernel
theorem dX4_code_5 : decode cX4_code 5 = .ok (.bipush 82, 2) := by decide +kernel
theorem dX4_code_7 : decode cX4_code 7 = .ok (.goto 5, 3) := by decide +kernel
theorem dX4_code_10 : decode cX4_code 10 = .ok (.bipush 76, 2) := by decide +kernel
theorem dX4_code_12 : decode cX4_code 12 = .ok (.ireturn, 1) := by decide +kernel
theorem dX4_discriminantOf_0 : decode cX4_discriminantOf 0 = .ok (.iload_n 1, 1) := by decide +kernel
theorem dX4_discriminantOf_1 : decode cX4_discriminantOf 1 = .ok (.iload_n 1, 1) := by decide +kernel
theorem dX4_discriminantOf_2 : decode cX4_discriminantOf 2 = .ok (.imul, 1) := by decide +kernel
theorem dX4_discriminantOf_3 : decode cX4_discriminantOf 3 = .ok (.iconst 4, 1) := by decide +kernel
theorem dX4_discriminantOf_4 : decode cX4_discriminantOf 4 = .ok (.iload_n 0, 1) := by decide +kernel
theorem dX4_discriminantOf_5 : decode cX4_discriminantOf 5 = .ok (.imul, 1) := by decide +kernel
theorem dX4_discriminantOf_6 : decode cX4_discriminantOf 6 = .ok (.iload_n 2, 1) := by decide +kernel
theorem dX4_discriminantOf_7 : decode cX4_discriminantOf 7 = .ok (.imul, 1) := by decide +kernel
theorem dX4_discriminantOf_8 : decode cX4_discriminantOf 8 = .ok (.isub, 1) := by decide +kernel
theorem dX4_discriminantOf_9 : decode cX4_discriminantOf 9 = .ok (.ireturn, 1) := by decide +kernel
theorem dX4_commonDivisor_0 : decode cX4_commonDivisor 0 = .ok (.iload_n 0, 1) := by decide +kernel
theorem dX4_commonDivisor_1 : decode cX4_commonDivisor 1 = .ok (.invokestatic 290, 3) := by decide +kernel
theorem dX4_commonDivisor_4 : decode cX4_commonDivisor 4 = .ok (.istore_n 2, 1) := by decide +kernel
theorem dX4_commonDivisor_5 : decode cX4_commonDivisor 5 = .ok (.iload_n 1, 1) := by decide +kernel
theorem dX4_commonDivisor_6 : decode cX4_commonDivisor 6 = .ok (.invokestatic 290, 3) := by decide +kernel
theorem dX4_commonDivisor_9 : decode cX4_commonDivisor 9 = .ok (.istore_n 3, 1) := by decide +kernel
theorem dX4_commonDivisor_10 : decode cX4_commonDivisor 10 = .ok (.iconst 0, 1) := by decide +kernel
theorem dX4_commonDivisor_11 : decode cX4_commonDivisor 11 = .ok (.istore 4, 2) := by decide +kernel
theorem dX4_commonDivisor_13 : decode cX4_commonDivisor 13 = .ok (.iload 4, 2) := by decide +kernel
theorem dX4_commonDivisor_15 : decode cX4_commonDivisor 15 = .ok (.bipush 100, 2) := by decide +kernel
theorem dX4_commonDivisor_17 : decode cX4_commonDivisor 17 = .ok (.if_icmp .ge 23, 3) := by decide +kernel
theorem dX4_commonDivisor_20 : decode cX4_commonDivisor 20 = .ok (.iload_n 3, 1) := by decide +kernel
theorem dX4_commonDivisor_21 : decode cX4_commonDivisor 21 = .ok (.ifCond .le 19, 3) := by decide +kernel
theorem dX4_commonDivisor_24 : decode cX4_commonDivisor 24 = .ok (.iload_n 2, 1) := by decide +kernel
theorem dX4_commonDivisor_25 : decode cX4_commonDivisor 25 = .ok (.iload_n 3, 1) := by decide +kernel
theorem dX4_commonDivisor_26 : decode cX4_commonDivisor 26 = .ok (.irem, 1) := by decide +kernel
theorem dX4_commonDivisor_27 : decode cX4_commonDivisor 27 = .ok (.istore 5, 2) := by decide +kernel
theorem dX4_commonDivisor_29 : decode cX4_commonDivisor 29 = .ok (.iload_n 3, 1) := by decide +kernel
theorem dX4_commonDivisor_30 : decode cX4_commonDivisor 30 = .ok (.istore_n 2, 1) := by decide +kernel
theorem dX4_commonDivisor_31 : decode cX4_commonDivisor 31 = .ok (.iload 5, 2) := by decide +kernel
theorem dX4_commonDivisor_33 : decode cX4_commonDivisor 33 = .ok (.istore_n 3, 1) := by decide +kernel
theorem dX4_commonDivisor_34 : decode cX4_commonDivisor 34 = .ok (.iinc 4 1, 3) := by decide +kernel
theorem dX4_commonDivisor_37 : decode cX4_commonDivisor 37 = .ok (.goto (-24), 3) := by decide +kernel
theorem dX4_commonDivisor_40 : decode cX4_commonDivisor 40 = .ok (.iconst 1, 1) := by decide +kernel
theorem dX4_commonDivisor_41 : decode cX4_commonDivisor 41 = .ok (.iload_n 2, 1) := by decide +kernel
theorem dX4_commonDivisor_42 : decode cX4_commonDivisor 42 = .ok (.invokestatic 295, 3) := by decide +kernel
theorem dX4_commonDivisor_45 : decode cX4_commonDivisor 45 = .ok (.ireturn, 1) := by decide +kernel
theorem dJ6_bitCount_0f7a4_0 : decode cJ6_bitCount_0f7a4 0 = .ok (.iload_n 0, 1) := by decide +kernel
theorem dJ6_bitCount_0f7a4_1 : decode cJ6_bitCount_0f7a4 1 = .ok (.iload_n 0, 1) := by decide +kernel
theorem dJ6_bitCount_0f7a4_2 : decode cJ6_bitCount_0f7a4 2 = .ok (.iconst 1, 1) := by decide +kernel
theorem dJ6_bitCount_0f7a4_3 : decode cJ6_bitCount_0f7a4 3 = .ok (.iushr, 1) := by decide +kernel
theorem dJ6_bitCount_0f7a4_4 : decode cJ6_bitCount_0f7a4 4 = .ok (.ldc_w 265, 3) := by decide +kernel
theorem dJ6_bitCount_0f7a4_7 : decode cJ6_bitCount_0f7a4 7 = .ok (.iand, 1) := by decide +kernel
theorem dJ6_bitCount_0f7a4_8 : decode cJ6_bitCount_0f7a4 8 = .ok (.isub, 1) := by decide +kernel
theorem dJ6_bitCount_0f7a4_9 : decode cJ6_bitCount_0f7a4 9 = .ok (.istore_n 0, 1) := by decide +kernel
theorem dJ6_bitCount_0f7a4_10 : decode cJ6_bitCount_0f7a4 10 = .ok (.iload_n 0, 1) := by decide +kernel
theorem dJ6_bitCount_0f7a4_11 : decode cJ6_bitCount_0f7a4 11 = .ok (.ldc_w 266, 3) := by decide +kernel
theorem dJ6_bitCount_0f7a4_14 : decode cJ6_bitCount_0f7a4 14 = .ok (.iand, 1) := by decide +kernel
theorem dJ6_bitCount_0f7a4_15 : decode cJ6_bitCount_0f7a4 15 = .ok (.iload_n 0, 1) := by decide +kernel
theorem dJ6_bitCount_0f7a4_16 : decode cJ6_bitCount_0f7a4 16 = .ok (.iconst 2, 1) := by decide +kernel
theorem dJ6_bitCount_0f7a4_17 : decode cJ6_bitCount_0f7a4 17 = .ok (.iushr, 1) := by decide +kernel
theorem dJ6_bitCount_0f7a4_18 : decode cJ6_bitCount_0f7a4 18 = .ok (.ldc_w 266, 3) := by decide +kernel
theorem dJ6_bitCount_0f7a4_21 : decode cJ6_bitCount_0f7a4 21 = .ok (.iand, 1) := by decide +kernel
theorem dJ6_bitCount_0f7a4_22 : decode cJ6_bitCount_0f7a4 22 = .ok (.iadd, 1) := by decide +kernel
theorem dJ6_bitCount_0f7a4_23 : decode cJ6_bitCount_0f7a4 23 = .ok (.istore_n 0, 1) := by decide +kernel
theorem dJ6_bitCount_0f7a4_24 : decode cJ6_bitCount_0f7a4 24 = .ok (.iload_n 0, 1) := by decide +kernel
theorem dJ6_bitCount_0f7a4_25 : decode cJ6_bitCount_0f7a4 25 = .ok (.iload_n 0, 1) := by decide +kernel
theorem dJ6_bitCount_0f7a4_26 : decode cJ6_bitCount_0f7a4 26 = .ok (.iconst 4, 1) := by decide +kernel
theorem dJ6_bitCount_0f7a4_27 : decode cJ6_bitCount_0f7a4 27 = .ok (.iushr, 1) := by decide +kernel
theorem dJ6_bitCount_0f7a4_28 : decode cJ6_bitCount_0f7a4 28 = .ok (.iadd, 1) := by decide +kernel
theorem dJ6_bitCount_0f7a4_29 : decode cJ6_bitCount_0f7a4 29 = .ok (.ldc_w 267, 3) := by decide +kernel
theorem dJ6_bitCount_0f7a4_32 : decode cJ6_bitCount_0f7a4 32 = .ok (.iand, 1) := by decide +kernel
theorem dJ6_bitCount_0f7a4_33 : decode cJ6_bitCount_0f7a4 33 = .ok (.istore_n 0, 1) := by decide +kernel
theorem dJ6_bitCount_0f7a4_34 : decode cJ6_bitCount_0f7a4 34 = .ok (.iload_n 0, 1) := by decide +kernel
theorem dJ6_bitCount_0f7a4_35 : decode cJ6_bitCount_0f7a4 35 = .ok (.iload_n 0, 1) := by decide +kernel
theorem dJ6_bitCount_0f7a4_36 : decode cJ6_bitCount_0f7a4 36 = .ok (.bipush 8, 2) := by decide +kernel
theorem dJ6_bitCount_0f7a4_38 : decode cJ6_bitCount_0f7a4 38 = .ok (.iushr, 1) := by decide +kernel
theorem dJ6_bitCount_0f7a4_39 : decode cJ6_bitCount_0f7a4 39 = .ok (.iadd, 1) := by decide +kernel
theorem dJ6_bitCount_0f7a4_40 : decode cJ6_bitCount_0f7a4 40 = .ok (.istore_n 0, 1) := by decide +kernel
theorem dJ6_bitCount_0f7a4_41 : decode cJ6_bitCount_0f7a4 41 = .ok (.iload_n 0, 1) := by decide +kernel
theorem dJ6_bitCount_0f7a4_42 : decode cJ6_bitCount_0f7a4 42 = .ok (.iload_n 0, 1) := by decide +kernel
theorem dJ6_bitCount_0f7a4_43 : decode cJ6_bitCount_0f7a4 43 = .ok (.bipush 16, 2) := by decide +kernel
theorem dJ6_bitCount_0f7a4_45 : decode cJ6_bitCount_0f7a4 45 = .ok (.iushr, 1) := by decide +kernel
theorem dJ6_bitCount_0f7a4_46 : decode cJ6_bitCount_0f7a4 46 = .ok (.iadd, 1) := by decide +kernel
theorem dJ6_bitCount_0f7a4_47 : decode cJ6_bitCount_0f7a4 47 = .ok (.istore_n 0, 1) := by decide +kernel
theorem dJ6_bitCount_0f7a4_48 : decode cJ6_bitCount_0f7a4 48 = .ok (.iload_n 0, 1) := by decide +kernel
theorem dJ6_bitCount_0f7a4_49 : decode cJ6_bitCount_0f7a4 49 = .ok (.bipush 63, 2) := by decide +kernel
theorem dJ6_bitCount_0f7a4_51 : decode cJ6_bitCount_0f7a4 51 = .ok (.iand, 1) := by decide +kernel
theorem dJ6_bitCount_0f7a4_52 : decode cJ6_bitCount_0f7a4 52 = .ok (.ireturn, 1) := by decide +kernel
theorem dJ9_abs_0f7a4_0 : decode cJ9_abs_0f7a4 0 = .ok (.iload_n 0, 1) := by decide +kernel
theorem dJ9_abs_0f7a4_1 : decode cJ9_abs_0f7a4 1 = .ok (.ifCond .ge 8, 3) := by decide +kernel
theorem dJ9_abs_0f7a4_4 : decode cJ9_abs_0f7a4 4 = .ok (.iload_n 0, 1) := by decide +kernel
theorem dJ9_abs_0f7a4_5 : decode cJ9_abs_0f7a4 5 = .ok (.ineg, 1) := by decide +kernel
theorem dJ9_abs_0f7a4_6 : decode cJ9_abs_0f7a4 6 = .ok (.goto 4, 3) := by decide +kernel
theorem dJ9_abs_0f7a4_9 : decode cJ9_abs_0f7a4 9 = .ok (.iload_n 0, 1) := by decide +kernel
theorem dJ9_abs_0f7a4_10 : decode cJ9_abs_0f7a4 10 = .ok (.ireturn, 1) := by decide +kernel
theorem dJ9_max_7cf53_0 : decode cJ9_max_7cf53 0 = .ok (.iload_n 0, 1) := by decide +kernel
theorem dJ9_max_7cf53_1 : decode cJ9_max_7cf53 1 = .ok (.iload_n 1, 1) := by decide +kernel
theorem dJ9_max_7cf53_2 : decode cJ9_max_7cf53 2 = .ok (.if_icmp .lt 7, 3) := by decide +kernel
theorem dJ9_max_7cf53_5 : decode cJ9_max_7cf53 5 = .ok (.iload_n 0, 1) := by decide +kernel
theorem dJ9_max_7cf53_6 : decode cJ9_max_7cf53 6 = .ok (.goto 4, 3) := by decide +kernel
theorem dJ9_max_7cf53_9 : decode cJ9_max_7cf53 9 = .ok (.iload_n 1, 1) := by decide +kernel
theorem dJ9_max_7cf53_10 : decode cJ9_max_7cf53 10 = .ok (.ireturn, 1) := by decide +kernel
theorem dL_cell_0 : decode cL_cell 0 = .ok (.iload_n 1, 1) := by decide +kernel
theorem dL_cell_1 : decode cL_cell 1 = .ok (.aload_n 0, 1) := by decide +kernel
theorem dL_cell_2 : decode cL_cell 2 = .ok (.arraylength, 1) := by decide +kernel
theorem dL_cell_3 : decode cL_cell 3 = .ok (.if_icmp .ge 9, 3) := by decide +kernel
theorem dL_cell_6 : decode cL_cell 6 = .ok (.aload_n 0, 1) := by decide +kernel
theorem dL_cell_7 : decode cL_cell 7 = .ok (.iload_n 1, 1) := by decide +kernel
theorem dL_cell_8 : decode cL_cell 8 = .ok (.iaload, 1) := by decide +kernel
theorem dL_cell_9 : decode cL_cell 9 = .ok (.goto 9, 3) := by decide +kernel
theorem dL_cell_12 : decode cL_cell 12 = .ok (.ldc 7, 2) := by decide +kernel
theorem dL_cell_14 : decode cL_cell 14 = .ok (.iload_n 1, 1) := by decide +kernel
theorem dL_cell_15 : decode cL_cell 15 = .ok (.iconst 1, 1) := by decide +kernel
theorem dL_cell_16 : decode cL_cell 16 = .ok (.iadd, 1) := by decide +kernel
theorem dL_cell_17 : decode cL_cell 17 = .ok (.imul, 1) := by decide +kernel
theorem dL_cell_18 : decode cL_cell 18 = .ok (.ireturn, 1) := by decide +kernel
theorem dL_at_0 : decode cL_at 0 = .ok (.iload_n 0, 1) := by decide +kernel
theorem dL_at_1 : decode cL_at 1 = .ok (.iconst 1, 1) := by decide +kernel
theorem dL_at_2 : decode cL_at 2 = .ok (.iushr, 1) := by decide +kernel
theorem dL_at_3 : decode cL_at 3 = .ok (.iload_n 1, 1) := by decide +kernel
theorem dL_at_4 : decode cL_at 4 = .ok (.irem, 1) := by decide +kernel
theorem dL_at_5 : decode cL_at 5 = .ok (.ireturn, 1) := by decide +kernel
theorem dL_size_0 : decode cL_size 0 = .ok (.iload_n 0, 1) := by decide +kernel
theorem dL_size_1 : decode cL_size 1 = .ok (.bipush 31, 2) := by decide +kernel
theorem dL_size_3 : decode cL_size 3 = .ok (.iand, 1) := by decide +kernel
theorem dL_size_4 : decode cL_size 4 = .ok (.ireturn, 1) := by decide +kernel
theorem dL_bit_0 : decode cL_bit 0 = .ok (.iload_n 0, 1) := by decide +kernel
theorem dL_bit_1 : decode cL_bit 1 = .ok (.iconst 5, 1) := by decide +kernel
theorem dL_bit_2 : decode cL_bit 2 = .ok (.iload_n 1, 1) := by decide +kernel
theorem dL_bit_3 : decode cL_bit 3 = .ok (.iadd, 1) := by decide +kernel
theorem dL_bit_4 : decode cL_bit 4 = .ok (.ishr, 1) := by decide +kernel
theorem dL_bit_5 : decode cL_bit 5 = .ok (.iconst 1, 1) := by decide +kernel
theorem dL_bit_6 : decode cL_bit 6 = .ok (.iand, 1) := by decide +kernel
theorem dL_bit_7 : decode cL_bit 7 = .ok (.ireturn, 1) := by decide +kernel
set_option maxRecDepth 20000 in
theorem ggL_round_L_size : GoodIn wsL_round wsL_size := goodIn_rq _ [4] (by decide +kernel) (by decide +kernel)
set_option maxRecDepth 20000 in
theorem gL_round_L_size : GoodIn wsL_round (va_wsS RL 8 yL_size wsL_size) := goodIn_app (goodIn_of _ (by decide +kernel)) ggL_round_L_size
set_option maxRecDepth 20000 in
theorem ggL_round_L_bit : GoodIn wsL_round wsL_bit := goodIn_rq _ [7] (by decide +kernel) (by decide +kernel)
set_option maxRecDepth 20000 in
theorem gL_round_L_bit : GoodIn wsL_round (va_wsS RL 14 yL_bit wsL_bit) := goodIn_app (goodIn_of _ (by decide +kernel)) ggL_round_L_bit
theorem dL_round_0 : decode cL_round 0 = .ok (.iload_n 0, 1) := by decide +kernel
theorem dL_round_1 : decode cL_round 1 = .ok (.invokestatic 8, 3) := by decide +kernel
theorem dL_round_4 : decode cL_round 4 = .ok (.istore_n 2, 1) := by decide +kernel
theorem dL_round_5 : decode cL_round 5 = .ok (.iload_n 0, 1) := by decide +kernel
theorem dL_round_6 : decode cL_round 6 = .ok (.iload_n 1, 1) := by decide +kernel
theorem dL_round_7 : decode cL_round 7 = .ok (.iload_n 2, 1) := by decide +kernel
theorem dL_round_8 : decode cL_round 8 = .ok (.irem, 1) := by decide +kernel
theorem dL_round_9 : decode cL_round 9 = .ok (.iload_n 2, 1) := by decide +kernel
theorem dL_round_10 : decode cL_round 10 = .ok (.iadd, 1) := by decide +kernel
theorem dL_round_11 : decode cL_round 11 = .ok (.iload_n 2, 1) := by decide +kernel
theorem dL_round_12 : decode cL_round 12 = .ok (.irem, 1) := by decide +kernel
theorem dL_round_13 : decode cL_round 13 = .ok (.invokestatic 14, 3) := by decide +kernel
theorem dL_round_16 : decode cL_round 16 = .ok (.ireturn, 1) := by decide +kernel
set_option maxRecDepth 20000 in
theorem ggL_with_L_size : GoodIn wsL_with wsL_size := goodIn_rq _ [4] (by decide +kernel) (by decide +kernel)
set_option maxRecDepth 20000 in
theorem gL_with_L_size : GoodIn wsL_with (va_wsS RL 8 yL_size wsL_size) := goodIn_app (goodIn_of _ (by decide +kernel)) ggL_with_L_size
theorem dL_with_0 : decode cL_with 0 = .ok (.iload_n 0, 1) := by decide +kernel
theorem dL_with_1 : decode cL_with 1 = .ok (.iconst 1, 1) := by decide +kernel
theorem dL_with_2 : decode cL_with 2 = .ok (.iadd, 1) := by decide +kernel
theorem dL_with_3 : decode cL_with 3 = .ok (.iload_n 1, 1) := by decide +kernel
theorem dL_with_4 : decode cL_with 4 = .ok (.iconst 5, 1) := by decide +kernel
theorem dL_with_5 : decode cL_with 5 = .ok (.iload_n 0, 1) := by decide +kernel
theorem dL_with_6 : decode cL_with 6 = .ok (.invokestatic 8, 3) := by decide +kernel
theorem dL_with_9 : decode cL_with 9 = .ok (.iadd, 1) := by decide +kernel
theorem dL_with_10 : decode cL_with 10 = .ok (.ishl, 1) := by decide +kernel
theorem dL_with_11 : decode cL_with 11 = .ok (.ior, 1) := by decide +kernel
theorem dL_with_12 : decode cL_with 12 = .ok (.ireturn, 1) := by decide +kernel
set_option maxRecDepth 20000 in
theorem ggL_turned_L_size : GoodIn wsL_turned wsL_size := goodIn_rq _ [4] (by decide +kernel) (by decide +kernel)
set_option maxRecDepth 20000 in
theorem gL_turned_L_size : GoodIn wsL_turned (va_wsS RL 8 yL_size wsL_size) := goodIn_app (goodIn_of _ (by decide +kernel)) ggL_turned_L_size
set_option maxRecDepth 20000 in
theorem ggL_turned_L_round : GoodIn wsL_turned wsL_round := goodIn_rq _ [7, 1, 2, 3, 4, 8, 9, 10] (by decide +kernel) (by decide +kernel)
set_option maxRecDepth 20000 in
theorem gL_turned_L_round : GoodIn wsL_turned (va_wsS RL 18 yL_round wsL_round) := goodIn_app (goodIn_of _ (by decide +kernel)) ggL_turned_L_round
set_option maxRecDepth 20000 in
theorem ggL_turned_L_with : GoodIn wsL_turned wsL_with := goodIn_rq _ [13, 1, 2, 3, 4] (by decide +kernel) (by decide +kernel)
set_option maxRecDepth 20000 in
theorem gL_turned_L_with : GoodIn wsL_turned (va_wsS RL 21 yL_with wsL_with) := goodIn_app (goodIn_of _ (by decide +kernel)) ggL_turned_L_with
theorem dL_turned_0 : decode cL_turned 0 = .ok (.iconst 0, 1) := by decide +kernel
theorem dL_turned_1 : decode cL_turned 1 = .ok (.istore_n 2, 1) := by decide +kernel
theorem dL_turned_2 : decode cL_turned 2 = .ok (.iconst 0, 1) := by decide +kernel
theorem dL_turned_3 : decode cL_turned 3 = .ok (.istore_n 3, 1) := by decide +kernel
theorem dL_turned_4 : decode cL_turned 4 = .ok (.iload_n 3, 1) := by decide +kernel
theorem dL_turned_5 : decode cL_turned 5 = .ok (.iload_n 0, 1) := by decide +kernel
theorem dL_turned_6 : decode cL_turned 6 = .ok (.invokestatic 8, 3) := by decide +kernel
theorem dL_turned_9 : decode cL_turned 9 = .ok (.if_icmp .ge 21, 3) := by decide +kernel
theorem dL_turned_12 : decode cL_turned 12 = .ok (.iload_n 2, 1) := by decide +kernel
theorem dL_turned_13 : decode cL_turned 13 = .ok (.iload_n 0, 1) := by decide +kernel
theorem dL_turned_14 : decode cL_turned 14 = .ok (.iload_n 3, 1) := by decide +kernel
theorem dL_turned_15 : decode cL_turned 15 = .ok (.iload_n 1, 1) := by decide +kernel
theorem dL_turned_16 : decode cL_turned 16 = .ok (.iadd, 1) := by decide +kernel
theorem dL_turned_17 : decode cL_turned 17 = .ok (.invokestatic 18, 3) := by decide +kernel
theorem dL_turned_20 : decode cL_turned 20 = .ok (.invokestatic 21, 3) := by decide +kernel
theorem dL_turned_23 : decode cL_turned 23 = .ok (.istore_n 2, 1) := by decide +kernel
theorem dL_turned_24 : decode cL_turned 24 = .ok (.iinc 3 1, 3) := by decide +kernel
theorem dL_turned_27 : decode cL_turned 27 = .ok (.goto (-23), 3) := by decide +kernel
theorem dL_turned_30 : decode cL_turned 30 = .ok (.iload_n 2, 1) := by decide +kernel
theorem dL_turned_31 : decode cL_turned 31 = .ok (.ireturn, 1) := by decide +kernel
