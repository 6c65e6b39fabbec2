theorem dX4_isFirstOfClass_7 : decode cX4_isFirstOfClass 7 = .ok (.aload_n 0, 1) := by decide +kernel
theorem dX4_isFirstOfClass_8 : decode cX4_isFirstOfClass 8 = .ok (.iload_n 2, 1) := by decide +kernel
theorem dX4_isFirstOfClass_9 : decode cX4_isFirstOfClass 9 = .ok (.iload_n 1, 1) := by decide +kernel
theorem dX4_isFirstOfClass_10 : decode cX4_isFirstOfClass 10 = .ok (.invokevirtual 287, 3) := by decide +kernel
theorem dX4_isFirstOfClass_13 : decode cX4_isFirstOfClass 13 = .ok (.ifCond .lt 5, 3) := by decide +kernel
theorem dX4_isFirstOfClass_16 : decode cX4_isFirstOfClass 16 = .ok (.iconst 0, 1) := by decide +kernel
theorem dX4_isFirstOfClass_17 : decode cX4_isFirstOfClass 17 = .ok (.ireturn, 1) := by decide +kernel
theorem dX4_isFirstOfClass_18 : decode cX4_isFirstOfClass 18 = .ok (.iinc 2 1, 3) := by decide +kernel
theorem dX4_isFirstOfClass_21 : decode cX4_isFirstOfClass 21 = .ok (.goto (-19), 3) := by decide +kernel
theorem dX4_isFirstOfClass_24 : decode cX4_isFirstOfClass 24 = .ok (.iconst 1, 1) := by decide +kernel
theorem dX4_isFirstOfClass_25 : decode cX4_isFirstOfClass 25 = .ok (.ireturn, 1) := by decide +kernel
theorem dX4_code_0 : decode cX4_code 0 = .ok (.iload_n 0, 1) := by decide +kernel
theorem dX4_code_1 : decode cX4_code 1 = .ok (.iconst 1, 1) := by decide +kernel
theorem dX4_code_2 : decode cX4_code 2 = .ok (.if_icmp .ne 8, 3) := by decide +kernel
theorem dX4_code_5 : decode cX4_code 5 = .ok (.bipush 82, 2) := by decide +kernel
theorem dX4_code_7 : decode cX4_code 7 = .ok (.goto 5, 3) := by decide +kernel
theorem dX4_code_10 : decode cX4_code 10 = .ok (.bipush 76, 2) := by decide +kernel
theorem dX4_code_12 : decode cX4_code 12 = .ok (.ireturn, 1) := by decide +kernel
theorem dX4_isFlowNumber_0 : decode cX4_isFlowNumber 0 = .ok (.iload_n 0, 1) := by decide +kernel
theorem dX4_isFlowNumber_1 : decode cX4_isFlowNumber 1 = .ok (.sipush (-999), 3) := by decide +kernel
theorem dX4_isFlowNumber_4 : decode cX4_isFlowNumber 4 = .ok (.if_icmp .lt 14, 3) := by decide +kernel
theorem dX4_isFlowNumber_7 : decode cX4_isFlowNumber 7 = .ok (.iload_n 0, 1) := by decide +kernel
theorem dX4_isFlowNumber_8 : decode cX4_isFlowNumber 8 = .ok (.sipush 999, 3) := by decide +kernel
theorem dX4_isFlowNumber_11 : decode cX4_isFlowNumber 11 = .ok (.if_icmp .gt 7, 3) := by decide +kernel
theorem dX4_isFlowNumber_14 : decode cX4_isFlowNumber 14 = .ok (.iconst 1, 1) := by decide +kernel
theorem dX4_isFlowNumber_15 : decode cX4_isFlowNumber 15 = .ok (.goto 4, 3) := by decide +kernel
theorem dX4_isFlowNumber_18 : decode cX4_isFlowNumber 18 = .ok (.iconst 0, 1) := by decide +kernel
theorem dX4_isFlowNumber_19 : decode cX4_isFlowNumber 19 = .ok (.ireturn, 1) := by decide +kernel
theorem dX4_discriminantOf_0 : decode cX4_discriminantOf 0 = .ok (.iload_n 1, 1) := by decide +kernel
theorem dX4_discriminantOf_1 : decode cX4_discriminantOf 1 = .ok (.iload_n 1, 1) := by decide +kernel
theorem dX4_discriminantOf_2 : decode cX4_discriminantOf 2 = .ok (.imul, 1) := by decide +kernel
theorem dX4_discriminantOf_3 : decode cX4_discriminantOf 3 = .ok (.iconst 4, 1) := by decide +kernel
theorem dX4_discriminantOf_4 : decode cX4_discriminantOf 4 = .ok (.iload_n 0, 1) := by decide +kernel
theorem dX4_discriminantOf_5 : decode cX4_discriminantOf 5 = .ok (.imul, 1) := by decide +kernel
theorem dX4_discriminantOf_6 : decode cX4_discriminantOf 6 = .ok (.iload_n 2, 1) := by decide +kernel
theorem dX4_discriminantOf_7 : decode cX4_discriminantOf 7 = .ok (.imul, 1) := by decide +kernel
theorem dX4_discriminantOf_8 : decode cX4_discriminantOf 8 = .ok (.isub, 1) := by decide +kernel
theorem dX4_discriminantOf_9 : decode cX4_discriminantOf 9 = .ok (.ireturn, 1) := by decide +kernel
theorem dX4_isSquare_0 : decode cX4_isSquare 0 = .ok (.iconst 0, 1) := by decide +kernel
theorem dX4_isSquare_1 : decode cX4_isSquare 1 = .ok (.istore_n 1, 1) := by decide +kernel
theorem dX4_isSquare_2 : decode cX4_isSquare 2 = .ok (.iload_n 1, 1) := by decide +kernel
theorem dX4_isSquare_3 : decode cX4_isSquare 3 = .ok (.bipush 30, 2) := by decide +kernel
theorem dX4_isSquare_5 : decode cX4_isSquare 5 = .ok (.if_icmp .gt 18, 3) := by decide +kernel
theorem dX4_isSquare_8 : decode cX4_isSquare 8 = .ok (.iload_n 1, 1) := by decide +kernel
theorem dX4_isSquare_9 : decode cX4_isSquare 9 = .ok (.iload_n 1, 1) := by decide +kernel
theorem dX4_isSquare_10 : decode cX4_isSquare 10 = .ok (.imul, 1) := by decide +kernel
theorem dX4_isSquare_11 : decode cX4_isSquare 11 = .ok (.iload_n 0, 1) := by decide +kernel
theorem dX4_isSquare_12 : decode cX4_isSquare 12 = .ok (.if_icmp .ne 5, 3) := by decide +kernel
theorem dX4_isSquare_15 : decode cX4_isSquare 15 = .ok (.iconst 1, 1) := by decide +kernel
theorem dX4_isSquare_16 : decode cX4_isSquare 16 = .ok (.ireturn, 1) := by decide +kernel
theorem dX4_isSquare_17 : decode cX4_isSquare 17 = .ok (.iinc 1 1, 3) := by decide +kernel
theorem dX4_isSquare_20 : decode cX4_isSquare 20 = .ok (.goto (-18), 3) := by decide +kernel
theorem dX4_isSquare_23 : decode cX4_isSquare 23 = .ok (.iconst 0, 1) := by decide +kernel
theorem dX4_isSquare_24 : decode cX4_isSquare 24 = .ok (.ireturn, 1) := by decide +kernel
theorem dX4_commonDivisor_0 : decode cX4_commonDivisor 0 = .ok (.iload_n 0, 1) := by decide +kernel
theorem dX4_commonDivisor_1 : decode cX4_commonDivisor 1 = .ok (.invokestatic 290, 3) := by decide +kernel
theorem dX4_commonDivisor_4 : decode cX4_commonDivisor 4 = .ok (.istore_n 2, 1) := by decide +kernel
theorem dX4_commonDivisor_5 : decode cX4_commonDivisor 5 = .ok (.iload_n 1, 1) := by decide +kernel
theorem dX4_commonDivisor_6 : decode cX4_commonDivisor 6 = .ok (.invokestatic 290, 3) := by decide +kernel
theorem dX4_commonDivisor_9 : decode cX4_commonDivisor 9 = .ok (.istore_n 3, 1) := by decide +kernel
theorem dX4_commonDivisor_10 : decode cX4_commonDivisor 10 = .ok (.iconst 0, 1) := by decide +kernel
theorem dX4_commonDivisor_11 : decode cX4_commonDivisor 11 = .ok (.istore 4, 2) := by decide +kernel
theorem dX4_commonDivisor_13 : decode cX4_commonDivisor 13 = .ok (.iload 4, 2) := by decide +kernel
theorem dX4_commonDivisor_15 : decode cX4_commonDivisor 15 = .ok (.bipush 100, 2) := by decide +kernel
theorem dX4_commonDivisor_17 : decode cX4_commonDivisor 17 = .ok (.if_icmp .ge 23, 3) := by decide +kernel
theorem dX4_commonDivisor_20 : decode cX4_commonDivisor 20 = .ok (.iload_n 3, 1) := by decide +kernel
theorem dX4_commonDivisor_21 : decode cX4_commonDivisor 21 = .ok (.ifCond .le 19, 3) := by decide +kernel
theorem dX4_commonDivisor_24 : decode cX4_commonDivisor 24 = .ok (.iload_n 2, 1) := by decide +kernel
theorem dX4_commonDivisor_25 : decode cX4_commonDivisor 25 = .ok (.iload_n 3, 1) := by decide +kernel
theorem dX4_commonDivisor_26 : decode cX4_commonDivisor 26 = .ok (.irem, 1) := by decide +kernel
theorem dX4_commonDivisor_27 : decode cX4_commonDivisor 27 = .ok (.istore 5, 2) := by decide +kernel
theorem dX4_commonDivisor_29 : decode cX4_commonDivisor 29 = .ok (.iload_n 3, 1) := by decide +kernel
theorem dX4_commonDivisor_30 : decode cX4_commonDivisor 30 = .ok (.istore_n 2, 1) := by decide +kernel
theorem dX4_commonDivisor_31 : decode cX4_commonDivisor 31 = .ok (.iload 5, 2) := by decide +kernel
theorem dX4_commonDivisor_33 : decode cX4_commonDivisor 33 = .ok (.istore_n 3, 1) := by decide +kernel
theorem dX4_commonDivisor_34 : decode cX4_commonDivisor 34 = .ok (.iinc 4 1, 3) := by decide +kernel
theorem dX4_commonDivisor_37 : decode cX4_commonDivisor 37 = .ok (.goto (-24), 3) := by decide +kernel
theorem dX4_commonDivisor_40 : decode cX4_commonDivisor 40 = .ok (.iconst 1, 1) := by decide +kernel
theorem dX4_commonDivisor_41 : decode cX4_commonDivisor 41 = .ok (.iload_n 2, 1) := by decide +kernel
theorem dX4_commonDivisor_42 : decode cX4_commonDivisor 42 = .ok (.invokestatic 295, 3) := by decide +kernel
theorem dX4_commonDivisor_45 : decode cX4_commonDivisor 45 = .ok (.ireturn, 1) := by decide +kernel
theorem dX5_init_0 : decode cX5_init 0 = .ok (.aload_n 0, 1) := by decide +kernel
theorem dX5_init_1 : decode cX5_init 1 = .ok (.invokespecial 1, 3) := by decide +kernel
theorem dX5_init_4 : decode cX5_init 4 = .ok (.aload_n 0, 1) := by decide +kernel
theorem dX5_init_5 : decode cX5_init 5 = .ok (.bipush 20, 2) := by decide +kernel
theorem dX5_init_7 : decode cX5_init 7 = .ok (.newarray .int, 2) := by decide +kernel
theorem dX5_init_9 : decode cX5_init 9 = .ok (.putfield 7, 3) := by decide +kernel
theorem dX5_init_12 : decode cX5_init 12 = .ok (.aload_n 0, 1) := by decide +kernel
theorem dX5_init_13 : decode cX5_init 13 = .ok (.bipush 6, 2) := by decide +kernel
theorem dX5_init_15 : decode cX5_init 15 = .ok (.newarray .int, 2) := by decide +kernel
theorem dX5_init_17 : decode cX5_init 17 = .ok (.putfield 13, 3) := by decide +kernel
theorem dX5_init_20 : decode cX5_init 20 = .ok (.aload_n 0, 1) := by decide +kernel
theorem dX5_init_21 : decode cX5_init 21 = .ok (.bipush 120, 2) := by decide +kernel
theorem dX5_init_23 : decode cX5_init 23 = .ok (.newarray .int, 2) := by decide +kernel
theorem dX5_init_25 : decode cX5_init 25 = .ok (.putfield 16, 3) := by decide +kernel
theorem dX5_init_28 : decode cX5_init 28 = .ok (.aload_n 0, 1) := by decide +kernel
theorem dX5_init_29 : decode cX5_init 29 = .ok (.sipush 1200, 3) := by decide +kernel
theorem dX5_init_32 : decode cX5_init 32 = .ok (.newarray .int, 2) := by decide +kernel
theorem dX5_init_34 : decode cX5_init 34 = .ok (.putfield 19, 3) := by decide +kernel
theorem dX5_init_37 : decode cX5_init 37 = .ok (.aload_n 0, 1) := by decide +kernel
theorem dX5_init_38 : decode cX5_init 38 = .ok (.sipush 1200, 3) := by decide +kernel
theorem dX5_init_41 : decode cX5_init 41 = .ok (.newarray .int, 2) := by decide +kernel
theorem dX5_init_43 : decode cX5_init 43 = .ok (.putfield 22, 3) := by decide +kernel
theorem dX5_init_46 : decode cX5_init 46 = .ok (.aload_n 0, 1) := by decide +kernel
theorem dX5_init_47 : decode cX5_init 47 = .ok (.sipush 1200, 3) := by decide +kernel
theorem dX5_init_50 : decode cX5_init 50 = .ok (.newarray .int, 2) := by decide +kernel
theorem dX5_init_52 : decode cX5_init 52 = .ok (.putfield 25, 3) := by decide +kernel
theorem dX5_init_55 : decode cX5_init 55 = .ok (.aload_n 0, 1) := by decide +kernel
theorem dX5_init_56 : decode cX5_init 56 = .ok (.sipush 1200, 3) := by decide +kernel
theorem dX5_init_59 : decode cX5_init 59 = .ok (.newarray .int, 2) := by decide +kernel
theorem dX5_init_61 : decode cX5_init 61 = .ok (.putfield 28, 3) := by decide +kernel
theorem dX5_init_64 : decode cX5_init 64 = .ok (.aload_n 0, 1) := by decide +kernel
theorem dX5_init_65 : decode cX5_init 65 = .ok (.sipush 1200, 3) := by decide +kernel
theorem dX5_init_68 : decode cX5_init 68 = .ok (.newarray .int, 2) := by decide +kernel
theorem dX5_init_70 : decode cX5_init 70 = .ok (.putfield 31, 3) := by decide +kernel
theorem dX5_init_73 : decode cX5_init 73 = .ok (.aload_n 0, 1) := by decide +kernel
theorem dX5_init_74 : decode cX5_init 74 = .ok (.sipush 1200, 3) := by decide +kernel
theorem dX5_init_77 : decode cX5_init 77 = .ok (.newarray .int, 2) := by decide +kernel
theorem dX5_init_79 : decode cX5_init 79 = .ok (.putfield 34, 3) := by decide +kernel
theorem dX5_init_82 : decode cX5_init 82 = .ok (.aload_n 0, 1) := by decide +kernel
theorem dX5_init_83 : decode cX5_init 83 = .ok (.bipush 20, 2) := by decide +kernel
theorem dX5_init_85 : decode cX5_init 85 = .ok (.newarray .int, 2) := by decide +kernel
theorem dX5_init_87 : decode cX5_init 87 = .ok (.putfield 37, 3) := by decide +kernel
theorem dX5_init_90 : decode cX5_init 90 = .ok (.aload_n 0, 1) := by decide +kernel
theorem dX5_init_91 : decode cX5_init 91 = .ok (.bipush 20, 2) := by decide +kernel
theorem dX5_init_93 : decode cX5_init 93 = .ok (.newarray .int, 2) := by decide +kernel
theorem dX5_init_95 : decode cX5_init 95 = .ok (.putfield 40, 3) := by decide +kernel
theorem dX5_init_98 : decode cX5_init 98 = .ok (.aload_n 0, 1) := by decide +kernel
theorem dX5_init_99 : decode cX5_init 99 = .ok (.bipush 20, 2) := by decide +kernel
theorem dX5_init_101 : decode cX5_init 101 = .ok (.newarray .int, 2) := by decide +kernel
theorem dX5_init_103 : decode cX5_init 103 = .ok (.putfield 43, 3) := by decide +kernel
theorem dX5_init_106 : decode cX5_init 106 = .ok (.return_, 1) := by decide +kernel
theorem dX5_within_0 : decode cX5_within 0 = .ok (.iload_n 0, 1) := by decide +kernel
theorem dX5_within_1 : decode cX5_within 1 = .ok (.iload_n 1, 1) := by decide +kernel
theorem dX5_within_2 : decode cX5_within 2 = .ok (.if_icmp .lt 12, 3) := by decide +kernel
theorem dX5_within_5 : decode cX5_within 5 = .ok (.iload_n 0, 1) := by decide +kernel
theorem dX5_within_6 : decode cX5_within 6 = .ok (.iload_n 2, 1) := by decide +kernel
theorem dX5_within_7 : decode cX5_within 7 = .ok (.if_icmp .gt 7, 3) := by decide +kernel
theorem dX5_within_10 : decode cX5_within 10 = .ok (.iconst 1, 1) := by decide +kernel
theorem dX5_within_11 : decode cX5_within 11 = .ok (.goto 4, 3) := by decide +kernel
theorem dX5_within_14 : decode cX5_within 14 = .ok (.iconst 0, 1) := by decide +kernel
theorem dX5_within_15 : decode cX5_within 15 = .ok (.ireturn, 1) := by decide +kernel
theorem dX5_abs_0 : decode cX5_abs 0 = .ok (.iload_n 0, 1) := by decide +kernel
theorem dX5_abs_1 : decode cX5_abs 1 = .ok (.ifCond .ge 8, 3) := by decide +kernel
theorem dX5_abs_4 : decode cX5_abs 4 = .ok (.iload_n 0, 1) := by decide +kernel
theorem dX5_abs_5 : decode cX5_abs 5 = .ok (.ineg, 1) := by decide +kernel
theorem dX5_abs_6 : decode cX5_abs 6 = .ok (.goto 4, 3) := by decide +kernel
theorem dX5_abs_9 : decode cX5_abs 9 = .ok (.iload_n 0, 1) := by decide +kernel
theorem dX5_abs_10 : decode cX5_abs 10 = .ok (.ireturn, 1) := by decide +kernel
set_option maxRecDepth 20000 in
theorem ggX5_common_X5_abs : GoodIn wsX5_common wsX5_abs := goodIn_r _ [4] (by decide +kernel) (by decide +kernel)
set_option maxRecDepth 20000 in
theorem gX5_common_X5_abs : GoodIn wsX5_common (va_wsS RX5 46 yX5_abs wsX5_abs) := goodIn_app (goodIn_of _ (by decide +kernel)) ggX5_common_X5_abs
theorem dX5_common_0 : decode cX5_common 0 = .ok (.iload_n 0, 1) := by decide +kernel
theorem dX5_common_1 : decode cX5_common 1 = .ok (.invokestatic 46, 3) := by decide +kernel
theorem dX5_common_4 : decode cX5_common 4 = .ok (.istore_n 2, 1) := by decide +kernel
theorem dX5_common_5 : decode cX5_common 5 = .ok (.iload_n 1, 1) := by decide +kernel
theorem dX5_common_6 : decode cX5_common 6 = .ok (.invokestatic 46, 3) := by decide +kernel
theorem dX5_common_9 : decode cX5_common 9 = .ok (.istore_n 3, 1) := by decide +kernel
theorem dX5_common_10 : decode cX5_common 10 = .ok (.iload_n 3, 1) := by decide +kernel
theorem dX5_common_11 : decode cX5_common 11 = .ok (.ifCond .eq 16, 3) := by decide +kernel
theorem dX5_common_14 : decode cX5_common 14 = .ok (.iload_n 2, 1) := by decide +kernel
theorem dX5_common_15 : decode cX5_common 15 = .ok (.iload_n 3, 1) := by decide +kernel
theorem dX5_common_16 : decode cX5_common 16 = .ok (.irem, 1) := by decide +kernel
theorem dX5_common_17 : decode cX5_common 17 = .ok (.istore 4, 2) := by decide +kernel
theorem dX5_common_19 : decode cX5_common 19 = .ok (.iload_n 3, 1) := by decide +kernel
theorem dX5_common_20 : decode cX5_common 20 = .ok (.istore_n 2, 1) := by decide +kernel
theorem dX5_common_21 : decode cX5_common 21 = .ok (.iload 4, 2) := by decide +kernel
theorem dX5_common_23 : decode cX5_common 23 = .ok (.istore_n 3, 1) := by decide +kernel
theorem dX5_common_24 : decode cX5_common 24 = .ok (.goto (-14), 3) := by decide +kernel
theorem dX5_common_27 : decode cX5_common 27 = .ok (.iload_n 2, 1) := by decide +kernel
theorem dX5_common_28 : decode cX5_common 28 = .ok (.ireturn, 1) := by decide +kernel
set_option maxRecDepth 20000 in
theorem ggX5_letter_X5_within : GoodIn wsX5_letter wsX5_within := goodIn_r _ [8] (by decide +kernel) (by decide +kernel)
set_option maxRecDepth 20000 in
theorem gX5_letter_X5_within : GoodIn wsX5_letter (va_wsS RX5 50 yX5_within wsX5_within) := goodIn_app (goodIn_of _ (by decide +kernel)) ggX5_letter_X5_within
theorem dX5_letter_0 : decode cX5_letter 0 = .ok (.iload_n 1, 1) := by decide +kernel
theorem dX5_letter_1 : decode cX5_letter 1 = .ok (.bipush 32, 2) := by decide +kernel
theorem dX5_letter_3 : decode cX5_letter 3 = .ok (.bipush 126, 2) := by decide +kernel
theorem dX5_letter_5 : decode cX5_letter 5 = .ok (.invokestatic 50, 3) := by decide +kernel
theorem dX5_letter_8 : decode cX5_letter 8 = .ok (.ifCond .ne 6, 3) := by decide +kernel
theorem dX5_letter_11 : decode cX5_letter 11 = .ok (.ldc 54, 2) := by decide +kernel
theorem dX5_letter_13 : decode cX5_letter 13 = .ok (.ireturn, 1) := by decide +kernel
theorem dX5_letter_14 : decode cX5_letter 14 = .ok (.aload_n 0, 1) := by decide +kernel
theorem dX5_letter_15 : decode cX5_letter 15 = .ok (.getfield 55, 3) := by decide +kernel
theorem dX5_letter_18 : decode cX5_letter 18 = .ok (.bipush 20, 2) := by decide +kernel
theorem dX5_letter_20 : decode cX5_letter 20 = .ok (.if_icmp .ne 6, 3) := by decide +kernel
theorem dX5_letter_23 : decode cX5_letter 23 = .ok (.ldc 59, 2) := by decide +kernel
theorem dX5_letter_25 : decode cX5_letter 25 = .ok (.ireturn, 1) := by decide +kernel
theorem dX5_letter_26 : decode cX5_letter 26 = .ok (.aload_n 0, 1) := by decide +kernel
theorem dX5_letter_27 : decode cX5_letter 27 = .ok (.getfield 7, 3) := by decide +kernel
theorem dX5_letter_30 : decode cX5_letter 30 = .ok (.aload_n 0, 1) := by decide +kernel
theorem dX5_letter_31 : decode cX5_letter 31 = .ok (.getfield 55, 3) := by decide +kernel
theorem dX5_letter_34 : decode cX5_letter 34 = .ok (.iload_n 1, 1) := by decide +kernel
theorem dX5_letter_35 : decode cX5_letter 35 = .ok (.iastore, 1) := by decide +kernel
theorem dX5_letter_36 : decode cX5_letter 36 = .ok (.aload_n 0, 1) := by decide +kernel
theorem dX5_letter_37 : decode cX5_letter 37 = .ok (.dup, 1) := by decide +kernel
theorem dX5_letter_38 : decode cX5_letter 38 = .ok (.getfield 55, 3) := by decide +kernel
theorem dX5_letter_41 : decode cX5_letter 41 = .ok (.iconst 1, 1) := by decide +kernel
theorem dX5_letter_42 : decode cX5_letter 42 = .ok (.iadd, 1) := by decide +kernel
theorem dX5_letter_43 : decode cX5_letter 43 = .ok (.putfield 55, 3) := by decide +kernel
theorem dX5_letter_46 : decode cX5_letter 46 = .ok (.aload_n 0, 1) := by decide +kernel
theorem dX5_letter_47 : decode cX5_letter 47 = .ok (.getfield 55, 3) := by decide +kernel
theorem dX5_letter_50 : decode cX5_letter 50 = .ok (.ireturn, 1) := by decide +kernel
theorem dX5_blank_0 : decode cX5_blank 0 = .ok (.aload_n 0, 1) := by decide +kernel
theorem dX5_blank_1 : decode cX5_blank 1 = .ok (.getfield 55, 3) := by decide +kernel
theorem dX5_blank_4 : decode cX5_blank 4 = .ok (.istore_n 1, 1) := by decide +kernel
theorem dX5_blank_5 : decode cX5_blank 5 = .ok (.aload_n 0, 1) := by decide +kernel
theorem dX5_blank_6 : decode cX5_blank 6 = .ok (.iconst 0, 1) := by decide +kernel
theorem dX5_blank_7 : decode cX5_blank 7 = .ok (.putfield 55, 3) := by decide +kernel
theorem dX5_blank_10 : decode cX5_blank 10 = .ok (.iload_n 1, 1) := by decide +kernel
theorem dX5_blank_11 : decode cX5_blank 11 = .ok (.ireturn, 1) := by decide +kernel
set_option maxRecDepth 20000 in
theorem ggX5_takes_X5_within : GoodIn wsX5_takes wsX5_within := goodIn_r _ [7] (by decide +kernel) (by decide +kernel)
set_option maxRecDepth 20000 in
theorem gX5_takes_X5_within : GoodIn wsX5_takes (va_wsS RX5 50 yX5_within wsX5_within) := goodIn_app (goodIn_of _ (by decide +kernel)) ggX5_takes_X5_within
theorem dX5_takes_0 : decode cX5_takes 0 = .ok (.iload_n 1, 1) := by decide +kernel
theorem dX5_takes_1 : decode cX5_takes 1 = .ok (.bipush 76, 2) := by decide +kernel
theorem dX5_takes_3 : decode cX5_takes 3 = .ok (.if_icmp .eq 9, 3) := by decide +kernel
theorem dX5_takes_6 : decode cX5_takes 6 = .ok (.iload_n 1, 1) := by decide +kernel
theorem dX5_takes_7 : decode cX5_takes 7 = .ok (.bipush 82, 2) := by decide +kernel
theorem dX5_takes_9 : decode cX5_takes 9 = .ok (.if_icmp .ne 51, 3) := by decide +kernel
theorem dX5_takes_12 : decode cX5_takes 12 = .ok (.aload_n 0, 1) := by decide +kernel
theorem dX5_takes_13 : decode cX5_takes 13 = .ok (.getfield 60, 3) := by decide +kernel
theorem dX5_takes_16 : decode cX5_takes 16 = .ok (.bipush 20, 2) := by decide +kernel
theorem dX5_takes_18 : decode cX5_takes 18 = .ok (.if_icmp .ne 5, 3) := by decide +kernel
theorem dX5_takes_21 : decode cX5_takes 21 = .ok (.iconst 0, 1) := by decide +kernel
theorem dX5_takes_22 : decode cX5_takes 22 = .ok (.ireturn, 1) := by decide +kernel
theorem dX5_takes_23 : decode cX5_takes 23 = .ok (.aload_n 0, 1) := by decide +kernel
theorem dX5_takes_24 : decode cX5_takes 24 = .ok (.getfield 37, 3) := by decide +kernel
theorem dX5_takes_27 : decode cX5_takes 27 = .ok (.aload_n 0, 1) := by decide +kernel
theorem dX5_takes_28 : decode cX5_takes 28 = .ok (.getfield 60, 3) := by decide +kernel
theorem dX5_takes_31 : decode cX5_takes 31 = .ok (.iload_n 1, 1) := by decide +kernel
theorem dX5_takes_32 : decode cX5_takes 32 = .ok (.bipush 76, 2) := by decide +kernel
theorem dX5_takes_34 : decode cX5_takes 34 = .ok (.if_icmp .ne 7, 3) := by decide +kernel
theorem dX5_takes_37 : decode cX5_takes 37 = .ok (.iconst 0, 1) := by decide +kernel
theorem dX5_takes_38 : decode cX5_takes 38 = .ok (.goto 4, 3) := by decide +kernel
theorem dX5_takes_41 : decode cX5_takes 41 = .ok (.iconst 1, 1) := by decide +kernel
theorem dX5_takes_42 : decode cX5_takes 42 = .ok (.iastore, 1) := by decide +kernel
theorem dX5_takes_43 : decode cX5_takes 43 = .ok (.aload_n 0, 1) := by decide +kernel
theorem dX5_takes_44 : decode cX5_takes 44 = .ok (.dup, 1) := by decide +kernel
theorem dX5_takes_45 : decode cX5_takes 45 = .ok (.getfield 60, 3) := by decide +kernel
theorem dX5_takes_48 : decode cX5_takes 48 = .ok (.iconst 1, 1) := by decide +kernel
theorem dX5_takes_49 : decode cX5_takes 49 = .ok (.iadd, 1) := by decide +kernel
theorem dX5_takes_50 : decode cX5_takes 50 = .ok (.putfield 60, 3) := by decide +kernel
theorem dX5_takes_53 : decode cX5_takes 53 = .ok (.aload_n 0, 1) := by decide +kernel
theorem dX5_takes_54 : decode cX5_takes 54 = .ok (.iconst 1, 1) := by decide +kernel
theorem dX5_takes_55 : decode cX5_takes 55 = .ok (.putfield 63, 3) := by decide +kernel
theorem dX5_takes_58 : decode cX5_takes 58 = .ok (.iconst 1, 1) := by decide +kernel
theorem dX5_takes_59 : decode cX5_takes 59 = .ok (.ireturn, 1) := by decide +kernel
theorem dX5_takes_60 : decode cX5_takes 60 = .ok (.iload_n 1, 1) := by decide +kernel
theorem dX5_takes_61 : decode cX5_takes 61 = .ok (.bipush 49, 2) := by decide +kernel
theorem dX5_takes_63 : decode cX5_takes 63 = .ok (.isub, 1) := by decide +kernel
theorem dX5_takes_64 : decode cX5_takes 64 = .ok (.istore_n 2, 1) := by decide +kernel
theorem dX5_takes_65 : decode cX5_takes 65 = .ok (.aload_n 0, 1) := by decide +kernel
theorem dX5_takes_66 : decode cX5_takes 66 = .ok (.getfield 63, 3) := by decide +kernel
theorem dX5_takes_69 : decode cX5_takes 69 = .ok (.ifCond .eq 24, 3) := by decide +kernel
theorem dX5_takes_72 : decode cX5_takes 72 = .ok (.iload_n 2, 1) := by decide +kernel
theorem dX5_takes_73 : decode cX5_takes 73 = .ok (.iconst 1, 1) := by decide +kernel
theorem dX5_takes_74 : decode cX5_takes 74 = .ok (.bipush 8, 2) := by decide +kernel
theorem dX5_takes_76 : decode cX5_takes 76 = .ok (.invokestatic 50, 3) := by decide +kernel
theorem dX5_takes_79 : decode cX5_takes 79 = .ok (.ifCond .eq 14, 3) := by decide +kernel
theorem dX5_takes_82 : decode cX5_takes 82 = .ok (.aload_n 0, 1) := by decide +kernel
theorem dX5_takes_83 : decode cX5_takes 83 = .ok (.getfield 60, 3) := by decide +kernel
theorem dX5_takes_86 : decode cX5_takes 86 = .ok (.iload_n 2, 1) := by decide +kernel
theorem dX5_takes_87 : decode cX5_takes 87 = .ok (.iadd, 1) := by decide +kernel
theorem dX5_takes_88 : decode cX5_takes 88 = .ok (.bipush 20, 2) := by decide +kernel
theorem dX5_takes_90 : decode cX5_takes 90 = .ok (.if_icmp .le 5, 3) := by decide +kernel
theorem dX5_takes_93 : decode cX5_takes 93 = .ok (.iconst 0, 1) := by decide +kernel
theorem dX5_takes_94 : decode cX5_takes 94 = .ok (.ireturn, 1) := by decide +kernel
theorem dX5_takes_95 : decode cX5_takes 95 = .ok (.iconst 0, 1) := by decide +kernel
theorem dX5_takes_96 : decode cX5_takes 96 = .ok (.istore_n 3, 1) := by decide +kernel
theorem dX5_takes_97 : decode cX5_takes 97 = .ok (.iload_n 3, 1) := by decide +kernel
theorem dX5_takes_98 : decode cX5_takes 98 = .ok (.iload_n 2, 1) := by decide +kernel
theorem dX5_takes_99 : decode cX5_takes 99 = .ok (.if_icmp .ge 39, 3) := by decide +kernel
theorem dX5_takes_102 : decode cX5_takes 102 = .ok (.aload_n 0, 1) := by decide +kernel
theorem dX5_takes_103 : decode cX5_takes 103 = .ok (.getfield 37, 3) := by decide +kernel
theorem dX5_takes_106 : decode cX5_takes 106 = .ok (.aload_n 0, 1) := by decide +kernel
theorem dX5_takes_107 : decode cX5_takes 107 = .ok (.getfield 60, 3) := by decide +kernel
theorem dX5_takes_110 : decode cX5_takes 110 = .ok (.aload_n 0, 1) := by decide +kernel
theorem dX5_takes_111 : decode cX5_takes 111 = .ok (.getfield 37, 3) := by decide +kernel
theorem dX5_takes_114 : decode cX5_takes 114 = .ok (.aload_n 0, 1) := by decide +kernel
theorem dX5_takes_115 : decode cX5_takes 115 = .ok (.getfield 60, 3) := by decide +kernel
theorem dX5_takes_118 : decode cX5_takes 118 = .ok (.iconst 1, 1) := by decide +kernel
theorem dX5_takes_119 : decode cX5_takes 119 = .ok (.isub, 1) := by decide +kernel
theorem dX5_takes_120 : decode cX5_takes 120 = .ok (.iaload, 1) := by decide +kernel
theorem dX5_takes_121 : decode cX5_takes 121 = .ok (.iastore, 1) := by decide +kernel
theorem dX5_takes_122 : decode cX5_takes 122 = .ok (.aload_n 0, 1) := by decide +kernel
theorem dX5_takes_123 : decode cX5_takes 123 = .ok (.dup, 1) := by decide +kernel
theorem dX5_takes_124 : decode cX5_takes 124 = .ok (.getfield 60, 3) := by decide +kernel
theorem dX5_takes_127 : decode cX5_takes 127 = .ok (.iconst 1, 1) := by decide +kernel
theorem dX5_takes_128 : decode cX5_takes 128 = .ok (.iadd, 1) := by decide +kernel
theorem dX5_takes_129 : decode cX5_takes 129 = .ok (.putfield 60, 3) := by decide +kernel
theorem dX5_takes_132 : decode cX5_takes 132 = .ok (.iinc 3 1, 3) := by decide +kernel
theorem dX5_takes_135 : decode cX5_takes 135 = .ok (.goto (-38), 3) := by decide +kernel
theorem dX5_takes_138 : decode cX5_takes 138 = .ok (.aload_n 0, 1) := by decide +kernel
theorem dX5_takes_139 : decode cX5_takes 139 = .ok (.iconst 0, 1) := by decide +kernel
theorem dX5_takes_140 : decode cX5_takes 140 = .ok (.putfield 63, 3) := by decide +kernel
theorem dX5_takes_143 : decode cX5_takes 143 = .ok (.iconst 1, 1) := by decide +kernel
theorem dX5_takes_144 : decode cX5_takes 144 = .ok (.ireturn, 1) := by decide +kernel
set_option maxRecDepth 20000 in
theorem ggX5_read_X5_takes : GoodIn wsX5_read wsX5_takes := goodIn_r _ [9, 1, 10, 2, 11, 12, 8, 13, 14, 15, 16, 17, 18, 19, 20, 21, 22, 23, 24, 25, 26, 27, 28, 29, 30, 31, 32, 33, 34, 35, 36, 37, 38, 39, 40, 41, 42, 43, 44, 45, 46, 47, 48] (by decide +kernel) (by decide +kernel)
set_option maxRecDepth 20000 in
theorem gX5_read_X5_takes : GoodIn wsX5_read (wsV RX5 67 RX5 yX5_takes wsX5_takes) := goodIn_app (goodIn_of _ (by decide +kernel)) ggX5_read_X5_takes
theorem dX5_read_0 : decode cX5_read 0 = .ok (.aload_n 0, 1) := by decide +kernel
theorem dX5_read_1 : decode cX5_read 1 = .ok (.iconst 0, 1) := by decide +kernel
theorem dX5_read_2 : decode cX5_read 2 = .ok (.putfield 60, 3) := by decide +kernel
theorem dX5_read_5 : decode cX5_read 5 = .ok (.aload_n 0, 1) := by decide +kernel
theorem dX5_read_6 : decode cX5_read 6 = .ok (.iconst 0, 1) := by decide +kernel
theorem dX5_read_7 : decode cX5_read 7 = .ok (.putfield 63, 3) := by decide +kernel
theorem dX5_read_10 : decode cX5_read 10 = .ok (.iconst 0, 1) := by decide +kernel
theorem dX5_read_11 : decode cX5_read 11 = .ok (.istore_n 1, 1) := by decide +kernel
theorem dX5_read_12 : decode cX5_read 12 = .ok (.iload_n 1, 1) := by decide +kernel
theorem dX5_read_13 : decode cX5_read 13 = .ok (.aload_n 0, 1) := by decide +kernel
theorem dX5_read_14 : decode cX5_read 14 = .ok (.getfield 55, 3) := by decide +kernel
theorem dX5_read_17 : decode cX5_read 17 = .ok (.if_icmp .ge 22, 3) := by decide +kernel
theorem dX5_read_20 : decode cX5_read 20 = .ok (.aload_n 0, 1) := by decide +kernel
theorem dX5_read_21 : decode cX5_read 21 = .ok (.aload_n 0, 1) := by decide +kernel
theorem dX5_read_22 : decode cX5_read 22 = .ok (.getfield 7, 3) := by decide +kernel
theorem dX5_read_25 : decode cX5_read 25 = .ok (.iload_n 1, 1) := by decide +kernel
theorem dX5_read_26 : decode cX5_read 26 = .ok (.iaload, 1) := by decide +kernel
theorem dX5_read_27 : decode cX5_read 27 = .ok (.invokevirtual 67, 3) := by decide +kernel
theorem dX5_read_30 : decode cX5_read 30 = .ok (.ifCond .eq 9, 3) := by decide +kernel
theorem dX5_read_33 : decode cX5_read 33 = .ok (.iinc 1 1, 3) := by decide +kernel
theorem dX5_read_36 : decode cX5_read 36 = .ok (.goto (-24), 3) := by decide +kernel
theorem dX5_read_39 : decode cX5_read 39 = .ok (.iload_n 1, 1) := by decide +kernel
theorem dX5_read_40 : decode cX5_read 40 = .ok (.ireturn, 1) := by decide +kernel
set_option maxRecDepth 20000 in
theorem ggX5_fault_X5_read : GoodIn wsX5_fault wsX5_read := goodIn_r _ [5, 6, 7, 8, 9, 10, 11, 12, 4, 13, 14, 15, 16, 17, 18, 19, 20, 21, 22, 23, 24, 25, 26, 27, 28, 29, 30, 31, 32, 33, 34, 35, 36, 37, 38, 39, 40, 41, 42, 43, 44, 45, 46, 47, 48, 49, 50, 51, 52] (by decide +kernel) (by decide +kernel)
set_option maxRecDepth 20000 in
theorem gX5_fault_X5_read : GoodIn wsX5_fault (wsV RX5 71 RX5 yX5_read wsX5_read) := goodIn_app (goodIn_of _ (by decide +kernel)) ggX5_fault_X5_read
theorem dX5_fault_0 : decode cX5_fault 0 = .ok (.aload_n 0, 1) := by decide +kernel
theorem dX5_fault_1 : decode cX5_fault 1 = .ok (.invokevirtual 71, 3) := by decide +kernel
theorem dX5_fault_4 : decode cX5_fault 4 = .ok (.ireturn, 1) := by decide +kernel
theorem dX5_keepNew_0 : decode cX5_keepNew 0 = .ok (.aload_n 0, 1) := by decide +kernel
theorem dX5_keepNew_1 : decode cX5_keepNew 1 = .ok (.getfield 13, 3) := by decide +kernel
theorem dX5_keepNew_4 : decode cX5_keepNew 4 = .ok (.aload_n 0, 1) := by decide +kernel
theorem dX5_keepNew_5 : decode cX5_keepNew 5 = .ok (.getfield 75, 3) := by decide +kernel
theorem dX5_keepNew_8 : decode cX5_keepNew 8 = .ok (.aload_n 0, 1) := by decide +kernel
theorem dX5_keepNew_9 : decode cX5_keepNew 9 = .ok (.getfield 60, 3) := by decide +kernel
theorem dX5_keepNew_12 : decode cX5_keepNew 12 = .ok (.iastore, 1) := by decide +kernel
theorem dX5_keepNew_13 : decode cX5_keepNew 13 = .ok (.iconst 0, 1) := by decide +kernel
theorem dX5_keepNew_14 : decode cX5_keepNew 14 = .ok (.istore_n 1, 1) := by decide +kernel
theorem dX5_keepNew_15 : decode cX5_keepNew 15 = .ok (.iload_n 1, 1) := by decide +kernel
theorem dX5_keepNew_16 : decode cX5_keepNew 16 = .ok (.aload_n 0, 1) := by decide +kernel
theorem dX5_keepNew_17 : decode cX5_keepNew 17 = .ok (.getfield 60, 3) := by decide +kernel
theorem dX5_keepNew_20 : decode cX5_keepNew 20 = .ok (.if_icmp .ge 29, 3) := by decide +kernel
theorem dX5_keepNew_23 : decode cX5_keepNew 23 = .ok (.aload_n 0, 1) := by decide +kernel
theorem dX5_keepNew_24 : decode cX5_keepNew 24 = .ok (.getfield 16, 3) := by decide +kernel
theorem dX5_keepNew_27 : decode cX5_keepNew 27 = .ok (.bipush 20, 2) := by decide +kernel
theorem dX5_keepNew_29 : decode cX5_keepNew 29 = .ok (.aload_n 0, 1) := by decide +kernel
theorem dX5_keepNew_30 : decode cX5_keepNew 30 = .ok (.getfield 75, 3) := by decide +kernel
theorem dX5_keepNew_33 : decode cX5_keepNew 33 = .ok (.imul, 1) := by decide +kernel
theorem dX5_keepNew_34 : decode cX5_keepNew 34 = .ok (.iload_n 1, 1) := by decide +kernel
theorem dX5_keepNew_35 : decode cX5_keepNew 35 = .ok (.iadd, 1) := by decide +kernel
theorem dX5_keepNew_36 : decode cX5_keepNew 36 = .ok (.aload_n 0, 1) := by decide +kernel
theorem dX5_keepNew_37 : decode cX5_keepNew 37 = .ok (.getfield 37, 3) := by decide +kernel
theorem dX5_keepNew_40 : decode cX5_keepNew 40 = .ok (.iload_n 1, 1) := by decide +kernel
theorem dX5_keepNew_41 : decode cX5_keepNew 41 = .ok (.iaload, 1) := by decide +kernel
theorem dX5_keepNew_42 : decode cX5_keepNew 42 = .ok (.iastore, 1) := by decide +kernel
theorem dX5_keepNew_43 : decode cX5_keepNew 43 = .ok (.iinc 1 1, 3) := by decide +kernel
theorem dX5_keepNew_46 : decode cX5_keepNew 46 = .ok (.goto (-31), 3) := by decide +kernel
theorem dX5_keepNew_49 : decode cX5_keepNew 49 = .ok (.aload_n 0, 1) := by decide +kernel
theorem dX5_keepNew_50 : decode cX5_keepNew 50 = .ok (.dup, 1) := by decide +kernel
theorem dX5_keepNew_51 : decode cX5_keepNew 51 = .ok (.getfield 75, 3) := by decide +kernel
theorem dX5_keepNew_54 : decode cX5_keepNew 54 = .ok (.iconst 1, 1) := by decide +kernel
theorem dX5_keepNew_55 : decode cX5_keepNew 55 = .ok (.iadd, 1) := by decide +kernel
theorem dX5_keepNew_56 : decode cX5_keepNew 56 = .ok (.putfield 75, 3) := by decide +kernel
theorem dX5_keepNew_59 : decode cX5_keepNew 59 = .ok (.aload_n 0, 1) := by decide +kernel
theorem dX5_keepNew_60 : decode cX5_keepNew 60 = .ok (.getfield 75, 3) := by decide +kernel
theorem dX5_keepNew_63 : decode cX5_keepNew 63 = .ok (.iconst 1, 1) := by decide +kernel
theorem dX5_keepNew_64 : decode cX5_keepNew 64 = .ok (.isub, 1) := by decide +kernel
theorem dX5_keepNew_65 : decode cX5_keepNew 65 = .ok (.ireturn, 1) := by decide +kernel
set_option maxRecDepth 20000 in
theorem ggX5_word_X5_read : GoodIn wsX5_word wsX5_read := goodIn_r _ [11, 2, 12, 1, 13, 14, 15, 16, 10, 17, 18, 19, 20, 21, 28, 29, 30, 31, 32, 33, 34, 35, 36, 37, 38, 39, 40, 41, 42, 43, 44, 45, 46, 47, 48, 49, 50, 51, 52, 53, 54, 55, 56, 57, 58, 59, 60, 61, 62] (by decide +kernel) (by decide +kernel)
set_option maxRecDepth 20000 in
theorem gX5_word_X5_read : GoodIn wsX5_word (wsV RX5 71 RX5 yX5_read wsX5_read) := goodIn_app (goodIn_of _ (by decide +kernel)) ggX5_word_X5_read
set_option maxRecDepth 20000 in
theorem ggX5_word_X5_keepNew : GoodIn wsX5_word wsX5_keepNew := goodIn_r _ [25, 26, 4, 2, 27, 18, 28, 29, 30, 31, 32, 33, 34, 35, 36, 37, 38, 39, 40, 41, 42, 43, 44, 45, 46, 47, 48, 49, 50, 51, 52, 53, 54, 55, 56, 57, 58, 59, 60, 61, 62] (by decide +kernel) (by decide +kernel)
set_option maxRecDepth 20000 in
theorem gX5_word_X5_keepNew : GoodIn wsX5_word (wsV RX5 82 RX5 yX5_keepNew wsX5_keepNew) := goodIn_app (goodIn_of _ (by decide +kernel)) ggX5_word_X5_keepNew
theorem dX5_word_0 : decode cX5_word 0 = .ok (.aload_n 0, 1) := by decide +kernel
theorem dX5_word_1 : decode cX5_word 1 = .ok (.invokevirtual 71, 3) := by decide +kernel
theorem dX5_word_4 : decode cX5_word 4 = .ok (.aload_n 0, 1) := by decide +kernel
theorem dX5_word_5 : decode cX5_word 5 = .ok (.getfield 55, 3) := by decide +kernel
theorem dX5_word_8 : decode cX5_word 8 = .ok (.if_icmp .lt 10, 3) := by decide +kernel
theorem dX5_word_11 : decode cX5_word 11 = .ok (.aload_n 0, 1) := by decide +kernel
theorem dX5_word_12 : decode cX5_word 12 = .ok (.getfield 60, 3) := by decide +kernel
theorem dX5_word_15 : decode cX5_word 15 = .ok (.ifCond .ne 6, 3) := by decide +kernel
theorem dX5_word_18 : decode cX5_word 18 = .ok (.ldc 78, 2) := by decide +kernel
theorem dX5_word_20 : decode cX5_word 20 = .ok (.ireturn, 1) := by decide +kernel
theorem dX5_word_21 : decode cX5_word 21 = .ok (.aload_n 0, 1) := by decide +kernel
theorem dX5_word_22 : decode cX5_word 22 = .ok (.getfield 75, 3) := by decide +kernel
theorem dX5_word_25 : decode cX5_word 25 = .ok (.bipush 6, 2) := by decide +kernel
theorem dX5_word_27 : decode cX5_word 27 = .ok (.if_icmp .ne 6, 3) := by decide +kernel
theorem dX5_word_30 : decode cX5_word 30 = .ok (.ldc 59, 2) := by decide +kernel
theorem dX5_word_32 : decode cX5_word 32 = .ok (.ireturn, 1) := by decide +kernel
theorem dX5_word_33 : decode cX5_word 33 = .ok (.aload_n 0, 1) := by decide +kernel
theorem dX5_word_34 : decode cX5_word 34 = .ok (.dup, 1) := by decide +kernel
theorem dX5_word_35 : decode cX5_word 35 = .ok (.getfield 79, 3) := by decide +kernel
theorem dX5_word_38 : decode cX5_word 38 = .ok (.iconst 1, 1) := by decide +kernel
theorem dX5_word_39 : decode cX5_word 39 = .ok (.iadd, 1) := by decide +kernel
theorem dX5_word_40 : decode cX5_word 40 = .ok (.putfield 79, 3) := by decide +kernel
theorem dX5_word_43 : decode cX5_word 43 = .ok (.aload_n 0, 1) := by decide +kernel
theorem dX5_word_44 : decode cX5_word 44 = .ok (.iconst 0, 1) := by decide +kernel
theorem dX5_word_45 : decode cX5_word 45 = .ok (.putfield 55, 3) := by decide +kernel
theorem dX5_word_48 : decode cX5_word 48 = .ok (.aload_n 0, 1) := by decide +kernel
theorem dX5_word_49 : decode cX5_word 49 = .ok (.invokevirtual 82, 3) := by decide +kernel
theorem dX5_word_52 : decode cX5_word 52 = .ok (.ireturn, 1) := by decide +kernel
theorem dX5_look_0 : decode cX5_look 0 = .ok (.aload_n 0, 1) := by decide +kernel
theorem dX5_look_1 : decode cX5_look 1 = .ok (.aload_n 0, 1) := by decide +kernel
theorem dX5_look_2 : decode cX5_look 2 = .ok (.getfield 13, 3) := by decide +kernel
theorem dX5_look_5 : decode cX5_look 5 = .ok (.iload_n 1, 1) := by decide +kernel
theorem dX5_look_6 : decode cX5_look 6 = .ok (.iaload, 1) := by decide +kernel
theorem dX5_look_7 : decode cX5_look 7 = .ok (.putfield 85, 3) := by decide +kernel
theorem dX5_look_10 : decode cX5_look 10 = .ok (.iconst 0, 1) := by decide +kernel
theorem dX5_look_11 : decode cX5_look 11 = .ok (.istore_n 2, 1) := by decide +kernel
theorem dX5_look_12 : decode cX5_look 12 = .ok (.iload_n 2, 1) := by decide +kernel
theorem dX5_look_13 : decode cX5_look 13 = .ok (.aload_n 0, 1) := by decide +kernel
theorem dX5_look_14 : decode cX5_look 14 = .ok (.getfield 85, 3) := by decide +kernel
theorem dX5_look_17 : decode cX5_look 17 = .ok (.if_icmp .ge 26, 3) := by decide +kernel
theorem dX5_look_20 : decode cX5_look 20 = .ok (.aload_n 0, 1) := by decide +kernel
theorem dX5_look_21 : decode cX5_look 21 = .ok (.getfield 40, 3) := by decide +kernel
theorem dX5_look_24 : decode cX5_look 24 = .ok (.iload_n 2, 1) := by decide +kernel
theorem dX5_look_25 : decode cX5_look 25 = .ok (.aload_n 0, 1) := by decide +kernel
theorem dX5_look_26 : decode cX5_look 26 = .ok (.getfield 16, 3) := by decide +kernel
theorem dX5_look_29 : decode cX5_look 29 = .ok (.bipush 20, 2) := by decide +kernel
theorem dX5_look_31 : decode cX5_look 31 = .ok (.iload_n 1, 1) := by decide +kernel
theorem dX5_look_32 : decode cX5_look 32 = .ok (.imul, 1) := by decide +kernel
theorem dX5_look_33 : decode cX5_look 33 = .ok (.iload_n 2, 1) := by decide +kernel
theorem dX5_look_34 : decode cX5_look 34 = .ok (.iadd, 1) := by decide +kernel
theorem dX5_look_35 : decode cX5_look 35 = .ok (.iaload, 1) := by decide +kernel
theorem dX5_look_36 : decode cX5_look 36 = .ok (.iastore, 1) := by decide +kernel
theorem dX5_look_37 : decode cX5_look 37 = .ok (.iinc 2 1, 3) := by decide +kernel
theorem dX5_look_40 : decode cX5_look 40 = .ok (.goto (-28), 3) := by decide +kernel
theorem dX5_look_43 : decode cX5_look 43 = .ok (.return_, 1) := by decide +kernel
theorem dX5_lefts_0 : decode cX5_lefts 0 = .ok (.iconst 0, 1) := by decide +kernel
theorem dX5_lefts_1 : decode cX5_lefts 1 = .ok (.istore_n 1, 1) := by decide +kernel
theorem dX5_lefts_2 : decode cX5_lefts 2 = .ok (.iconst 0, 1) := by decide +kernel
theorem dX5_lefts_3 : decode cX5_lefts 3 = .ok (.istore_n 2, 1) := by decide +kernel
theorem dX5_lefts_4 : decode cX5_lefts 4 = .ok (.iload_n 2, 1) := by decide +kernel
theorem dX5_lefts_5 : decode cX5_lefts 5 = .ok (.aload_n 0, 1) := by decide +kernel
theorem dX5_lefts_6 : decode cX5_lefts 6 = .ok (.getfield 85, 3) := by decide +kernel
theorem dX5_lefts_9 : decode cX5_lefts 9 = .ok (.if_icmp .ge 26, 3) := by decide +kernel
theorem dX5_lefts_12 : decode cX5_lefts 12 = .ok (.iload_n 1, 1) := by decide +kernel
theorem dX5_lefts_13 : decode cX5_lefts 13 = .ok (.aload_n 0, 1) := by decide +kernel
theorem dX5_lefts_14 : decode cX5_lefts 14 = .ok (.getfield 40, 3) := by decide +kernel
theorem dX5_lefts_17 : decode cX5_lefts 17 = .ok (.iload_n 2, 1) := by decide +kernel
theorem dX5_lefts_18 : decode cX5_lefts 18 = .ok (.iaload, 1) := by decide +kernel
theorem dX5_lefts_19 : decode cX5_lefts 19 = .ok (.ifCond .ne 7, 3) := by decide +kernel
theorem dX5_lefts_22 : decode cX5_lefts 22 = .ok (.iconst 1, 1) := by decide +kernel
theorem dX5_lefts_23 : decode cX5_lefts 23 = .ok (.goto 4, 3) := by decide +kernel
theorem dX5_lefts_26 : decode cX5_lefts 26 = .ok (.iconst 0, 1) := by decide +kernel
theorem dX5_lefts_27 : decode cX5_lefts 27 = .ok (.iadd, 1) := by decide +kernel
theorem dX5_lefts_28 : decode cX5_lefts 28 = .ok (.istore_n 1, 1) := by decide +kernel
theorem dX5_lefts_29 : decode cX5_lefts 29 = .ok (.iinc 2 1, 3) := by decide +kernel
theorem dX5_lefts_32 : decode cX5_lefts 32 = .ok (.goto (-28), 3) := by decide +kernel
theorem dX5_lefts_35 : decode cX5_lefts 35 = .ok (.iload_n 1, 1) := by decide +kernel
theorem dX5_lefts_36 : decode cX5_lefts 36 = .ok (.ireturn, 1) := by decide +kernel
set_option maxRecDepth 20000 in
theorem ggX5_isClosedNow_X5_lefts : GoodIn wsX5_isClosedNow wsX5_lefts := goodIn_r _ [6, 1, 7, 8, 9, 10, 11, 12, 13, 14, 15, 16, 17, 18, 19, 20, 21, 22, 23, 24, 25, 26, 27, 28, 29, 30, 31, 32, 33, 34, 35, 36, 37, 38, 39, 40, 41, 42] (by decide +kernel) (by decide +kernel)
set_option maxRecDepth 20000 in
theorem gX5_isClosedNow_X5_lefts : GoodIn wsX5_isClosedNow (wsV RX5 88 RX5 yX5_lefts wsX5_lefts) := goodIn_app (goodIn_of _ (by decide +kernel)) ggX5_isClosedNow_X5_lefts
theorem dX5_isClosedNow_0 : decode cX5_isClosedNow 0 = .ok (.aload_n 0, 1) := by decide +kernel
theorem dX5_isClosedNow_1 : decode cX5_isClosedNow 1 = .ok (.invokevirtual 88, 3) := by decide +kernel
theorem dX5_isClosedNow_4 : decode cX5_isClosedNow 4 = .ok (.ifCond .le 18, 3) := by decide +kernel
theorem dX5_isClosedNow_7 : decode cX5_isClosedNow 7 = .ok (.aload_n 0, 1) := by decide +kernel
theorem dX5_isClosedNow_8 : decode cX5_isClosedNow 8 = .ok (.invokevirtual 88, 3) := by decide +kernel
theorem dX5_isClosedNow_11 : decode cX5_isClosedNow 11 = .ok (.aload_n 0, 1) := by decide +kernel
theorem dX5_isClosedNow_12 : decode cX5_isClosedNow 12 = .ok (.getfield 85, 3) := by decide +kernel
theorem dX5_isClosedNow_15 : decode cX5_isClosedNow 15 = .ok (.if_icmp .ge 7, 3) := by decide +kernel
theorem dX5_isClosedNow_18 : decode cX5_isClosedNow 18 = .ok (.iconst 1, 1) := by decide +kernel
theorem dX5_isClosedNow_19 : decode cX5_isClosedNow 19 = .ok (.goto 4, 3) := by decide +kernel
theorem dX5_isClosedNow_22 : decode cX5_isClosedNow 22 = .ok (.iconst 0, 1) := by decide +kernel
theorem dX5_isClosedNow_23 : decode cX5_isClosedNow 23 = .ok (.ireturn, 1) := by decide +kernel
set_option maxRecDepth 20000 in
theorem ggX5_isClosed_X5_look : GoodIn wsX5_isClosed wsX5_look := goodIn_r _ [5, 6, 7, 8, 9, 18, 19, 20, 21, 22, 23, 24, 25, 26, 27, 28, 29, 30, 31, 32, 33, 34, 35, 36, 37, 38, 39, 40, 41, 42, 43, 44, 45, 46, 47, 48, 49, 50, 51, 52] (by decide +kernel) (by decide +kernel)
set_option maxRecDepth 20000 in
theorem gX5_isClosed_X5_look : GoodIn wsX5_isClosed (wsV RX5 91 RX5 yX5_look wsX5_look) := goodIn_app (goodIn_of _ (by decide +kernel)) ggX5_isClosed_X5_look
set_option maxRecDepth 20000 in
theorem ggX5_isClosed_X5_isClosedNow : GoodIn wsX5_isClosed wsX5_isClosedNow := goodIn_r _ [13, 7, 14, 15, 16, 4, 17, 8, 18, 19, 20, 21, 22, 23, 24, 25, 26, 27, 28, 29, 30, 31, 32, 33, 34, 35, 36, 37, 38, 39, 40, 41, 42, 43, 44, 45, 46, 47, 48, 49, 50, 51, 52] (by decide +kernel) (by decide +kernel)
set_option maxRecDepth 20000 in
theorem gX5_isClosed_X5_isClosedNow : GoodIn wsX5_isClosed (wsV RX5 95 RX5 yX5_isClosedNow wsX5_isClosedNow) := goodIn_app (goodIn_of _ (by decide +kernel)) ggX5_isClosed_X5_isClosedNow
theorem dX5_isClosed_0 : decode cX5_isClosed 0 = .ok (.aload_n 0, 1) := by decide +kernel
theorem dX5_isClosed_1 : decode cX5_isClosed 1 = .ok (.iload_n 1, 1) := by decide +kernel
theorem dX5_isClosed_2 : decode cX5_isClosed 2 = .ok (.invokevirtual 91, 3) := by decide +kernel
theorem dX5_isClosed_5 : decode cX5_isClosed 5 = .ok (.aload_n 0, 1) := by decide +kernel
theorem dX5_isClosed_6 : decode cX5_isClosed 6 = .ok (.invokevirtual 95, 3) := by decide +kernel
theorem dX5_isClosed_9 : decode cX5_isClosed 9 = .ok (.ireturn, 1) := by decide +kernel
theorem dX5_compareTurns_0 : decode cX5_compareTurns 0 = .ok (.iconst 0, 1) := by decide +kernel
theorem dX5_compareTurns_1 : decode cX5_compareTurns 1 = .ok (.istore_n 3, 1) := by decide +kernel
theorem dX5_compareTurns_2 : decode cX5_compareTurns 2 = .ok (.iload_n 3, 1) := by decide +kernel
theorem dX5_compareTurns_3 : decode cX5_compareTurns 3 = .ok (.aload_n 0, 1) := by decide +kernel
theorem dX5_compareTurns_4 : decode cX5_compareTurns 4 = .ok (.getfield 85, 3) := by decide +kernel
theorem dX5_compareTurns_7 : decode cX5_compareTurns 7 = .ok (.if_icmp .ge 46, 3) := by decide +kernel
theorem dX5_compareTurns_10 : decode cX5_compareTurns 10 = .ok (.aload_n 0, 1) := by decide +kernel
theorem dX5_compareTurns_11 : decode cX5_compareTurns 11 = .ok (.getfield 40, 3) := by decide +kernel
theorem dX5_compareTurns_14 : decode cX5_compareTurns 14 = .ok (.iload_n 1, 1) := by decide +kernel
theorem dX5_compareTurns_15 : decode cX5_compareTurns 15 = .ok (.iload_n 3, 1) := by decide +kernel
theorem dX5_compareTurns_16 : decode cX5_compareTurns 16 = .ok (.iadd, 1) := by decide +kernel
theorem dX5_compareTurns_17 : decode cX5_compareTurns 17 = .ok (.aload_n 0, 1) := by decide +kernel
theorem dX5_compareTurns_18 : decode cX5_compareTurns 18 = .ok (.getfield 85, 3) := by decide +kernel
theorem dX5_compareTurns_21 : decode cX5_compareTurns 21 = .ok (.irem, 1) := by decide +kernel
theorem dX5_compareTurns_22 : decode cX5_compareTurns 22 = .ok (.iaload, 1) := by decide +kernel
theorem dX5_compareTurns_23 : decode cX5_compareTurns 23 = .ok (.aload_n 0, 1) := by decide +kernel
theorem dX5_compareTurns_24 : decode cX5_compareTurns 24 = .ok (.getfield 40, 3) := by decide +kernel
theorem dX5_compareTurns_27 : decode cX5_compareTurns 27 = .ok (.iload_n 2, 1) := by decide +kernel
theorem dX5_compareTurns_28 : decode cX5_compareTurns 28 = .ok (.iload_n 3, 1) := by decide +kernel
theorem dX5_compareTurns_29 : decode cX5_compareTurns 29 = .ok (.iadd, 1) := by decide +kernel
theorem dX5_compareTurns_30 : decode cX5_compareTurns 30 = .ok (.aload_n 0, 1) := by decide +kernel
theorem dX5_compareTurns_31 : decode cX5_compareTurns 31 = .ok (.getfield 85, 3) := by decide +kernel
theorem dX5_compareTurns_34 : decode cX5_compareTurns 34 = .ok (.irem, 1) := by decide +kernel
theorem dX5_compareTurns_35 : decode cX5_compareTurns 35 = .ok (.iaload, 1) := by decide +kernel
theorem dX5_compareTurns_36 : decode cX5_compareTurns 36 = .ok (.isub, 1) := by decide +kernel
theorem dX5_compareTurns_37 : decode cX5_compareTurns 37 = .ok (.istore 4, 2) := by decide +kernel
theorem dX5_compareTurns_39 : decode cX5_compareTurns 39 = .ok (.iload 4, 2) := by decide +kernel
theorem dX5_compareTurns_41 : decode cX5_compareTurns 41 = .ok (.ifCond .eq 6, 3) := by decide +kernel
theorem dX5_compareTurns_44 : decode cX5_compareTurns 44 = .ok (.iload 4, 2) := by decide +kernel
theorem dX5_compareTurns_46 : decode cX5_compareTurns 46 = .ok (.ireturn, 1) := by decide +kernel
theorem dX5_compareTurns_47 : decode cX5_compareTurns 47 = .ok (.iinc 3 1, 3) := by decide +kernel
theorem dX5_compareTurns_50 : decode cX5_compareTurns 50 = .ok (.goto (-48), 3) := by decide +kernel
theorem dX5_compareTurns_53 : decode cX5_compareTurns 53 = .ok (.iconst 0, 1) := by decide +kernel
theorem dX5_compareTurns_54 : decode cX5_compareTurns 54 = .ok (.ireturn, 1) := by decide +kernel
set_option maxRecDepth 20000 in
theorem ggX5_periodNow_X5_compareTurns : GoodIn wsX5_periodNow wsX5_compareTurns := goodIn_r _ [6, 1, 7, 8, 9, 10, 11, 12, 13, 14, 15, 16, 17, 18, 19, 20, 21, 22, 23, 24, 25, 26, 27, 28, 29, 30, 31, 32, 33, 34, 35, 36, 37, 38, 39, 40, 41, 42] (by decide +kernel) (by decide +kernel)
set_option maxRecDepth 20000 in
theorem gX5_periodNow_X5_compareTurns : GoodIn wsX5_periodNow (wsV RX5 99 RX5 yX5_compareTurns wsX5_compareTurns) := goodIn_app (goodIn_of _ (by decide +kernel)) ggX5_periodNow_X5_compareTurns
theorem dX5_periodNow_0 : decode cX5_periodNow 0 = .ok (.iconst 1, 1) := by decide +kernel
theorem dX5_periodNow_1 : decode cX5_periodNow 1 = .ok (.istore_n 1, 1) := by decide +kernel
theorem dX5_periodNow_2 : decode cX5_periodNow 2 = .ok (.aload_n 0, 1) := by decide +kernel
theorem dX5_periodNow_3 : decode cX5_periodNow 3 = .ok (.iload_n 1, 1) := by decide +kernel
theorem dX5_periodNow_4 : decode cX5_periodNow 4 = .ok (.aload_n 0, 1) := by decide +kernel
theorem dX5_periodNow_5 : decode cX5_periodNow 5 = .ok (.getfield 85, 3) := by decide +kernel
theorem dX5_periodNow_8 : decode cX5_periodNow 8 = .ok (.irem, 1) := by decide +kernel
theorem dX5_periodNow_9 : decode cX5_periodNow 9 = .ok (.iconst 0, 1) := by decide +kernel
theorem dX5_periodNow_10 : decode cX5_periodNow 10 = .ok (.invokevirtual 99, 3) := by decide +kernel
theorem dX5_periodNow_13 : decode cX5_periodNow 13 = .ok (.ifCond .eq 9, 3) := by decide +kernel
theorem dX5_periodNow_16 : decode cX5_periodNow 16 = .ok (.iinc 1 1, 3) := by decide +kernel
theorem dX5_periodNow_19 : decode cX5_periodNow 19 = .ok (.goto (-17), 3) := by decide +kernel
theorem dX5_periodNow_22 : decode cX5_periodNow 22 = .ok (.iload_n 1, 1) := by decide +kernel
theorem dX5_periodNow_23 : decode cX5_periodNow 23 = .ok (.ireturn, 1) := by decide +kernel
set_option maxRecDepth 20000 in
theorem ggX5_leastTurnNow_X5_compareTurns : GoodIn wsX5_leastTurnNow wsX5_compareTurns := goodIn_r _ [6, 1, 7, 8, 9, 10, 11, 12, 13, 14, 15, 16, 17, 18, 19, 20, 21, 22, 23, 24, 25, 26, 27, 28, 29, 30, 31, 32, 33, 34, 35, 36, 37, 38, 39, 40, 41, 42] (by decide +kernel) (by decide +kernel)
set_option maxRecDepth 20000 in
theorem gX5_leastTurnNow_X5_compareTurns : GoodIn wsX5_leastTurnNow (wsV RX5 99 RX5 yX5_compareTurns wsX5_compareTurns) := goodIn_app (goodIn_of _ (by decide +kernel)) ggX5_leastTurnNow_X5_compareTurns
theorem dX5_leastTurnNow_0 : decode cX5_leastTurnNow 0 = .ok (.iconst 0, 1) := by decide +kernel
theorem dX5_leastTurnNow_1 : decode cX5_leastTurnNow 1 = .ok (.istore_n 1, 1) := by decide +kernel
theorem dX5_leastTurnNow_2 : decode cX5_leastTurnNow 2 = .ok (.iconst 1, 1) := by decide +kernel
theorem dX5_leastTurnNow_3 : decode cX5_leastTurnNow 3 = .ok (.istore_n 2, 1) := by decide +kernel
theorem dX5_leastTurnNow_4 : decode cX5_leastTurnNow 4 = .ok (.iload_n 2, 1) := by decide +kernel
theorem dX5_leastTurnNow_5 : decode cX5_leastTurnNow 5 = .ok (.aload_n 0, 1) := by decide +kernel
theorem dX5_leastTurnNow_6 : decode cX5_leastTurnNow 6 = .ok (.getfield 85, 3) := by decide +kernel
theorem dX5_leastTurnNow_9 : decode cX5_leastTurnNow 9 = .ok (.if_icmp .ge 24, 3) := by decide +kernel
theorem dX5_leastTurnNow_12 : decode cX5_leastTurnNow 12 = .ok (.aload_n 0, 1) := by decide +kernel
theorem dX5_leastTurnNow_13 : decode cX5_leastTurnNow 13 = .ok (.iload_n 2, 1) := by decide +kernel
theorem dX5_leastTurnNow_14 : decode cX5_leastTurnNow 14 = .ok (.iload_n 1, 1) := by decide +kernel
theorem dX5_leastTurnNow_15 : decode cX5_leastTurnNow 15 = .ok (.invokevirtual 99, 3) := by decide +kernel
theorem dX5_leastTurnNow_18 : decode cX5_leastTurnNow 18 = .ok (.ifCond .ge 7, 3) := by decide +kernel
theorem dX5_leastTurnNow_21 : decode cX5_leastTurnNow 21 = .ok (.iload_n 2, 1) := by decide +kernel
theorem dX5_leastTurnNow_22 : decode cX5_leastTurnNow 22 = .ok (.goto 4, 3) := by decide +kernel
theorem dX5_leastTurnNow_25 : decode cX5_leastTurnNow 25 = .ok (.iload_n 1, 1) := by decide +kernel
theorem dX5_leastTurnNow_26 : decode cX5_leastTurnNow 26 = .ok (.istore_n 1, 1) := by decide +kernel
theorem dX5_leastTurnNow_27 : decode cX5_leastTurnNow 27 = .ok (.iinc 2 1, 3) := by decide +kernel
theorem dX5_leastTurnNow_30 : decode cX5_leastTurnNow 30 = .ok (.goto (-26), 3) := by decide +kernel
theorem dX5_leastTurnNow_33 : decode cX5_leastTurnNow 33 = .ok (.iload_n 1, 1) := by decide +kernel
theorem dX5_leastTurnNow_34 : decode cX5_leastTurnNow 34 = .ok (.ireturn, 1) := by decide +kernel
theorem dX5_turnTo_0 : decode cX5_turnTo 0 = .ok (.iconst 0, 1) := by decide +kernel
theorem dX5_turnTo_1 : decode cX5_turnTo 1 = .ok (.istore_n 1, 1) := by decide +kernel
theorem dX5_turnTo_2 : decode cX5_turnTo 2 = .ok (.iload_n 1, 1) := by decide +kernel
theorem dX5_turnTo_3 : decode cX5_turnTo 3 = .ok (.aload_n 0, 1) := by decide +kernel
theorem dX5_turnTo_4 : decode cX5_turnTo 4 = .ok (.getfield 85, 3) := by decide +kernel
theorem dX5_turnTo_7 : decode cX5_turnTo 7 = .ok (.if_icmp .ge 76, 3) := by decide +kernel
theorem dX5_turnTo_10 : decode cX5_turnTo 10 = .ok (.aload_n 0, 1) := by decide +kernel
theorem dX5_turnTo_11 : decode cX5_turnTo 11 = .ok (.getfield 85, 3) := by decide +kernel
theorem dX5_turnTo_14 : decode cX5_turnTo 14 = .ok (.aload_n 0, 1) := by decide +kernel
theorem dX5_turnTo_15 : decode cX5_turnTo 15 = .ok (.getfield 103, 3) := by decide +kernel
theorem dX5_turnTo_18 : decode cX5_turnTo 18 = .ok (.if_icmp .ne 65, 3) := by decide +kernel
theorem dX5_turnTo_21 : decode cX5_turnTo 21 = .ok (.iconst 1, 1) := by decide +kernel
theorem dX5_turnTo_22 : decode cX5_turnTo 22 = .ok (.istore_n 2, 1) := by decide +kernel
theorem dX5_turnTo_23 : decode cX5_turnTo 23 = .ok (.iconst 0, 1) := by decide +kernel
theorem dX5_turnTo_24 : decode cX5_turnTo 24 = .ok (.istore_n 3, 1) := by decide +kernel
theorem dX5_turnTo_25 : decode cX5_turnTo 25 = .ok (.iload_n 3, 1) := by decide +kernel
theorem dX5_turnTo_26 : decode cX5_turnTo 26 = .ok (.aload_n 0, 1) := by decide +kernel
theorem dX5_turnTo_27 : decode cX5_turnTo 27 = .ok (.getfield 85, 3) := by decide +kernel
theorem dX5_turnTo_30 : decode cX5_turnTo 30 = .ok (.if_icmp .ge 41, 3) := by decide +kernel
theorem dX5_turnTo_33 : decode cX5_turnTo 33 = .ok (.iload_n 2, 1) := by decide +kernel
theorem dX5_turnTo_34 : decode cX5_turnTo 34 = .ok (.ifCond .eq 29, 3) := by decide +kernel
theorem dX5_turnTo_37 : decode cX5_turnTo 37 = .ok (.aload_n 0, 1) := by decide +kernel
theorem dX5_turnTo_38 : decode cX5_turnTo 38 = .ok (.getfield 40, 3) := by decide +kernel
theorem dX5_turnTo_41 : decode cX5_turnTo 41 = .ok (.iload_n 1, 1) := by decide +kernel
theorem dX5_turnTo_42 : decode cX5_turnTo 42 = .ok (.iload_n 3, 1) := by decide +kernel
theorem dX5_turnTo_43 : decode cX5_turnTo 43 = .ok (.iadd, 1) := by decide +kernel
theorem dX5_turnTo_44 : decode cX5_turnTo 44 = .ok (.aload_n 0, 1) := by decide +kernel
theorem dX5_turnTo_45 : decode cX5_turnTo 45 = .ok (.getfield 85, 3) := by decide +kernel
theorem dX5_turnTo_48 : decode cX5_turnTo 48 = .ok (.irem, 1) := by decide +kernel
theorem dX5_turnTo_49 : decode cX5_turnTo 49 = .ok (.iaload, 1) := by decide +kernel
theorem dX5_turnTo_50 : decode cX5_turnTo 50 = .ok (.aload_n 0, 1) := by decide +kernel
theorem dX5_turnTo_51 : decode cX5_turnTo 51 = .ok (.getfield 43, 3) := by decide +kernel
theorem dX5_turnTo_54 : decode cX5_turnTo 54 = .ok (.iload_n 3, 1) := by decide +kernel
theorem dX5_turnTo_55 : decode cX5_turnTo 55 = .ok (.iaload, 1) := by decide +kernel
theorem dX5_turnTo_56 : decode cX5_turnTo 56 = .ok (.if_icmp .ne 7, 3) := by decide +kernel
theorem dX5_turnTo_59 : decode cX5_turnTo 59 = .ok (.iconst 1, 1) := by decide +kernel
theorem dX5_turnTo_60 : decode cX5_turnTo 60 = .ok (.goto 4, 3) := by decide +kernel
theorem dX5_turnTo_63 : decode cX5_turnTo 63 = .ok (.iconst 0, 1) := by decide +kernel
theorem dX5_turnTo_64 : decode cX5_turnTo 64 = .ok (.istore_n 2, 1) := by decide +kernel
theorem dX5_turnTo_65 : decode cX5_turnTo 65 = .ok (.iinc 3 1, 3) := by decide +kernel
theorem dX5_turnTo_68 : decode cX5_turnTo 68 = .ok (.goto (-43), 3) := by decide +kernel
theorem dX5_turnTo_71 : decode cX5_turnTo 71 = .ok (.iload_n 2, 1) := by decide +kernel
theorem dX5_turnTo_72 : decode cX5_turnTo 72 = .ok (.ifCond .eq 5, 3) := by decide +kernel
theorem dX5_turnTo_75 : decode cX5_turnTo 75 = .ok (.iload_n 1, 1) := by decide +kernel
theorem dX5_turnTo_76 : decode cX5_turnTo 76 = .ok (.ireturn, 1) := by decide +kernel
theorem dX5_turnTo_77 : decode cX5_turnTo 77 = .ok (.iinc 1 1, 3) := by decide +kernel
theorem dX5_turnTo_80 : decode cX5_turnTo 80 = .ok (.goto (-78), 3) := by decide +kernel
theorem dX5_turnTo_83 : decode cX5_turnTo 83 = .ok (.ldc 106, 2) := by decide +kernel
theorem dX5_turnTo_85 : decode cX5_turnTo 85 = .ok (.ireturn, 1) := by decide +kernel
theorem dX5_layOther_0 : decode cX5_layOther 0 = .ok (.aload_n 0, 1) := by decide +kernel
theorem dX5_layOther_1 : decode cX5_layOther 1 = .ok (.aload_n 0, 1) := by decide +kernel
theorem dX5_layOther_2 : decode cX5_layOther 2 = .ok (.getfield 85, 3) := by decide +kernel
theorem dX5_layOther_5 : decode cX5_layOther 5 = .ok (.putfield 103, 3) := by decide +kernel
theorem dX5_layOther_8 : decode cX5_layOther 8 = .ok (.iconst 0, 1) := by decide +kernel
theorem dX5_layOther_9 : decode cX5_layOther 9 = .ok (.istore_n 3, 1) := by decide +kernel
theorem dX5_layOther_10 : decode cX5_layOther 10 = .ok (.iload_n 3, 1) := by decide +kernel
theorem dX5_layOther_11 : decode cX5_layOther 11 = .ok (.aload_n 0, 1) := by decide +kernel
theorem dX5_layOther_12 : decode cX5_layOther 12 = .ok (.getfield 85, 3) := by decide +kernel
theorem dX5_layOther_15 : decode cX5_layOther 15 = .ok (.if_icmp .ge 51, 3) := by decide +kernel
theorem dX5_layOther_18 : decode cX5_layOther 18 = .ok (.aload_n 0, 1) := by decide +kernel
theorem dX5_layOther_19 : decode cX5_layOther 19 = .ok (.getfield 40, 3) := by decide +kernel
theorem dX5_layOther_22 : decode cX5_layOther 22 = .ok (.iload_n 1, 1) := by decide +kernel
theorem dX5_layOther_23 : decode cX5_layOther 23 = .ok (.ifCond .eq 14, 3) := by decide +kernel
theorem dX5_layOther_26 : decode cX5_layOther 26 = .ok (.aload_n 0, 1) := by decide +kernel
theorem dX5_layOther_27 : decode cX5_layOther 27 = .ok (.getfield 85, 3) := by decide +kernel
theorem dX5_layOther_30 : decode cX5_layOther 30 = .ok (.iconst 1, 1) := by decide +kernel
theorem dX5_layOther_31 : decode cX5_layOther 31 = .ok (.isub, 1) := by decide +kernel
theorem dX5_layOther_32 : decode cX5_layOther 32 = .ok (.iload_n 3, 1) := by decide +kernel
theorem dX5_layOther_33 : decode cX5_layOther 33 = .ok (.isub, 1) := by decide +kernel
theorem dX5_layOther_34 : decode cX5_layOther 34 = .ok (.goto 4, 3) := by decide +kernel
theorem dX5_layOther_37 : decode cX5_layOther 37 = .ok (.iload_n 3, 1) := by decide +kernel
theorem dX5_layOther_38 : decode cX5_layOther 38 = .ok (.iaload, 1) := by decide +kernel
theorem dX5_layOther_39 : decode cX5_layOther 39 = .ok (.istore 4, 2) := by decide +kernel
theorem dX5_layOther_41 : decode cX5_layOther 41 = .ok (.aload_n 0, 1) := by decide +kernel
theorem dX5_layOther_42 : decode cX5_layOther 42 = .ok (.getfield 43, 3) := by decide +kernel
theorem dX5_layOther_45 : decode cX5_layOther 45 = .ok (.iload_n 3, 1) := by decide +kernel
theorem dX5_layOther_46 : decode cX5_layOther 46 = .ok (.iload_n 2, 1) := by decide +kernel
theorem dX5_layOther_47 : decode cX5_layOther 47 = .ok (.ifCond .eq 10, 3) := by decide +kernel
theorem dX5_layOther_50 : decode cX5_layOther 50 = .ok (.iconst 1, 1) := by decide +kernel
theorem dX5_layOther_51 : decode cX5_layOther 51 = .ok (.iload 4, 2) := by decide +kernel
theorem dX5_layOther_53 : decode cX5_layOther 53 = .ok (.isub, 1) := by decide +kernel
theorem dX5_layOther_54 : decode cX5_layOther 54 = .ok (.goto 5, 3) := by decide +kernel
theorem dX5_layOther_57 : decode cX5_layOther 57 = .ok (.iload 4, 2) := by decide +kernel
theorem dX5_layOther_59 : decode cX5_layOther 59 = .ok (.iastore, 1) := by decide +kernel
theorem dX5_layOther_60 : decode cX5_layOther 60 = .ok (.iinc 3 1, 3) := by decide +kernel
theorem dX5_layOther_63 : decode cX5_layOther 63 = .ok (.goto (-53), 3) := by decide +kernel
theorem dX5_layOther_66 : decode cX5_layOther 66 = .ok (.return_, 1) := by decide +kernel
set_option maxRecDepth 20000 in
theorem ggX5_isAlike_X5_layOther : GoodIn wsX5_isAlike wsX5_layOther := goodIn_r _ [6, 7, 8, 9, 10, 15, 16, 17, 18, 19, 20, 21, 22, 23, 24, 25, 26, 27, 28, 29, 30, 31, 32, 33, 34, 35, 36, 37, 38, 39, 40, 41, 42, 43, 44, 45, 46, 47, 48, 49] (by decide +kernel) (by decide +kernel)
set_option maxRecDepth 20000 in
theorem gX5_isAlike_X5_layOther : GoodIn wsX5_isAlike (wsV RX5 107 RX5 yX5_layOther wsX5_layOther) := goodIn_app (goodIn_of _ (by decide +kernel)) ggX5_isAlike_X5_layOther
set_option maxRecDepth 20000 in
theorem ggX5_isAlike_X5_turnTo : GoodIn wsX5_isAlike wsX5_turnTo := goodIn_r _ [14, 7, 8, 9, 10, 1, 15, 16, 17, 18, 19, 20, 21, 22, 23, 24, 25, 26, 27, 28, 29, 30, 31, 32, 33, 34, 35, 36, 37, 38, 39, 40, 41, 42, 43, 44, 45, 46, 47, 48, 49] (by decide +kernel) (by decide +kernel)
set_option maxRecDepth 20000 in
theorem gX5_isAlike_X5_turnTo : GoodIn wsX5_isAlike (wsV RX5 111 RX5 yX5_turnTo wsX5_turnTo) := goodIn_app (goodIn_of _ (by decide +kernel)) ggX5_isAlike_X5_turnTo
