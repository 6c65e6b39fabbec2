theorem dX3_crosses_103 : decode cX3_crosses 103 = .ok (.iconst 0, 1) := by decide +kernel
theorem dX3_crosses_104 : decode cX3_crosses 104 = .ok (.ireturn, 1) := by decide +kernel
set_option maxRecDepth 20000 in
theorem ggX4_init_X1_init : GoodIn wsX4_init wsX1_init := goodIn_r _ [19, 20, 2, 3, 21, 22, 56, 57, 58, 59, 60, 61] (by decide +kernel) (by decide +kernel)
set_option maxRecDepth 20000 in
theorem gX4_init_X1_init_n9 : GoodIn wsX4_init (wsX1_init) := ggX4_init_X1_init
set_option maxRecDepth 20000 in
theorem ggX4_init_X2_init : GoodIn wsX4_init wsX2_init := goodIn_r _ [24, 25, 2, 3, 26, 21, 27, 28, 68, 69, 70, 71, 72] (by decide +kernel) (by decide +kernel)
set_option maxRecDepth 20000 in
theorem gX4_init_X2_init_n24 : GoodIn wsX4_init (wsX2_init) := ggX4_init_X2_init
set_option maxRecDepth 20000 in
theorem ggX4_init_X0_init : GoodIn wsX4_init wsX0_init := goodIn_r _ [30, 31, 2, 3, 32, 33, 34, 35, 36, 37, 38, 39, 40, 41, 42, 43, 44, 45, 46, 47, 48, 49, 50, 51, 52, 53, 54, 55, 79, 80, 81, 82, 83, 84, 85, 73, 74, 75, 76, 77, 78] (by decide +kernel) (by decide +kernel)
set_option maxRecDepth 20000 in
theorem gX4_init_X0_init_n31 : GoodIn wsX4_init (wsX0_init) := ggX4_init_X0_init
theorem dX4_init_0 : decode cX4_init 0 = .ok (.aload_n 0, 1) := by decide +kernel
theorem dX4_init_1 : decode cX4_init 1 = .ok (.invokespecial 1, 3) := by decide +kernel
theorem dX4_init_4 : decode cX4_init 4 = .ok (.aload_n 0, 1) := by decide +kernel
theorem dX4_init_5 : decode cX4_init 5 = .ok (.new 7, 3) := by decide +kernel
theorem dX4_init_8 : decode cX4_init 8 = .ok (.dup, 1) := by decide +kernel
theorem dX4_init_9 : decode cX4_init 9 = .ok (.invokespecial 9, 3) := by decide +kernel
theorem dX4_init_12 : decode cX4_init 12 = .ok (.putfield 10, 3) := by decide +kernel
theorem dX4_init_15 : decode cX4_init 15 = .ok (.aload_n 0, 1) := by decide +kernel
theorem dX4_init_16 : decode cX4_init 16 = .ok (.bipush 6, 2) := by decide +kernel
theorem dX4_init_18 : decode cX4_init 18 = .ok (.anewarray 16, 3) := by decide +kernel
theorem dX4_init_21 : decode cX4_init 21 = .ok (.putfield 18, 3) := by decide +kernel
theorem dX4_init_24 : decode cX4_init 24 = .ok (.aload_n 0, 1) := by decide +kernel
theorem dX4_init_25 : decode cX4_init 25 = .ok (.new 22, 3) := by decide +kernel
theorem dX4_init_28 : decode cX4_init 28 = .ok (.dup, 1) := by decide +kernel
theorem dX4_init_29 : decode cX4_init 29 = .ok (.invokespecial 24, 3) := by decide +kernel
theorem dX4_init_32 : decode cX4_init 32 = .ok (.putfield 25, 3) := by decide +kernel
theorem dX4_init_35 : decode cX4_init 35 = .ok (.aload_n 0, 1) := by decide +kernel
theorem dX4_init_36 : decode cX4_init 36 = .ok (.new 29, 3) := by decide +kernel
theorem dX4_init_39 : decode cX4_init 39 = .ok (.dup, 1) := by decide +kernel
theorem dX4_init_40 : decode cX4_init 40 = .ok (.invokespecial 31, 3) := by decide +kernel
theorem dX4_init_43 : decode cX4_init 43 = .ok (.putfield 32, 3) := by decide +kernel
theorem dX4_init_46 : decode cX4_init 46 = .ok (.return_, 1) := by decide +kernel
set_option maxRecDepth 20000 in
theorem ggX4_letter_X1_append : GoodIn wsX4_letter wsX1_append := goodIn_r _ [9, 10, 11, 12, 13, 14, 15, 8, 16, 17, 18, 19, 26, 27, 28, 29, 30, 31] (by decide +kernel) (by decide +kernel)
set_option maxRecDepth 20000 in
theorem gX4_letter_X1_append : GoodIn wsX4_letter (wsV RX4 42 RX1 yX1_append wsX1_append) := goodIn_app (goodIn_of _ (by decide +kernel)) ggX4_letter_X1_append
theorem dX4_letter_0 : decode cX4_letter 0 = .ok (.iload_n 1, 1) := by decide +kernel
theorem dX4_letter_1 : decode cX4_letter 1 = .ok (.bipush 32, 2) := by decide +kernel
theorem dX4_letter_3 : decode cX4_letter 3 = .ok (.if_icmp .lt 9, 3) := by decide +kernel
theorem dX4_letter_6 : decode cX4_letter 6 = .ok (.iload_n 1, 1) := by decide +kernel
theorem dX4_letter_7 : decode cX4_letter 7 = .ok (.bipush 126, 2) := by decide +kernel
theorem dX4_letter_9 : decode cX4_letter 9 = .ok (.if_icmp .le 6, 3) := by decide +kernel
theorem dX4_letter_12 : decode cX4_letter 12 = .ok (.ldc 36, 2) := by decide +kernel
theorem dX4_letter_14 : decode cX4_letter 14 = .ok (.ireturn, 1) := by decide +kernel
theorem dX4_letter_15 : decode cX4_letter 15 = .ok (.aload_n 0, 1) := by decide +kernel
theorem dX4_letter_16 : decode cX4_letter 16 = .ok (.getfield 10, 3) := by decide +kernel
theorem dX4_letter_19 : decode cX4_letter 19 = .ok (.getfield 37, 3) := by decide +kernel
theorem dX4_letter_22 : decode cX4_letter 22 = .ok (.bipush 20, 2) := by decide +kernel
theorem dX4_letter_24 : decode cX4_letter 24 = .ok (.if_icmp .lt 6, 3) := by decide +kernel
theorem dX4_letter_27 : decode cX4_letter 27 = .ok (.ldc 41, 2) := by decide +kernel
theorem dX4_letter_29 : decode cX4_letter 29 = .ok (.ireturn, 1) := by decide +kernel
theorem dX4_letter_30 : decode cX4_letter 30 = .ok (.aload_n 0, 1) := by decide +kernel
theorem dX4_letter_31 : decode cX4_letter 31 = .ok (.getfield 10, 3) := by decide +kernel
theorem dX4_letter_34 : decode cX4_letter 34 = .ok (.iload_n 1, 1) := by decide +kernel
theorem dX4_letter_35 : decode cX4_letter 35 = .ok (.invokevirtual 42, 3) := by decide +kernel
theorem dX4_letter_38 : decode cX4_letter 38 = .ok (.aload_n 0, 1) := by decide +kernel
theorem dX4_letter_39 : decode cX4_letter 39 = .ok (.getfield 10, 3) := by decide +kernel
theorem dX4_letter_42 : decode cX4_letter 42 = .ok (.getfield 37, 3) := by decide +kernel
theorem dX4_letter_45 : decode cX4_letter 45 = .ok (.ireturn, 1) := by decide +kernel
set_option maxRecDepth 20000 in
theorem ggX4_blank_X1_clear : GoodIn wsX4_blank wsX1_clear := goodIn_r _ [7, 8, 9, 10, 11, 12, 19, 20, 21, 22, 23, 24] (by decide +kernel) (by decide +kernel)
set_option maxRecDepth 20000 in
theorem gX4_blank_X1_clear : GoodIn wsX4_blank (wsV RX4 46 RX1 yX1_clear wsX1_clear) := goodIn_app (goodIn_of _ (by decide +kernel)) ggX4_blank_X1_clear
theorem dX4_blank_0 : decode cX4_blank 0 = .ok (.aload_n 0, 1) := by decide +kernel
theorem dX4_blank_1 : decode cX4_blank 1 = .ok (.getfield 10, 3) := by decide +kernel
theorem dX4_blank_4 : decode cX4_blank 4 = .ok (.getfield 37, 3) := by decide +kernel
theorem dX4_blank_7 : decode cX4_blank 7 = .ok (.istore_n 1, 1) := by decide +kernel
theorem dX4_blank_8 : decode cX4_blank 8 = .ok (.aload_n 0, 1) := by decide +kernel
theorem dX4_blank_9 : decode cX4_blank 9 = .ok (.getfield 10, 3) := by decide +kernel
theorem dX4_blank_12 : decode cX4_blank 12 = .ok (.invokevirtual 46, 3) := by decide +kernel
theorem dX4_blank_15 : decode cX4_blank 15 = .ok (.iload_n 1, 1) := by decide +kernel
theorem dX4_blank_16 : decode cX4_blank 16 = .ok (.ireturn, 1) := by decide +kernel
theorem dX4_fault_0 : decode cX4_fault 0 = .ok (.aload_n 0, 1) := by decide +kernel
theorem dX4_fault_1 : decode cX4_fault 1 = .ok (.getfield 10, 3) := by decide +kernel
theorem dX4_fault_4 : decode cX4_fault 4 = .ok (.getfield 49, 3) := by decide +kernel
theorem dX4_fault_7 : decode cX4_fault 7 = .ok (.ireturn, 1) := by decide +kernel
set_option maxRecDepth 20000 in
theorem ggX4_word_X1_isWord : GoodIn wsX4_word wsX1_isWord := goodIn_r _ [10, 11, 12, 58, 59, 60, 61, 62, 63] (by decide +kernel) (by decide +kernel)
set_option maxRecDepth 20000 in
theorem gX4_word_X1_isWord : GoodIn wsX4_word (wsV RX4 52 RX1 yX1_isWord wsX1_isWord) := goodIn_app (goodIn_of _ (by decide +kernel)) ggX4_word_X1_isWord
set_option maxRecDepth 20000 in
theorem ggX4_word_X4_addRoad : GoodIn wsX4_word wsX4_addRoad := goodIn_r _ [17, 2, 18, 19, 20, 21, 22, 23, 24, 25, 26, 27, 28, 29, 30, 31, 32, 33, 34, 35, 36, 37, 38, 39, 40, 41, 42, 43, 44, 52, 53, 54, 55, 56, 57, 64, 65, 66, 67, 68, 69, 70] (by decide +kernel) (by decide +kernel)
set_option maxRecDepth 20000 in
theorem gX4_word_X4_addRoad : GoodIn wsX4_word (wsV RX4 63 RX4 yX4_addRoad wsX4_addRoad) := goodIn_app (goodIn_of _ (by decide +kernel)) ggX4_word_X4_addRoad
set_option maxRecDepth 20000 in
theorem ggX4_word_X1_clear : GoodIn wsX4_word wsX1_clear := goodIn_r _ [48, 11, 12, 49, 50, 51, 58, 59, 60, 61, 62, 63] (by decide +kernel) (by decide +kernel)
set_option maxRecDepth 20000 in
theorem gX4_word_X1_clear : GoodIn wsX4_word (wsV RX4 46 RX1 yX1_clear wsX1_clear) := goodIn_app (goodIn_of _ (by decide +kernel)) ggX4_word_X1_clear
theorem dX4_word_0 : decode cX4_word 0 = .ok (.aload_n 0, 1) := by decide +kernel
theorem dX4_word_1 : decode cX4_word 1 = .ok (.getfield 10, 3) := by decide +kernel
theorem dX4_word_4 : decode cX4_word 4 = .ok (.invokevirtual 52, 3) := by decide +kernel
theorem dX4_word_7 : decode cX4_word 7 = .ok (.ifCond .ne 6, 3) := by decide +kernel
theorem dX4_word_10 : decode cX4_word 10 = .ok (.ldc 56, 2) := by decide +kernel
theorem dX4_word_12 : decode cX4_word 12 = .ok (.ireturn, 1) := by decide +kernel
theorem dX4_word_13 : decode cX4_word 13 = .ok (.aload_n 0, 1) := by decide +kernel
theorem dX4_word_14 : decode cX4_word 14 = .ok (.aload_n 0, 1) := by decide +kernel
theorem dX4_word_15 : decode cX4_word 15 = .ok (.getfield 10, 3) := by decide +kernel
theorem dX4_word_18 : decode cX4_word 18 = .ok (.getfield 57, 3) := by decide +kernel
theorem dX4_word_21 : decode cX4_word 21 = .ok (.aload_n 0, 1) := by decide +kernel
theorem dX4_word_22 : decode cX4_word 22 = .ok (.getfield 10, 3) := by decide +kernel
theorem dX4_word_25 : decode cX4_word 25 = .ok (.getfield 60, 3) := by decide +kernel
theorem dX4_word_28 : decode cX4_word 28 = .ok (.invokevirtual 63, 3) := by decide +kernel
theorem dX4_word_31 : decode cX4_word 31 = .ok (.istore_n 1, 1) := by decide +kernel
theorem dX4_word_32 : decode cX4_word 32 = .ok (.iload_n 1, 1) := by decide +kernel
theorem dX4_word_33 : decode cX4_word 33 = .ok (.ifCond .lt 20, 3) := by decide +kernel
theorem dX4_word_36 : decode cX4_word 36 = .ok (.aload_n 0, 1) := by decide +kernel
theorem dX4_word_37 : decode cX4_word 37 = .ok (.getfield 10, 3) := by decide +kernel
theorem dX4_word_40 : decode cX4_word 40 = .ok (.invokevirtual 46, 3) := by decide +kernel
theorem dX4_word_43 : decode cX4_word 43 = .ok (.aload_n 0, 1) := by decide +kernel
theorem dX4_word_44 : decode cX4_word 44 = .ok (.dup, 1) := by decide +kernel
theorem dX4_word_45 : decode cX4_word 45 = .ok (.getfield 67, 3) := by decide +kernel
theorem dX4_word_48 : decode cX4_word 48 = .ok (.iconst 1, 1) := by decide +kernel
theorem dX4_word_49 : decode cX4_word 49 = .ok (.iadd, 1) := by decide +kernel
theorem dX4_word_50 : decode cX4_word 50 = .ok (.putfield 67, 3) := by decide +kernel
theorem dX4_word_53 : decode cX4_word 53 = .ok (.iload_n 1, 1) := by decide +kernel
theorem dX4_word_54 : decode cX4_word 54 = .ok (.ireturn, 1) := by decide +kernel
set_option maxRecDepth 20000 in
theorem ggX4_road_X4_roadAt : GoodIn wsX4_road wsX4_roadAt := goodIn_r _ [9, 10, 11, 73, 74, 75, 76, 77, 78] (by decide +kernel) (by decide +kernel)
set_option maxRecDepth 20000 in
theorem gX4_road_X4_roadAt : GoodIn wsX4_road (wsV RX4 70 RX4 yX4_roadAt wsX4_roadAt) := goodIn_app (goodIn_of _ (by decide +kernel)) ggX4_road_X4_roadAt
set_option maxRecDepth 20000 in
theorem ggX4_road_J6_bitCount_0f7a4 : GoodIn wsX4_road wsJ6_bitCount_0f7a4 := goodIn_r _ [15, 16, 17, 18] (by decide +kernel) (by decide +kernel)
set_option maxRecDepth 20000 in
theorem gX4_road_J6_bitCount_0f7a4 : GoodIn wsX4_road (va_wsS RX4 77 yJ6_bitCount_0f7a4 wsJ6_bitCount_0f7a4) := goodIn_app (goodIn_of _ (by decide +kernel)) ggX4_road_J6_bitCount_0f7a4
set_option maxRecDepth 20000 in
theorem ggX4_road_X3_period : GoodIn wsX4_road wsX3_period := goodIn_r _ [23, 24, 25, 26, 27, 28, 29, 22, 30, 31, 32, 33, 34, 35, 66, 67, 68, 69, 70, 71, 72] (by decide +kernel) (by decide +kernel)
set_option maxRecDepth 20000 in
theorem gX4_road_X3_period : GoodIn wsX4_road (wsV RX4 83 RX3 yX3_period wsX3_period) := goodIn_app (goodIn_of _ (by decide +kernel)) ggX4_road_X3_period
set_option maxRecDepth 20000 in
theorem ggX4_road_X3_leastTurn : GoodIn wsX4_road wsX3_leastTurn := goodIn_r _ [39, 26, 31, 32, 33, 22, 34, 24, 35, 66, 67, 68, 69, 70, 71, 72] (by decide +kernel) (by decide +kernel)
set_option maxRecDepth 20000 in
theorem gX4_road_X3_leastTurn : GoodIn wsX4_road (wsV RX4 87 RX3 yX3_leastTurn wsX3_leastTurn) := goodIn_app (goodIn_of _ (by decide +kernel)) ggX4_road_X3_leastTurn
set_option maxRecDepth 20000 in
theorem ggX4_road_X3_traceSum : GoodIn wsX4_road wsX3_traceSum := goodIn_r _ [43, 44, 45, 66, 67, 68, 69, 70, 71, 72] (by decide +kernel) (by decide +kernel)
set_option maxRecDepth 20000 in
theorem gX4_road_X3_traceSum : GoodIn wsX4_road (wsV RX4 90 RX3 yX3_traceSum wsX3_traceSum) := goodIn_app (goodIn_of _ (by decide +kernel)) ggX4_road_X3_traceSum
set_option maxRecDepth 20000 in
theorem ggX4_road_X3_isClosed : GoodIn wsX4_road wsX3_isClosed := goodIn_r _ [49, 24, 35, 66, 67, 68, 69, 70, 71, 72] (by decide +kernel) (by decide +kernel)
set_option maxRecDepth 20000 in
theorem gX4_road_X3_isClosed : GoodIn wsX4_road (wsV RX4 93 RX3 yX3_isClosed wsX3_isClosed) := goodIn_app (goodIn_of _ (by decide +kernel)) ggX4_road_X3_isClosed
set_option maxRecDepth 20000 in
theorem ggX4_road_X3_reversal : GoodIn wsX4_road wsX3_reversal := goodIn_r _ [53, 26, 54, 55, 56, 22, 57, 24, 66, 67, 68, 69, 70, 71, 72] (by decide +kernel) (by decide +kernel)
set_option maxRecDepth 20000 in
theorem gX4_road_X3_reversal : GoodIn wsX4_road (wsV RX4 96 RX3 yX3_reversal wsX3_reversal) := goodIn_app (goodIn_of _ (by decide +kernel)) ggX4_road_X3_reversal
set_option maxRecDepth 20000 in
theorem ggX4_road_X3_isConjugate : GoodIn wsX4_road wsX3_isConjugate := goodIn_r _ [61, 25, 27, 28, 29, 22, 30, 26, 31, 32, 33, 34, 24, 35, 66, 67, 68, 69, 70, 71, 72] (by decide +kernel) (by decide +kernel)
set_option maxRecDepth 20000 in
theorem gX4_road_X3_isConjugate : GoodIn wsX4_road (wsV RX4 99 RX3 yX3_isConjugate wsX3_isConjugate) := goodIn_app (goodIn_of _ (by decide +kernel)) ggX4_road_X3_isConjugate
set_option maxRecDepth 20000 in
theorem ggX4_road_X3_complement : GoodIn wsX4_road wsX3_complement := goodIn_r _ [65, 35, 66, 67, 68, 69, 70, 71, 72] (by decide +kernel) (by decide +kernel)
set_option maxRecDepth 20000 in
theorem gX4_road_X3_complement : GoodIn wsX4_road (wsV RX4 103 RX3 yX3_complement wsX3_complement) := goodIn_app (goodIn_of _ (by decide +kernel)) ggX4_road_X3_complement
theorem dX4_road_0 : decode cX4_road 0 = .ok (.aload_n 0, 1) := by decide +kernel
theorem dX4_road_1 : decode cX4_road 1 = .ok (.iload_n 1, 1) := by decide +kernel
theorem dX4_road_2 : decode cX4_road 2 = .ok (.invokevirtual 70, 3) := by decide +kernel
theorem dX4_road_5 : decode cX4_road 5 = .ok (.astore_n 3, 1) := by decide +kernel
theorem dX4_road_6 : decode cX4_road 6 = .ok (.aload_n 3, 1) := by decide +kernel
theorem dX4_road_7 : decode cX4_road 7 = .ok (.ifnonnull 6, 3) := by decide +kernel
theorem dX4_road_10 : decode cX4_road 10 = .ok (.ldc 74, 2) := by decide +kernel
theorem dX4_road_12 : decode cX4_road 12 = .ok (.ireturn, 1) := by decide +kernel
theorem dX4_road_13 : decode cX4_road 13 = .ok (.iload_n 2, 1) := by decide +kernel
theorem dX4_road_14 : decode cX4_road 14 = .ok (.tableswitch 167 0 9 #[54, 59, 72, 80, 85, 90, 95, 108, 125, 146], 54) := by decide +kernel
theorem dX4_road_68 : decode cX4_road 68 = .ok (.aload_n 3, 1) := by decide +kernel
theorem dX4_road_69 : decode cX4_road 69 = .ok (.getfield 75, 3) := by decide +kernel
theorem dX4_road_72 : decode cX4_road 72 = .ok (.ireturn, 1) := by decide +kernel
theorem dX4_road_73 : decode cX4_road 73 = .ok (.aload_n 3, 1) := by decide +kernel
theorem dX4_road_74 : decode cX4_road 74 = .ok (.getfield 75, 3) := by decide +kernel
theorem dX4_road_77 : decode cX4_road 77 = .ok (.aload_n 3, 1) := by decide +kernel
theorem dX4_road_78 : decode cX4_road 78 = .ok (.getfield 76, 3) := by decide +kernel
theorem dX4_road_81 : decode cX4_road 81 = .ok (.invokestatic 77, 3) := by decide +kernel
theorem dX4_road_84 : decode cX4_road 84 = .ok (.isub, 1) := by decide +kernel
theorem dX4_road_85 : decode cX4_road 85 = .ok (.ireturn, 1) := by decide +kernel
theorem dX4_road_86 : decode cX4_road 86 = .ok (.aload_n 3, 1) := by decide +kernel
theorem dX4_road_87 : decode cX4_road 87 = .ok (.getfield 76, 3) := by decide +kernel
theorem dX4_road_90 : decode cX4_road 90 = .ok (.invokestatic 77, 3) := by decide +kernel
theorem dX4_road_93 : decode cX4_road 93 = .ok (.ireturn, 1) := by decide +kernel
theorem dX4_road_94 : decode cX4_road 94 = .ok (.aload_n 3, 1) := by decide +kernel
theorem dX4_road_95 : decode cX4_road 95 = .ok (.invokevirtual 83, 3) := by decide +kernel
theorem dX4_road_98 : decode cX4_road 98 = .ok (.ireturn, 1) := by decide +kernel
theorem dX4_road_99 : decode cX4_road 99 = .ok (.aload_n 3, 1) := by decide +kernel
theorem dX4_road_100 : decode cX4_road 100 = .ok (.invokevirtual 87, 3) := by decide +kernel
theorem dX4_road_103 : decode cX4_road 103 = .ok (.ireturn, 1) := by decide +kernel
theorem dX4_road_104 : decode cX4_road 104 = .ok (.aload_n 3, 1) := by decide +kernel
theorem dX4_road_105 : decode cX4_road 105 = .ok (.invokevirtual 90, 3) := by decide +kernel
theorem dX4_road_108 : decode cX4_road 108 = .ok (.ireturn, 1) := by decide +kernel
theorem dX4_road_109 : decode cX4_road 109 = .ok (.aload_n 3, 1) := by decide +kernel
theorem dX4_road_110 : decode cX4_road 110 = .ok (.invokevirtual 93, 3) := by decide +kernel
theorem dX4_road_113 : decode cX4_road 113 = .ok (.ifCond .eq 7, 3) := by decide +kernel
theorem dX4_road_116 : decode cX4_road 116 = .ok (.iconst 1, 1) := by decide +kernel
theorem dX4_road_117 : decode cX4_road 117 = .ok (.goto 4, 3) := by decide +kernel
theorem dX4_road_120 : decode cX4_road 120 = .ok (.iconst 0, 1) := by decide +kernel
theorem dX4_road_121 : decode cX4_road 121 = .ok (.ireturn, 1) := by decide +kernel
theorem dX4_road_122 : decode cX4_road 122 = .ok (.aload_n 3, 1) := by decide +kernel
theorem dX4_road_123 : decode cX4_road 123 = .ok (.aload_n 3, 1) := by decide +kernel
theorem dX4_road_124 : decode cX4_road 124 = .ok (.invokevirtual 96, 3) := by decide +kernel
theorem dX4_road_127 : decode cX4_road 127 = .ok (.invokevirtual 99, 3) := by decide +kernel
theorem dX4_road_130 : decode cX4_road 130 = .ok (.ifCond .eq 7, 3) := by decide +kernel
theorem dX4_road_133 : decode cX4_road 133 = .ok (.iconst 1, 1) := by decide +kernel
theorem dX4_road_134 : decode cX4_road 134 = .ok (.goto 4, 3) := by decide +kernel
theorem dX4_road_137 : decode cX4_road 137 = .ok (.iconst 0, 1) := by decide +kernel
theorem dX4_road_138 : decode cX4_road 138 = .ok (.ireturn, 1) := by decide +kernel
theorem dX4_road_139 : decode cX4_road 139 = .ok (.aload_n 3, 1) := by decide +kernel
theorem dX4_road_140 : decode cX4_road 140 = .ok (.aload_n 3, 1) := by decide +kernel
theorem dX4_road_141 : decode cX4_road 141 = .ok (.aload_n 3, 1) := by decide +kernel
theorem dX4_road_142 : decode cX4_road 142 = .ok (.getfield 76, 3) := by decide +kernel
theorem dX4_road_145 : decode cX4_road 145 = .ok (.invokevirtual 103, 3) := by decide +kernel
theorem dX4_road_148 : decode cX4_road 148 = .ok (.invokevirtual 99, 3) := by decide +kernel
theorem dX4_road_151 : decode cX4_road 151 = .ok (.ifCond .eq 7, 3) := by decide +kernel
theorem dX4_road_154 : decode cX4_road 154 = .ok (.iconst 1, 1) := by decide +kernel
theorem dX4_road_155 : decode cX4_road 155 = .ok (.goto 4, 3) := by decide +kernel
theorem dX4_road_158 : decode cX4_road 158 = .ok (.iconst 0, 1) := by decide +kernel
theorem dX4_road_159 : decode cX4_road 159 = .ok (.ireturn, 1) := by decide +kernel
theorem dX4_road_160 : decode cX4_road 160 = .ok (.aload_n 3, 1) := by decide +kernel
theorem dX4_road_161 : decode cX4_road 161 = .ok (.aload_n 3, 1) := by decide +kernel
theorem dX4_road_162 : decode cX4_road 162 = .ok (.aload_n 3, 1) := by decide +kernel
theorem dX4_road_163 : decode cX4_road 163 = .ok (.invokevirtual 96, 3) := by decide +kernel
theorem dX4_road_166 : decode cX4_road 166 = .ok (.invokevirtual 103, 3) := by decide +kernel
theorem dX4_road_169 : decode cX4_road 169 = .ok (.invokevirtual 99, 3) := by decide +kernel
theorem dX4_road_172 : decode cX4_road 172 = .ok (.ifCond .eq 7, 3) := by decide +kernel
theorem dX4_road_175 : decode cX4_road 175 = .ok (.iconst 1, 1) := by decide +kernel
theorem dX4_road_176 : decode cX4_road 176 = .ok (.goto 4, 3) := by decide +kernel
theorem dX4_road_179 : decode cX4_road 179 = .ok (.iconst 0, 1) := by decide +kernel
theorem dX4_road_180 : decode cX4_road 180 = .ok (.ireturn, 1) := by decide +kernel
theorem dX4_road_181 : decode cX4_road 181 = .ok (.ldc 36, 2) := by decide +kernel
theorem dX4_road_183 : decode cX4_road 183 = .ok (.ireturn, 1) := by decide +kernel
set_option maxRecDepth 20000 in
theorem ggX4_sign_X4_roadAt : GoodIn wsX4_sign wsX4_roadAt := goodIn_r _ [7, 8, 9, 27, 28, 29, 30, 31, 32] (by decide +kernel) (by decide +kernel)
set_option maxRecDepth 20000 in
theorem gX4_sign_X4_roadAt : GoodIn wsX4_sign (wsV RX4 70 RX4 yX4_roadAt wsX4_roadAt) := goodIn_app (goodIn_of _ (by decide +kernel)) ggX4_sign_X4_roadAt
set_option maxRecDepth 20000 in
theorem ggX4_sign_X3_bitAt : GoodIn wsX4_sign wsX3_bitAt := goodIn_r _ [14, 15, 16, 20, 21, 22, 23, 24, 25, 26] (by decide +kernel) (by decide +kernel)
set_option maxRecDepth 20000 in
theorem gX4_sign_X3_bitAt : GoodIn wsX4_sign (wsV RX4 106 RX3 yX3_bitAt wsX3_bitAt) := goodIn_app (goodIn_of _ (by decide +kernel)) ggX4_sign_X3_bitAt
set_option maxRecDepth 20000 in
theorem ggX4_sign_X4_code : GoodIn wsX4_sign wsX4_code := goodIn_r _ [19] (by decide +kernel) (by decide +kernel)
set_option maxRecDepth 20000 in
theorem gX4_sign_X4_code : GoodIn wsX4_sign (va_wsS RX4 109 yX4_code wsX4_code) := goodIn_app (goodIn_of _ (by decide +kernel)) ggX4_sign_X4_code
theorem dX4_sign_0 : decode cX4_sign 0 = .ok (.aload_n 0, 1) := by decide +kernel
theorem dX4_sign_1 : decode cX4_sign 1 = .ok (.iload_n 1, 1) := by decide +kernel
theorem dX4_sign_2 : decode cX4_sign 2 = .ok (.invokevirtual 70, 3) := by decide +kernel
theorem dX4_sign_5 : decode cX4_sign 5 = .ok (.astore_n 3, 1) := by decide +kernel
theorem dX4_sign_6 : decode cX4_sign 6 = .ok (.aload_n 3, 1) := by decide +kernel
theorem dX4_sign_7 : decode cX4_sign 7 = .ok (.ifnull 15, 3) := by decide +kernel
theorem dX4_sign_10 : decode cX4_sign 10 = .ok (.iload_n 2, 1) := by decide +kernel
theorem dX4_sign_11 : decode cX4_sign 11 = .ok (.ifCond .lt 11, 3) := by decide +kernel
theorem dX4_sign_14 : decode cX4_sign 14 = .ok (.iload_n 2, 1) := by decide +kernel
theorem dX4_sign_15 : decode cX4_sign 15 = .ok (.aload_n 3, 1) := by decide +kernel
theorem dX4_sign_16 : decode cX4_sign 16 = .ok (.getfield 75, 3) := by decide +kernel
theorem dX4_sign_19 : decode cX4_sign 19 = .ok (.if_icmp .lt 6, 3) := by decide +kernel
theorem dX4_sign_22 : decode cX4_sign 22 = .ok (.ldc 74, 2) := by decide +kernel
theorem dX4_sign_24 : decode cX4_sign 24 = .ok (.ireturn, 1) := by decide +kernel
theorem dX4_sign_25 : decode cX4_sign 25 = .ok (.aload_n 3, 1) := by decide +kernel
theorem dX4_sign_26 : decode cX4_sign 26 = .ok (.iload_n 2, 1) := by decide +kernel
theorem dX4_sign_27 : decode cX4_sign 27 = .ok (.invokevirtual 106, 3) := by decide +kernel
theorem dX4_sign_30 : decode cX4_sign 30 = .ok (.invokestatic 109, 3) := by decide +kernel
theorem dX4_sign_33 : decode cX4_sign 33 = .ok (.ireturn, 1) := by decide +kernel
set_option maxRecDepth 20000 in
theorem ggX4_table_X4_roadAt : GoodIn wsX4_table wsX4_roadAt := goodIn_r _ [11, 12, 13, 21, 22, 23, 24, 25, 26] (by decide +kernel) (by decide +kernel)
set_option maxRecDepth 20000 in
theorem gX4_table_X4_roadAt : GoodIn wsX4_table (wsV RX4 70 RX4 yX4_roadAt wsX4_roadAt) := goodIn_app (goodIn_of _ (by decide +kernel)) ggX4_table_X4_roadAt
theorem dX4_table_0 : decode cX4_table 0 = .ok (.aload_n 0, 1) := by decide +kernel
theorem dX4_table_1 : decode cX4_table 1 = .ok (.iload_n 1, 1) := by decide +kernel
theorem dX4_table_2 : decode cX4_table 2 = .ok (.invokevirtual 70, 3) := by decide +kernel
theorem dX4_table_5 : decode cX4_table 5 = .ok (.astore_n 3, 1) := by decide +kernel
theorem dX4_table_6 : decode cX4_table 6 = .ok (.aload_n 3, 1) := by decide +kernel
theorem dX4_table_7 : decode cX4_table 7 = .ok (.ifnonnull 6, 3) := by decide +kernel
theorem dX4_table_10 : decode cX4_table 10 = .ok (.ldc 74, 2) := by decide +kernel
theorem dX4_table_12 : decode cX4_table 12 = .ok (.ireturn, 1) := by decide +kernel
theorem dX4_table_13 : decode cX4_table 13 = .ok (.iload_n 2, 1) := by decide +kernel
theorem dX4_table_14 : decode cX4_table 14 = .ok (.tableswitch 50 0 3 #[30, 35, 40, 45], 30) := by decide +kernel
theorem dX4_table_44 : decode cX4_table 44 = .ok (.aload_n 3, 1) := by decide +kernel
theorem dX4_table_45 : decode cX4_table 45 = .ok (.getfield 112, 3) := by decide +kernel
theorem dX4_table_48 : decode cX4_table 48 = .ok (.ireturn, 1) := by decide +kernel
theorem dX4_table_49 : decode cX4_table 49 = .ok (.aload_n 3, 1) := by decide +kernel
theorem dX4_table_50 : decode cX4_table 50 = .ok (.getfield 115, 3) := by decide +kernel
theorem dX4_table_53 : decode cX4_table 53 = .ok (.ireturn, 1) := by decide +kernel
theorem dX4_table_54 : decode cX4_table 54 = .ok (.aload_n 3, 1) := by decide +kernel
theorem dX4_table_55 : decode cX4_table 55 = .ok (.getfield 118, 3) := by decide +kernel
theorem dX4_table_58 : decode cX4_table 58 = .ok (.ireturn, 1) := by decide +kernel
theorem dX4_table_59 : decode cX4_table 59 = .ok (.aload_n 3, 1) := by decide +kernel
theorem dX4_table_60 : decode cX4_table 60 = .ok (.getfield 121, 3) := by decide +kernel
theorem dX4_table_63 : decode cX4_table 63 = .ok (.ireturn, 1) := by decide +kernel
theorem dX4_table_64 : decode cX4_table 64 = .ok (.ldc 36, 2) := by decide +kernel
theorem dX4_table_66 : decode cX4_table 66 = .ok (.ireturn, 1) := by decide +kernel
set_option maxRecDepth 20000 in
theorem ggX4_form_X4_roadAt : GoodIn wsX4_form wsX4_roadAt := goodIn_r _ [8, 9, 10, 37, 38, 39, 40, 41, 42] (by decide +kernel) (by decide +kernel)
set_option maxRecDepth 20000 in
theorem gX4_form_X4_roadAt : GoodIn wsX4_form (wsV RX4 70 RX4 yX4_roadAt wsX4_roadAt) := goodIn_app (goodIn_of _ (by decide +kernel)) ggX4_form_X4_roadAt
set_option maxRecDepth 20000 in
theorem ggX4_form_X3_isClosed : GoodIn wsX4_form wsX3_isClosed := goodIn_r _ [15, 16, 17, 43, 44, 45, 46, 47, 48, 49] (by decide +kernel) (by decide +kernel)
set_option maxRecDepth 20000 in
theorem gX4_form_X3_isClosed : GoodIn wsX4_form (wsV RX4 93 RX3 yX3_isClosed wsX3_isClosed) := goodIn_app (goodIn_of _ (by decide +kernel)) ggX4_form_X3_isClosed
set_option maxRecDepth 20000 in
theorem ggX4_form_X3_formNumber : GoodIn wsX4_form wsX3_formNumber := goodIn_r _ [21, 22, 23, 24, 25, 26, 7, 27, 28, 29, 30, 31, 32, 33, 34, 35, 36, 43, 44, 45, 46, 47, 48, 49] (by decide +kernel) (by decide +kernel)
set_option maxRecDepth 20000 in
theorem gX4_form_X3_formNumber : GoodIn wsX4_form (wsV RX4 124 RX3 yX3_formNumber wsX3_formNumber) := goodIn_app (goodIn_of _ (by decide +kernel)) ggX4_form_X3_formNumber
theorem dX4_form_0 : decode cX4_form 0 = .ok (.aload_n 0, 1) := by decide +kernel
theorem dX4_form_1 : decode cX4_form 1 = .ok (.iload_n 1, 1) := by decide +kernel
theorem dX4_form_2 : decode cX4_form 2 = .ok (.invokevirtual 70, 3) := by decide +kernel
theorem dX4_form_5 : decode cX4_form 5 = .ok (.astore_n 3, 1) := by decide +kernel
theorem dX4_form_6 : decode cX4_form 6 = .ok (.aload_n 3, 1) := by decide +kernel
theorem dX4_form_7 : decode cX4_form 7 = .ok (.ifnonnull 6, 3) := by decide +kernel
theorem dX4_form_10 : decode cX4_form 10 = .ok (.ldc 74, 2) := by decide +kernel
theorem dX4_form_12 : decode cX4_form 12 = .ok (.ireturn, 1) := by decide +kernel
theorem dX4_form_13 : decode cX4_form 13 = .ok (.iload_n 2, 1) := by decide +kernel
theorem dX4_form_14 : decode cX4_form 14 = .ok (.ifCond .lt 8, 3) := by decide +kernel
theorem dX4_form_17 : decode cX4_form 17 = .ok (.iload_n 2, 1) := by decide +kernel
theorem dX4_form_18 : decode cX4_form 18 = .ok (.iconst 5, 1) := by decide +kernel
theorem dX4_form_19 : decode cX4_form 19 = .ok (.if_icmp .lt 6, 3) := by decide +kernel
theorem dX4_form_22 : decode cX4_form 22 = .ok (.ldc 36, 2) := by decide +kernel
theorem dX4_form_24 : decode cX4_form 24 = .ok (.ireturn, 1) := by decide +kernel
theorem dX4_form_25 : decode cX4_form 25 = .ok (.aload_n 3, 1) := by decide +kernel
theorem dX4_form_26 : decode cX4_form 26 = .ok (.invokevirtual 93, 3) := by decide +kernel
theorem dX4_form_29 : decode cX4_form 29 = .ok (.ifCond .eq 11, 3) := by decide +kernel
theorem dX4_form_32 : decode cX4_form 32 = .ok (.aload_n 3, 1) := by decide +kernel
theorem dX4_form_33 : decode cX4_form 33 = .ok (.iload_n 2, 1) := by decide +kernel
theorem dX4_form_34 : decode cX4_form 34 = .ok (.invokevirtual 124, 3) := by decide +kernel
theorem dX4_form_37 : decode cX4_form 37 = .ok (.goto 5, 3) := by decide +kernel
theorem dX4_form_40 : decode cX4_form 40 = .ok (.ldc 56, 2) := by decide +kernel
theorem dX4_form_42 : decode cX4_form 42 = .ok (.ireturn, 1) := by decide +kernel
set_option maxRecDepth 20000 in
theorem ggX4_end_X4_roadAt : GoodIn wsX4_end wsX4_roadAt := goodIn_r _ [11, 12, 13, 21, 22, 23, 24, 25, 26] (by decide +kernel) (by decide +kernel)
set_option maxRecDepth 20000 in
theorem gX4_end_X4_roadAt : GoodIn wsX4_end (wsV RX4 70 RX4 yX4_roadAt wsX4_roadAt) := goodIn_app (goodIn_of _ (by decide +kernel)) ggX4_end_X4_roadAt
theorem dX4_end_0 : decode cX4_end 0 = .ok (.aload_n 0, 1) := by decide +kernel
theorem dX4_end_1 : decode cX4_end 1 = .ok (.iload_n 1, 1) := by decide +kernel
theorem dX4_end_2 : decode cX4_end 2 = .ok (.invokevirtual 70, 3) := by decide +kernel
theorem dX4_end_5 : decode cX4_end 5 = .ok (.astore_n 3, 1) := by decide +kernel
theorem dX4_end_6 : decode cX4_end 6 = .ok (.aload_n 3, 1) := by decide +kernel
theorem dX4_end_7 : decode cX4_end 7 = .ok (.ifnonnull 6, 3) := by decide +kernel
theorem dX4_end_10 : decode cX4_end 10 = .ok (.ldc 74, 2) := by decide +kernel
theorem dX4_end_12 : decode cX4_end 12 = .ok (.ireturn, 1) := by decide +kernel
theorem dX4_end_13 : decode cX4_end 13 = .ok (.iload_n 2, 1) := by decide +kernel
theorem dX4_end_14 : decode cX4_end 14 = .ok (.lookupswitch 46 #[(0, 26), (1, 36)], 26) := by decide +kernel
theorem dX4_end_40 : decode cX4_end 40 = .ok (.aload_n 3, 1) := by decide +kernel
theorem dX4_end_41 : decode cX4_end 41 = .ok (.getfield 112, 3) := by decide +kernel
theorem dX4_end_44 : decode cX4_end 44 = .ok (.aload_n 3, 1) := by decide +kernel
theorem dX4_end_45 : decode cX4_end 45 = .ok (.getfield 115, 3) := by decide +kernel
theorem dX4_end_48 : decode cX4_end 48 = .ok (.iadd, 1) := by decide +kernel
theorem dX4_end_49 : decode cX4_end 49 = .ok (.ireturn, 1) := by decide +kernel
theorem dX4_end_50 : decode cX4_end 50 = .ok (.aload_n 3, 1) := by decide +kernel
theorem dX4_end_51 : decode cX4_end 51 = .ok (.getfield 118, 3) := by decide +kernel
theorem dX4_end_54 : decode cX4_end 54 = .ok (.aload_n 3, 1) := by decide +kernel
theorem dX4_end_55 : decode cX4_end 55 = .ok (.getfield 121, 3) := by decide +kernel
theorem dX4_end_58 : decode cX4_end 58 = .ok (.iadd, 1) := by decide +kernel
theorem dX4_end_59 : decode cX4_end 59 = .ok (.ireturn, 1) := by decide +kernel
theorem dX4_end_60 : decode cX4_end 60 = .ok (.ldc 36, 2) := by decide +kernel
theorem dX4_end_62 : decode cX4_end 62 = .ok (.ireturn, 1) := by decide +kernel
set_option maxRecDepth 20000 in
theorem ggX4_alike_X4_roadAt : GoodIn wsX4_alike wsX4_roadAt := goodIn_r _ [9, 10, 11, 32, 33, 34, 35, 36, 37] (by decide +kernel) (by decide +kernel)
set_option maxRecDepth 20000 in
theorem gX4_alike_X4_roadAt : GoodIn wsX4_alike (wsV RX4 70 RX4 yX4_roadAt wsX4_roadAt) := goodIn_app (goodIn_of _ (by decide +kernel)) ggX4_alike_X4_roadAt
set_option maxRecDepth 20000 in
theorem ggX4_alike_X3_turnTo : GoodIn wsX4_alike wsX3_turnTo := goodIn_r _ [16, 17, 18, 19, 20, 21, 15, 22, 23, 24, 25, 26, 27, 28, 29, 30, 31] (by decide +kernel) (by decide +kernel)
set_option maxRecDepth 20000 in
theorem gX4_alike_X3_turnTo : GoodIn wsX4_alike (wsV RX4 127 RX3 yX3_turnTo wsX3_turnTo) := goodIn_app (goodIn_of _ (by decide +kernel)) ggX4_alike_X3_turnTo
theorem dX4_alike_0 : decode cX4_alike 0 = .ok (.aload_n 0, 1) := by decide +kernel
theorem dX4_alike_1 : decode cX4_alike 1 = .ok (.iload_n 1, 1) := by decide +kernel
theorem dX4_alike_2 : decode cX4_alike 2 = .ok (.invokevirtual 70, 3) := by decide +kernel
theorem dX4_alike_5 : decode cX4_alike 5 = .ok (.astore_n 3, 1) := by decide +kernel
theorem dX4_alike_6 : decode cX4_alike 6 = .ok (.aload_n 0, 1) := by decide +kernel
theorem dX4_alike_7 : decode cX4_alike 7 = .ok (.iload_n 2, 1) := by decide +kernel
theorem dX4_alike_8 : decode cX4_alike 8 = .ok (.invokevirtual 70, 3) := by decide +kernel
theorem dX4_alike_11 : decode cX4_alike 11 = .ok (.astore 4, 2) := by decide +kernel
theorem dX4_alike_13 : decode cX4_alike 13 = .ok (.aload_n 3, 1) := by decide +kernel
theorem dX4_alike_14 : decode cX4_alike 14 = .ok (.ifnull 8, 3) := by decide +kernel
theorem dX4_alike_17 : decode cX4_alike 17 = .ok (.aload 4, 2) := by decide +kernel
theorem dX4_alike_19 : decode cX4_alike 19 = .ok (.ifnonnull 6, 3) := by decide +kernel
theorem dX4_alike_22 : decode cX4_alike 22 = .ok (.ldc 74, 2) := by decide +kernel
theorem dX4_alike_24 : decode cX4_alike 24 = .ok (.ireturn, 1) := by decide +kernel
theorem dX4_alike_25 : decode cX4_alike 25 = .ok (.aload_n 3, 1) := by decide +kernel
theorem dX4_alike_26 : decode cX4_alike 26 = .ok (.getfield 75, 3) := by decide +kernel
theorem dX4_alike_29 : decode cX4_alike 29 = .ok (.aload 4, 2) := by decide +kernel
theorem dX4_alike_31 : decode cX4_alike 31 = .ok (.getfield 75, 3) := by decide +kernel
theorem dX4_alike_34 : decode cX4_alike 34 = .ok (.if_icmp .ne 16, 3) := by decide +kernel
theorem dX4_alike_37 : decode cX4_alike 37 = .ok (.aload_n 3, 1) := by decide +kernel
theorem dX4_alike_38 : decode cX4_alike 38 = .ok (.aload 4, 2) := by decide +kernel
theorem dX4_alike_40 : decode cX4_alike 40 = .ok (.getfield 76, 3) := by decide +kernel
theorem dX4_alike_43 : decode cX4_alike 43 = .ok (.iconst 0, 1) := by decide +kernel
theorem dX4_alike_44 : decode cX4_alike 44 = .ok (.invokevirtual 127, 3) := by decide +kernel
theorem dX4_alike_47 : decode cX4_alike 47 = .ok (.goto 5, 3) := by decide +kernel
theorem dX4_alike_50 : decode cX4_alike 50 = .ok (.ldc 130, 2) := by decide +kernel
theorem dX4_alike_52 : decode cX4_alike 52 = .ok (.ireturn, 1) := by decide +kernel
set_option maxRecDepth 20000 in
theorem ggX4_cross_X4_roadAt : GoodIn wsX4_cross wsX4_roadAt := goodIn_r _ [7, 8, 9, 30, 31, 32, 33, 34, 35] (by decide +kernel) (by decide +kernel)
set_option maxRecDepth 20000 in
theorem gX4_cross_X4_roadAt : GoodIn wsX4_cross (wsV RX4 70 RX4 yX4_roadAt wsX4_roadAt) := goodIn_app (goodIn_of _ (by decide +kernel)) ggX4_cross_X4_roadAt
set_option maxRecDepth 20000 in
theorem ggX4_cross_X3_isClosed : GoodIn wsX4_cross wsX3_isClosed := goodIn_r _ [14, 15, 16, 36, 37, 38, 39, 40, 41, 42] (by decide +kernel) (by decide +kernel)
set_option maxRecDepth 20000 in
theorem gX4_cross_X3_isClosed : GoodIn wsX4_cross (wsV RX4 93 RX3 yX3_isClosed wsX3_isClosed) := goodIn_app (goodIn_of _ (by decide +kernel)) ggX4_cross_X3_isClosed
set_option maxRecDepth 20000 in
theorem ggX4_cross_X3_crossings : GoodIn wsX4_cross wsX3_crossings := goodIn_r _ [20, 21, 22, 23, 24, 13, 25, 15, 26, 27, 28, 29, 36, 37, 38, 39, 40, 41, 42] (by decide +kernel) (by decide +kernel)
set_option maxRecDepth 20000 in
theorem gX4_cross_X3_crossings : GoodIn wsX4_cross (wsV RX4 131 RX3 yX3_crossings wsX3_crossings) := goodIn_app (goodIn_of _ (by decide +kernel)) ggX4_cross_X3_crossings
theorem dX4_cross_0 : decode cX4_cross 0 = .ok (.aload_n 0, 1) := by decide +kernel
theorem dX4_cross_1 : decode cX4_cross 1 = .ok (.iload_n 1, 1) := by decide +kernel
theorem dX4_cross_2 : decode cX4_cross 2 = .ok (.invokevirtual 70, 3) := by decide +kernel
theorem dX4_cross_5 : decode cX4_cross 5 = .ok (.astore_n 3, 1) := by decide +kernel
theorem dX4_cross_6 : decode cX4_cross 6 = .ok (.aload_n 0, 1) := by decide +kernel
theorem dX4_cross_7 : decode cX4_cross 7 = .ok (.iload_n 2, 1) := by decide +kernel
theorem dX4_cross_8 : decode cX4_cross 8 = .ok (.invokevirtual 70, 3) := by decide +kernel
theorem dX4_cross_11 : decode cX4_cross 11 = .ok (.astore 4, 2) := by decide +kernel
theorem dX4_cross_13 : decode cX4_cross 13 = .ok (.aload_n 3, 1) := by decide +kernel
theorem dX4_cross_14 : decode cX4_cross 14 = .ok (.ifnull 8, 3) := by decide +kernel
theorem dX4_cross_17 : decode cX4_cross 17 = .ok (.aload 4, 2) := by decide +kernel
theorem dX4_cross_19 : decode cX4_cross 19 = .ok (.ifnonnull 6, 3) := by decide +kernel
theorem dX4_cross_22 : decode cX4_cross 22 = .ok (.ldc 74, 2) := by decide +kernel
theorem dX4_cross_24 : decode cX4_cross 24 = .ok (.ireturn, 1) := by decide +kernel
theorem dX4_cross_25 : decode cX4_cross 25 = .ok (.aload_n 3, 1) := by decide +kernel
theorem dX4_cross_26 : decode cX4_cross 26 = .ok (.invokevirtual 93, 3) := by decide +kernel
theorem dX4_cross_29 : decode cX4_cross 29 = .ok (.ifCond .eq 20, 3) := by decide +kernel
theorem dX4_cross_32 : decode cX4_cross 32 = .ok (.aload 4, 2) := by decide +kernel
theorem dX4_cross_34 : decode cX4_cross 34 = .ok (.invokevirtual 93, 3) := by decide +kernel
theorem dX4_cross_37 : decode cX4_cross 37 = .ok (.ifCond .eq 12, 3) := by decide +kernel
theorem dX4_cross_40 : decode cX4_cross 40 = .ok (.aload_n 3, 1) := by decide +kernel
theorem dX4_cross_41 : decode cX4_cross 41 = .ok (.aload 4, 2) := by decide +kernel
theorem dX4_cross_43 : decode cX4_cross 43 = .ok (.invokevirtual 131, 3) := by decide +kernel
theorem dX4_cross_46 : decode cX4_cross 46 = .ok (.goto 5, 3) := by decide +kernel
theorem dX4_cross_49 : decode cX4_cross 49 = .ok (.ldc 56, 2) := by decide +kernel
theorem dX4_cross_51 : decode cX4_cross 51 = .ok (.ireturn, 1) := by decide +kernel
set_option maxRecDepth 20000 in
theorem ggX4_turn_X4_roadAt : GoodIn wsX4_turn wsX4_roadAt := goodIn_r _ [8, 9, 10, 48, 49, 50, 51, 52, 53] (by decide +kernel) (by decide +kernel)
set_option maxRecDepth 20000 in
theorem gX4_turn_X4_roadAt : GoodIn wsX4_turn (wsV RX4 70 RX4 yX4_roadAt wsX4_roadAt) := goodIn_app (goodIn_of _ (by decide +kernel)) ggX4_turn_X4_roadAt
set_option maxRecDepth 20000 in
theorem ggX4_turn_X3_rotation : GoodIn wsX4_turn wsX3_rotation := goodIn_r _ [15, 16, 17, 18, 41, 42, 43, 44, 45, 46, 47] (by decide +kernel) (by decide +kernel)
set_option maxRecDepth 20000 in
theorem gX4_turn_X3_rotation : GoodIn wsX4_turn (wsV RX4 135 RX3 yX3_rotation wsX3_rotation) := goodIn_app (goodIn_of _ (by decide +kernel)) ggX4_turn_X3_rotation
set_option maxRecDepth 20000 in
theorem ggX4_turn_X3_become : GoodIn wsX4_turn wsX3_become := goodIn_r _ [22, 16, 17, 18, 23, 24, 25, 26, 27, 28, 29, 14, 30, 41, 42, 43, 44, 45, 46, 47] (by decide +kernel) (by decide +kernel)
set_option maxRecDepth 20000 in
theorem gX4_turn_X3_become : GoodIn wsX4_turn (wsV RX4 138 RX3 yX3_become wsX3_become) := goodIn_app (goodIn_of _ (by decide +kernel)) ggX4_turn_X3_become
set_option maxRecDepth 20000 in
theorem ggX4_turn_X3_period : GoodIn wsX4_turn wsX3_period := goodIn_r _ [34, 16, 35, 17, 36, 37, 38, 14, 39, 40, 12, 13, 15, 18, 41, 42, 43, 44, 45, 46, 47] (by decide +kernel) (by decide +kernel)
set_option maxRecDepth 20000 in
theorem gX4_turn_X3_period : GoodIn wsX4_turn (wsV RX4 83 RX3 yX3_period wsX3_period) := goodIn_app (goodIn_of _ (by decide +kernel)) ggX4_turn_X3_period
theorem dX4_turn_0 : decode cX4_turn 0 = .ok (.aload_n 0, 1) := by decide +kernel
theorem dX4_turn_1 : decode cX4_turn 1 = .ok (.iload_n 1, 1) := by decide +kernel
theorem dX4_turn_2 : decode cX4_turn 2 = .ok (.invokevirtual 70, 3) := by decide +kernel
theorem dX4_turn_5 : decode cX4_turn 5 = .ok (.astore_n 3, 1) := by decide +kernel
theorem dX4_turn_6 : decode cX4_turn 6 = .ok (.aload_n 3, 1) := by decide +kernel
theorem dX4_turn_7 : decode cX4_turn 7 = .ok (.ifnonnull 6, 3) := by decide +kernel
theorem dX4_turn_10 : decode cX4_turn 10 = .ok (.ldc 74, 2) := by decide +kernel
theorem dX4_turn_12 : decode cX4_turn 12 = .ok (.ireturn, 1) := by decide +kernel
theorem dX4_turn_13 : decode cX4_turn 13 = .ok (.iload_n 2, 1) := by decide +kernel
theorem dX4_turn_14 : decode cX4_turn 14 = .ok (.ifCond .lt 11, 3) := by decide +kernel
theorem dX4_turn_17 : decode cX4_turn 17 = .ok (.iload_n 2, 1) := by decide +kernel
theorem dX4_turn_18 : decode cX4_turn 18 = .ok (.aload_n 3, 1) := by decide +kernel
theorem dX4_turn_19 : decode cX4_turn 19 = .ok (.getfield 75, 3) := by decide +kernel
theorem dX4_turn_22 : decode cX4_turn 22 = .ok (.if_icmp .lt 6, 3) := by decide +kernel
theorem dX4_turn_25 : decode cX4_turn 25 = .ok (.ldc 36, 2) := by decide +kernel
theorem dX4_turn_27 : decode cX4_turn 27 = .ok (.ireturn, 1) := by decide +kernel
theorem dX4_turn_28 : decode cX4_turn 28 = .ok (.aload_n 3, 1) := by decide +kernel
theorem dX4_turn_29 : decode cX4_turn 29 = .ok (.aload_n 3, 1) := by decide +kernel
theorem dX4_turn_30 : decode cX4_turn 30 = .ok (.iload_n 2, 1) := by decide +kernel
theorem dX4_turn_31 : decode cX4_turn 31 = .ok (.invokevirtual 135, 3) := by decide +kernel
theorem dX4_turn_34 : decode cX4_turn 34 = .ok (.aload_n 3, 1) := by decide +kernel
theorem dX4_turn_35 : decode cX4_turn 35 = .ok (.getfield 75, 3) := by decide +kernel
theorem dX4_turn_38 : decode cX4_turn 38 = .ok (.invokevirtual 138, 3) := by decide +kernel
theorem dX4_turn_41 : decode cX4_turn 41 = .ok (.aload_n 3, 1) := by decide +kernel
theorem dX4_turn_42 : decode cX4_turn 42 = .ok (.invokevirtual 83, 3) := by decide +kernel
theorem dX4_turn_45 : decode cX4_turn 45 = .ok (.ireturn, 1) := by decide +kernel
set_option maxRecDepth 20000 in
theorem ggX4_change_X4_roadAt : GoodIn wsX4_change wsX4_roadAt := goodIn_r _ [8, 9, 10, 58, 59, 60, 61, 62, 63] (by decide +kernel) (by decide +kernel)
set_option maxRecDepth 20000 in
theorem gX4_change_X4_roadAt : GoodIn wsX4_change (wsV RX4 70 RX4 yX4_roadAt wsX4_roadAt) := goodIn_app (goodIn_of _ (by decide +kernel)) ggX4_change_X4_roadAt
set_option maxRecDepth 20000 in
theorem ggX4_change_X3_changed : GoodIn wsX4_change wsX3_changed := goodIn_r _ [15, 16, 17, 18, 19, 14, 20, 21, 22, 23, 24, 25, 26, 27, 28, 29, 30, 31, 32, 33, 34, 35, 36, 37, 38, 51, 52, 53, 54, 55, 56, 57] (by decide +kernel) (by decide +kernel)
set_option maxRecDepth 20000 in
theorem gX4_change_X3_changed : GoodIn wsX4_change (wsV RX4 142 RX3 yX3_changed wsX3_changed) := goodIn_app (goodIn_of _ (by decide +kernel)) ggX4_change_X3_changed
set_option maxRecDepth 20000 in
theorem ggX4_change_X3_become : GoodIn wsX4_change wsX3_become := goodIn_r _ [42, 16, 21, 30, 43, 44, 45, 46, 22, 23, 24, 14, 25, 51, 52, 53, 54, 55, 56, 57] (by decide +kernel) (by decide +kernel)
set_option maxRecDepth 20000 in
theorem gX4_change_X3_become : GoodIn wsX4_change (wsV RX4 138 RX3 yX3_become wsX3_become) := goodIn_app (goodIn_of _ (by decide +kernel)) ggX4_change_X3_become
set_option maxRecDepth 20000 in
theorem ggX4_change_X3_traceSum : GoodIn wsX4_change wsX3_traceSum := goodIn_r _ [50, 43, 46, 51, 52, 53, 54, 55, 56, 57] (by decide +kernel) (by decide +kernel)
set_option maxRecDepth 20000 in
theorem gX4_change_X3_traceSum : GoodIn wsX4_change (wsV RX4 90 RX3 yX3_traceSum wsX3_traceSum) := goodIn_app (goodIn_of _ (by decide +kernel)) ggX4_change_X3_traceSum
theorem dX4_change_0 : decode cX4_change 0 = .ok (.aload_n 0, 1) := by decide +kernel
theorem dX4_change_1 : decode cX4_change 1 = .ok (.iload_n 1, 1) := by decide +kernel
theorem dX4_change_2 : decode cX4_change 2 = .ok (.invokevirtual 70, 3) := by decide +kernel
theorem dX4_change_5 : decode cX4_change 5 = .ok (.astore_n 3, 1) := by decide +kernel
theorem dX4_change_6 : decode cX4_change 6 = .ok (.aload_n 3, 1) := by decide +kernel
theorem dX4_change_7 : decode cX4_change 7 = .ok (.ifnonnull 6, 3) := by decide +kernel
theorem dX4_change_10 : decode cX4_change 10 = .ok (.ldc 74, 2) := by decide +kernel
theorem dX4_change_12 : decode cX4_change 12 = .ok (.ireturn, 1) := by decide +kernel
theorem dX4_change_13 : decode cX4_change 13 = .ok (.iload_n 2, 1) := by decide +kernel
theorem dX4_change_14 : decode cX4_change 14 = .ok (.ifCond .lt 8, 3) := by decide +kernel
theorem dX4_change_17 : decode cX4_change 17 = .ok (.iload_n 2, 1) := by decide +kernel
theorem dX4_change_18 : decode cX4_change 18 = .ok (.iconst 3, 1) := by decide +kernel
theorem dX4_change_19 : decode cX4_change 19 = .ok (.if_icmp .lt 6, 3) := by decide +kernel
theorem dX4_change_22 : decode cX4_change 22 = .ok (.ldc 36, 2) := by decide +kernel
theorem dX4_change_24 : decode cX4_change 24 = .ok (.ireturn, 1) := by decide +kernel
theorem dX4_change_25 : decode cX4_change 25 = .ok (.aload_n 3, 1) := by decide +kernel
theorem dX4_change_26 : decode cX4_change 26 = .ok (.aload_n 3, 1) := by decide +kernel
theorem dX4_change_27 : decode cX4_change 27 = .ok (.iload_n 2, 1) := by decide +kernel
theorem dX4_change_28 : decode cX4_change 28 = .ok (.invokevirtual 142, 3) := by decide +kernel
theorem dX4_change_31 : decode cX4_change 31 = .ok (.aload_n 3, 1) := by decide +kernel
theorem dX4_change_32 : decode cX4_change 32 = .ok (.getfield 75, 3) := by decide +kernel
theorem dX4_change_35 : decode cX4_change 35 = .ok (.invokevirtual 138, 3) := by decide +kernel
theorem dX4_change_38 : decode cX4_change 38 = .ok (.aload_n 3, 1) := by decide +kernel
theorem dX4_change_39 : decode cX4_change 39 = .ok (.invokevirtual 90, 3) := by decide +kernel
theorem dX4_change_42 : decode cX4_change 42 = .ok (.ireturn, 1) := by decide +kernel
set_option maxRecDepth 20000 in
theorem ggX4_join_X4_roadAt : GoodIn wsX4_join wsX4_roadAt := goodIn_r _ [8, 9, 10, 48, 49, 50, 51, 52, 53] (by decide +kernel) (by decide +kernel)
set_option maxRecDepth 20000 in
theorem gX4_join_X4_roadAt : GoodIn wsX4_join (wsV RX4 70 RX4 yX4_roadAt wsX4_roadAt) := goodIn_app (goodIn_of _ (by decide +kernel)) ggX4_join_X4_roadAt
set_option maxRecDepth 20000 in
theorem ggX4_join_X4_addRoad : GoodIn wsX4_join wsX4_addRoad := goodIn_r _ [14, 15, 9, 10, 16, 17, 18, 19, 20, 21, 22, 23, 24, 25, 26, 27, 28, 29, 30, 31, 32, 33, 34, 35, 36, 37, 38, 39, 40, 48, 49, 50, 51, 52, 53, 41, 42, 43, 44, 45, 46, 47] (by decide +kernel) (by decide +kernel)
set_option maxRecDepth 20000 in
theorem gX4_join_X4_addRoad : GoodIn wsX4_join (wsV RX4 63 RX4 yX4_addRoad wsX4_addRoad) := goodIn_app (goodIn_of _ (by decide +kernel)) ggX4_join_X4_addRoad
theorem dX4_join_0 : decode cX4_join 0 = .ok (.aload_n 0, 1) := by decide +kernel
theorem dX4_join_1 : decode cX4_join 1 = .ok (.iload_n 1, 1) := by decide +kernel
theorem dX4_join_2 : decode cX4_join 2 = .ok (.invokevirtual 70, 3) := by decide +kernel
theorem dX4_join_5 : decode cX4_join 5 = .ok (.astore_n 3, 1) := by decide +kernel
theorem dX4_join_6 : decode cX4_join 6 = .ok (.aload_n 0, 1) := by decide +kernel
theorem dX4_join_7 : decode cX4_join 7 = .ok (.iload_n 2, 1) := by decide +kernel
theorem dX4_join_8 : decode cX4_join 8 = .ok (.invokevirtual 70, 3) := by decide +kernel
theorem dX4_join_11 : decode cX4_join 11 = .ok (.astore 4, 2) := by decide +kernel
theorem dX4_join_13 : decode cX4_join 13 = .ok (.aload_n 3, 1) := by decide +kernel
theorem dX4_join_14 : decode cX4_join 14 = .ok (.ifnull 8, 3) := by decide +kernel
theorem dX4_join_17 : decode cX4_join 17 = .ok (.aload 4, 2) := by decide +kernel
theorem dX4_join_19 : decode cX4_join 19 = .ok (.ifnonnull 6, 3) := by decide +kernel
theorem dX4_join_22 : decode cX4_join 22 = .ok (.ldc 74, 2) := by decide +kernel
theorem dX4_join_24 : decode cX4_join 24 = .ok (.ireturn, 1) := by decide +kernel
theorem dX4_join_25 : decode cX4_join 25 = .ok (.aload_n 0, 1) := by decide +kernel
theorem dX4_join_26 : decode cX4_join 26 = .ok (.aload_n 3, 1) := by decide +kernel
theorem dX4_join_27 : decode cX4_join 27 = .ok (.getfield 76, 3) := by decide +kernel
theorem dX4_join_30 : decode cX4_join 30 = .ok (.aload 4, 2) := by decide +kernel
theorem dX4_join_32 : decode cX4_join 32 = .ok (.getfield 75, 3) := by decide +kernel
theorem dX4_join_35 : decode cX4_join 35 = .ok (.ishl, 1) := by decide +kernel
theorem dX4_join_36 : decode cX4_join 36 = .ok (.aload 4, 2) := by decide +kernel
theorem dX4_join_38 : decode cX4_join 38 = .ok (.getfield 76, 3) := by decide +kernel
theorem dX4_join_41 : decode cX4_join 41 = .ok (.ior, 1) := by decide +kernel
theorem dX4_join_42 : decode cX4_join 42 = .ok (.aload_n 3, 1) := by decide +kernel
theorem dX4_join_43 : decode cX4_join 43 = .ok (.getfield 75, 3) := by decide +kernel
theorem dX4_join_46 : decode cX4_join 46 = .ok (.aload 4, 2) := by decide +kernel
theorem dX4_join_48 : decode cX4_join 48 = .ok (.getfield 75, 3) := by decide +kernel
theorem dX4_join_51 : decode cX4_join 51 = .ok (.iadd, 1) := by decide +kernel
theorem dX4_join_52 : decode cX4_join 52 = .ok (.invokevirtual 63, 3) := by decide +kernel
theorem dX4_join_55 : decode cX4_join 55 = .ok (.ireturn, 1) := by decide +kernel
set_option maxRecDepth 20000 in
theorem ggX4_times_X4_roadAt : GoodIn wsX4_times wsX4_roadAt := goodIn_r _ [9, 10, 11, 49, 50, 51, 52, 53, 54] (by decide +kernel) (by decide +kernel)
set_option maxRecDepth 20000 in
theorem gX4_times_X4_roadAt : GoodIn wsX4_times (wsV RX4 70 RX4 yX4_roadAt wsX4_roadAt) := goodIn_app (goodIn_of _ (by decide +kernel)) ggX4_times_X4_roadAt
set_option maxRecDepth 20000 in
theorem ggX4_times_X4_addRoad : GoodIn wsX4_times wsX4_addRoad := goodIn_r _ [15, 16, 10, 11, 17, 18, 19, 20, 21, 22, 23, 24, 25, 26, 27, 28, 29, 30, 31, 32, 33, 34, 35, 36, 37, 38, 39, 40, 41, 49, 50, 51, 52, 53, 54, 42, 43, 44, 45, 46, 47, 48] (by decide +kernel) (by decide +kernel)
set_option maxRecDepth 20000 in
theorem gX4_times_X4_addRoad : GoodIn wsX4_times (wsV RX4 63 RX4 yX4_addRoad wsX4_addRoad) := goodIn_app (goodIn_of _ (by decide +kernel)) ggX4_times_X4_addRoad
theorem dX4_times_0 : decode cX4_times 0 = .ok (.aload_n 0, 1) := by decide +kernel
theorem dX4_times_1 : decode cX4_times 1 = .ok (.iload_n 1, 1) := by decide +kernel
theorem dX4_times_2 : decode cX4_times 2 = .ok (.invokevirtual 70, 3) := by decide +kernel
theorem dX4_times_5 : decode cX4_times 5 = .ok (.astore_n 3, 1) := by decide +kernel
theorem dX4_times_6 : decode cX4_times 6 = .ok (.aload_n 3, 1) := by decide +kernel
theorem dX4_times_7 : decode cX4_times 7 = .ok (.ifnonnull 6, 3) := by decide +kernel
theorem dX4_times_10 : decode cX4_times 10 = .ok (.ldc 74, 2) := by decide +kernel
theorem dX4_times_12 : decode cX4_times 12 = .ok (.ireturn, 1) := by decide +kernel
theorem dX4_times_13 : decode cX4_times 13 = .ok (.iload_n 2, 1) := by decide +kernel
theorem dX4_times_14 : decode cX4_times 14 = .ok (.iconst 2, 1) := by decide +kernel
theorem dX4_times_15 : decode cX4_times 15 = .ok (.if_icmp .lt 8, 3) := by decide +kernel
theorem dX4_times_18 : decode cX4_times 18 = .ok (.iload_n 2, 1) := by decide +kernel
theorem dX4_times_19 : decode cX4_times 19 = .ok (.iconst 5, 1) := by decide +kernel
theorem dX4_times_20 : decode cX4_times 20 = .ok (.if_icmp .le 6, 3) := by decide +kernel
theorem dX4_times_23 : decode cX4_times 23 = .ok (.ldc 36, 2) := by decide +kernel
theorem dX4_times_25 : decode cX4_times 25 = .ok (.ireturn, 1) := by decide +kernel
theorem dX4_times_26 : decode cX4_times 26 = .ok (.iconst 0, 1) := by decide +kernel
theorem dX4_times_27 : decode cX4_times 27 = .ok (.istore 4, 2) := by decide +kernel
theorem dX4_times_29 : decode cX4_times 29 = .ok (.iconst 0, 1) := by decide +kernel
theorem dX4_times_30 : decode cX4_times 30 = .ok (.istore 5, 2) := by decide +kernel
theorem dX4_times_32 : decode cX4_times 32 = .ok (.iload 5, 2) := by decide +kernel
theorem dX4_times_34 : decode cX4_times 34 = .ok (.iload_n 2, 1) := by decide +kernel
theorem dX4_times_35 : decode cX4_times 35 = .ok (.if_icmp .ge 23, 3) := by decide +kernel
theorem dX4_times_38 : decode cX4_times 38 = .ok (.iload 4, 2) := by decide +kernel
theorem dX4_times_40 : decode cX4_times 40 = .ok (.aload_n 3, 1) := by decide +kernel
theorem dX4_times_41 : decode cX4_times 41 = .ok (.getfield 75, 3) := by decide +kernel
theorem dX4_times_44 : decode cX4_times 44 = .ok (.ishl, 1) := by decide +kernel
theorem dX4_times_45 : decode cX4_times 45 = .ok (.aload_n 3, 1) := by decide +kernel
theorem dX4_times_46 : decode cX4_times 46 = .ok (.getfield 76, 3) := by decide +kernel
theorem dX4_times_49 : decode cX4_times 49 = .ok (.ior, 1) := by decide +kernel
theorem dX4_times_50 : decode cX4_times 50 = .ok (.istore 4, 2) := by decide +kernel
theorem dX4_times_52 : decode cX4_times 52 = .ok (.iinc 5 1, 3) := by decide +kernel
theorem dX4_times_55 : decode cX4_times 55 = .ok (.goto (-23), 3) := by decide +kernel
theorem dX4_times_58 : decode cX4_times 58 = .ok (.aload_n 0, 1) := by decide +kernel
theorem dX4_times_59 : decode cX4_times 59 = .ok (.iload 4, 2) := by decide +kernel
theorem dX4_times_61 : decode cX4_times 61 = .ok (.iload_n 2, 1) := by decide +kernel
theorem dX4_times_62 : decode cX4_times 62 = .ok (.aload_n 3, 1) := by decide +kernel
theorem dX4_times_63 : decode cX4_times 63 = .ok (.getfield 75, 3) := by decide +kernel
theorem dX4_times_66 : decode cX4_times 66 = .ok (.imul, 1) := by decide +kernel
theorem dX4_times_67 : decode cX4_times 67 = .ok (.invokevirtual 63, 3) := by decide +kernel
theorem dX4_times_70 : decode cX4_times 70 = .ok (.ireturn, 1) := by decide +kernel
set_option maxRecDepth 20000 in
theorem ggX4_cut_X4_commonDivisor : GoodIn wsX4_cut wsX4_commonDivisor := goodIn_r _ [5, 6, 7, 8, 9, 10, 11, 12] (by decide +kernel) (by decide +kernel)
set_option maxRecDepth 20000 in
theorem gX4_cut_X4_commonDivisor : GoodIn wsX4_cut (va_wsS RX4 145 yX4_commonDivisor wsX4_commonDivisor) := goodIn_app (goodIn_of _ (by decide +kernel)) ggX4_cut_X4_commonDivisor
set_option maxRecDepth 20000 in
theorem ggX4_cut_X4_addRoad : GoodIn wsX4_cut wsX4_addRoad := goodIn_r _ [16, 17, 18, 19, 20, 21, 22, 23, 24, 25, 26, 27, 28, 29, 30, 31, 32, 33, 34, 35, 36, 37, 38, 39, 40, 41, 42, 43, 44, 45, 46, 47, 48, 49, 50, 51, 52, 53, 54, 55, 56, 57] (by decide +kernel) (by decide +kernel)
set_option maxRecDepth 20000 in
theorem gX4_cut_X4_addRoad : GoodIn wsX4_cut (wsV RX4 63 RX4 yX4_addRoad wsX4_addRoad) := goodIn_app (goodIn_of _ (by decide +kernel)) ggX4_cut_X4_addRoad
theorem dX4_cut_0 : decode cX4_cut 0 = .ok (.iload_n 1, 1) := by decide +kernel
theorem dX4_cut_1 : decode cX4_cut 1 = .ok (.iconst 1, 1) := by decide +kernel
theorem dX4_cut_2 : decode cX4_cut 2 = .ok (.if_icmp .lt 34, 3) := by decide +kernel
theorem dX4_cut_5 : decode cX4_cut 5 = .ok (.iload_n 1, 1) := by decide +kernel
theorem dX4_cut_6 : decode cX4_cut 6 = .ok (.bipush 99, 2) := by decide +kernel
theorem dX4_cut_8 : decode cX4_cut 8 = .ok (.if_icmp .gt 28, 3) := by decide +kernel
theorem dX4_cut_11 : decode cX4_cut 11 = .ok (.iload_n 2, 1) := by decide +kernel
theorem dX4_cut_12 : decode cX4_cut 12 = .ok (.iconst 1, 1) := by decide +kernel
theorem dX4_cut_13 : decode cX4_cut 13 = .ok (.if_icmp .lt 23, 3) := by decide +kernel
theorem dX4_cut_16 : decode cX4_cut 16 = .ok (.iload_n 2, 1) := by decide +kernel
theorem dX4_cut_17 : decode cX4_cut 17 = .ok (.bipush 99, 2) := by decide +kernel
theorem dX4_cut_19 : decode cX4_cut 19 = .ok (.if_icmp .gt 17, 3) := by decide +kernel
theorem dX4_cut_22 : decode cX4_cut 22 = .ok (.iload_n 1, 1) := by decide +kernel
theorem dX4_cut_23 : decode cX4_cut 23 = .ok (.iload_n 2, 1) := by decide +kernel
theorem dX4_cut_24 : decode cX4_cut 24 = .ok (.if_icmp .eq 12, 3) := by decide +kernel
theorem dX4_cut_27 : decode cX4_cut 27 = .ok (.iload_n 1, 1) := by decide +kernel
theorem dX4_cut_28 : decode cX4_cut 28 = .ok (.iload_n 2, 1) := by decide +kernel
theorem dX4_cut_29 : decode cX4_cut 29 = .ok (.invokestatic 145, 3) := by decide +kernel
theorem dX4_cut_32 : decode cX4_cut 32 = .ok (.iconst 1, 1) := by decide +kernel
theorem dX4_cut_33 : decode cX4_cut 33 = .ok (.if_icmp .le 6, 3) := by decide +kernel
theorem dX4_cut_36 : decode cX4_cut 36 = .ok (.ldc 36, 2) := by decide +kernel
theorem dX4_cut_38 : decode cX4_cut 38 = .ok (.ireturn, 1) := by decide +kernel
theorem dX4_cut_39 : decode cX4_cut 39 = .ok (.iconst 0, 1) := by decide +kernel
theorem dX4_cut_40 : decode cX4_cut 40 = .ok (.istore_n 3, 1) := by decide +kernel
theorem dX4_cut_41 : decode cX4_cut 41 = .ok (.iconst 0, 1) := by decide +kernel
theorem dX4_cut_42 : decode cX4_cut 42 = .ok (.istore 4, 2) := by decide +kernel
theorem dX4_cut_44 : decode cX4_cut 44 = .ok (.iload_n 1, 1) := by decide +kernel
theorem dX4_cut_45 : decode cX4_cut 45 = .ok (.istore 5, 2) := by decide +kernel
theorem dX4_cut_47 : decode cX4_cut 47 = .ok (.iload_n 2, 1) := by decide +kernel
theorem dX4_cut_48 : decode cX4_cut 48 = .ok (.istore 6, 2) := by decide +kernel
theorem dX4_cut_50 : decode cX4_cut 50 = .ok (.iload 5, 2) := by decide +kernel
theorem dX4_cut_52 : decode cX4_cut 52 = .ok (.iload 6, 2) := by decide +kernel
theorem dX4_cut_54 : decode cX4_cut 54 = .ok (.if_icmp .eq 50, 3) := by decide +kernel
theorem dX4_cut_57 : decode cX4_cut 57 = .ok (.iload 4, 2) := by decide +kernel
theorem dX4_cut_59 : decode cX4_cut 59 = .ok (.bipush 99, 2) := by decide +kernel
theorem dX4_cut_61 : decode cX4_cut 61 = .ok (.if_icmp .ge 43, 3) := by decide +kernel
theorem dX4_cut_64 : decode cX4_cut 64 = .ok (.iload 5, 2) := by decide +kernel
theorem dX4_cut_66 : decode cX4_cut 66 = .ok (.iload 6, 2) := by decide +kernel
theorem dX4_cut_68 : decode cX4_cut 68 = .ok (.if_icmp .le 19, 3) := by decide +kernel
theorem dX4_cut_71 : decode cX4_cut 71 = .ok (.iload_n 3, 1) := by decide +kernel
theorem dX4_cut_72 : decode cX4_cut 72 = .ok (.iconst 1, 1) := by decide +kernel
theorem dX4_cut_73 : decode cX4_cut 73 = .ok (.ishl, 1) := by decide +kernel
theorem dX4_cut_74 : decode cX4_cut 74 = .ok (.iconst 1, 1) := by decide +kernel
theorem dX4_cut_75 : decode cX4_cut 75 = .ok (.ior, 1) := by decide +kernel
theorem dX4_cut_76 : decode cX4_cut 76 = .ok (.istore_n 3, 1) := by decide +kernel
theorem dX4_cut_77 : decode cX4_cut 77 = .ok (.iload 5, 2) := by decide +kernel
theorem dX4_cut_79 : decode cX4_cut 79 = .ok (.iload 6, 2) := by decide +kernel
theorem dX4_cut_81 : decode cX4_cut 81 = .ok (.isub, 1) := by decide +kernel
theorem dX4_cut_82 : decode cX4_cut 82 = .ok (.istore 5, 2) := by decide +kernel
theorem dX4_cut_84 : decode cX4_cut 84 = .ok (.goto 14, 3) := by decide +kernel
theorem dX4_cut_87 : decode cX4_cut 87 = .ok (.iload_n 3, 1) := by decide +kernel
theorem dX4_cut_88 : decode cX4_cut 88 = .ok (.iconst 1, 1) := by decide +kernel
theorem dX4_cut_89 : decode cX4_cut 89 = .ok (.ishl, 1) := by decide +kernel
theorem dX4_cut_90 : decode cX4_cut 90 = .ok (.istore_n 3, 1) := by decide +kernel
theorem dX4_cut_91 : decode cX4_cut 91 = .ok (.iload 6, 2) := by decide +kernel
theorem dX4_cut_93 : decode cX4_cut 93 = .ok (.iload 5, 2) := by decide +kernel
theorem dX4_cut_95 : decode cX4_cut 95 = .ok (.isub, 1) := by decide +kernel
theorem dX4_cut_96 : decode cX4_cut 96 = .ok (.istore 6, 2) := by decide +kernel
theorem dX4_cut_98 : decode cX4_cut 98 = .ok (.iinc 4 1, 3) := by decide +kernel
theorem dX4_cut_101 : decode cX4_cut 101 = .ok (.goto (-51), 3) := by decide +kernel
theorem dX4_cut_104 : decode cX4_cut 104 = .ok (.aload_n 0, 1) := by decide +kernel
theorem dX4_cut_105 : decode cX4_cut 105 = .ok (.iload_n 3, 1) := by decide +kernel
theorem dX4_cut_106 : decode cX4_cut 106 = .ok (.iload 4, 2) := by decide +kernel
theorem dX4_cut_108 : decode cX4_cut 108 = .ok (.invokevirtual 63, 3) := by decide +kernel
theorem dX4_cut_111 : decode cX4_cut 111 = .ok (.ireturn, 1) := by decide +kernel
theorem dX4_drop_0 : decode cX4_drop 0 = .ok (.aload_n 0, 1) := by decide +kernel
theorem dX4_drop_1 : decode cX4_drop 1 = .ok (.getfield 148, 3) := by decide +kernel
theorem dX4_drop_4 : decode cX4_drop 4 = .ok (.ifCond .gt 6, 3) := by decide +kernel
theorem dX4_drop_7 : decode cX4_drop 7 = .ok (.ldc 56, 2) := by decide +kernel
theorem dX4_drop_9 : decode cX4_drop 9 = .ok (.ireturn, 1) := by decide +kernel
theorem dX4_drop_10 : decode cX4_drop 10 = .ok (.aload_n 0, 1) := by decide +kernel
theorem dX4_drop_11 : decode cX4_drop 11 = .ok (.dup, 1) := by decide +kernel
theorem dX4_drop_12 : decode cX4_drop 12 = .ok (.getfield 148, 3) := by decide +kernel
theorem dX4_drop_15 : decode cX4_drop 15 = .ok (.iconst 1, 1) := by decide +kernel
theorem dX4_drop_16 : decode cX4_drop 16 = .ok (.isub, 1) := by decide +kernel
theorem dX4_drop_17 : decode cX4_drop 17 = .ok (.putfield 148, 3) := by decide +kernel
theorem dX4_drop_20 : decode cX4_drop 20 = .ok (.aload_n 0, 1) := by decide +kernel
theorem dX4_drop_21 : decode cX4_drop 21 = .ok (.getfield 148, 3) := by decide +kernel
theorem dX4_drop_24 : decode cX4_drop 24 = .ok (.ireturn, 1) := by decide +kernel
set_option maxRecDepth 20000 in
theorem ggX4_river_X4_isSquare : GoodIn wsX4_river wsX4_isSquare := goodIn_r _ [7] (by decide +kernel) (by decide +kernel)
set_option maxRecDepth 20000 in
theorem gX4_river_X4_isSquare : GoodIn wsX4_river (va_wsS RX4 151 yX4_isSquare wsX4_isSquare) := goodIn_app (goodIn_of _ (by decide +kernel)) ggX4_river_X4_isSquare
set_option maxRecDepth 20000 in
theorem ggX4_river_X2_become : GoodIn wsX4_river wsX2_become := goodIn_r _ [12, 13, 14, 15, 16, 17, 18, 11, 19, 20, 6, 21, 22, 23, 24, 25, 26, 27, 28, 29, 30, 31, 32, 33, 34, 35, 36, 37, 38, 39, 40, 41, 42, 43, 44, 45, 46, 47, 48, 49, 50, 51, 52, 53, 54, 55, 56, 57, 58, 59, 60, 61, 62, 63, 64, 65, 66, 67, 68, 69, 70, 71, 72, 73, 74, 75, 76, 77, 78, 79, 80, 81, 82, 83, 90, 91, 92, 93, 94] (by decide +kernel) (by decide +kernel)
set_option maxRecDepth 20000 in
theorem gX4_river_X2_become : GoodIn wsX4_river (wsV RX4 154 RX2 yX2_become wsX2_become) := goodIn_app (goodIn_of _ (by decide +kernel)) ggX4_river_X2_become
theorem dX4_river_0 : decode cX4_river 0 = .ok (.iload_n 1, 1) := by decide +kernel
theorem dX4_river_1 : decode cX4_river 1 = .ok (.iconst 5, 1) := by decide +kernel
theorem dX4_river_2 : decode cX4_river 2 = .ok (.if_icmp .lt 24, 3) := by decide +kernel
theorem dX4_river_5 : decode cX4_river 5 = .ok (.iload_n 1, 1) := by decide +kernel
theorem dX4_river_6 : decode cX4_river 6 = .ok (.sipush 900, 3) := by decide +kernel
theorem dX4_river_9 : decode cX4_river 9 = .ok (.if_icmp .gt 17, 3) := by decide +kernel
theorem dX4_river_12 : decode cX4_river 12 = .ok (.iload_n 1, 1) := by decide +kernel
theorem dX4_river_13 : decode cX4_river 13 = .ok (.iconst 4, 1) := by decide +kernel
theorem dX4_river_14 : decode cX4_river 14 = .ok (.irem, 1) := by decide +kernel
theorem dX4_river_15 : decode cX4_river 15 = .ok (.iconst 1, 1) := by decide +kernel
theorem dX4_river_16 : decode cX4_river 16 = .ok (.if_icmp .gt 10, 3) := by decide +kernel
theorem dX4_river_19 : decode cX4_river 19 = .ok (.iload_n 1, 1) := by decide +kernel
theorem dX4_river_20 : decode cX4_river 20 = .ok (.invokestatic 151, 3) := by decide +kernel
theorem dX4_river_23 : decode cX4_river 23 = .ok (.ifCond .eq 6, 3) := by decide +kernel
theorem dX4_river_26 : decode cX4_river 26 = .ok (.ldc 36, 2) := by decide +kernel
theorem dX4_river_28 : decode cX4_river 28 = .ok (.ireturn, 1) := by decide +kernel
theorem dX4_river_29 : decode cX4_river 29 = .ok (.aload_n 0, 1) := by decide +kernel
theorem dX4_river_30 : decode cX4_river 30 = .ok (.getfield 25, 3) := by decide +kernel
theorem dX4_river_33 : decode cX4_river 33 = .ok (.iload_n 1, 1) := by decide +kernel
theorem dX4_river_34 : decode cX4_river 34 = .ok (.invokevirtual 154, 3) := by decide +kernel
theorem dX4_river_37 : decode cX4_river 37 = .ok (.aload_n 0, 1) := by decide +kernel
theorem dX4_river_38 : decode cX4_river 38 = .ok (.getfield 25, 3) := by decide +kernel
theorem dX4_river_41 : decode cX4_river 41 = .ok (.getfield 156, 3) := by decide +kernel
theorem dX4_river_44 : decode cX4_river 44 = .ok (.ireturn, 1) := by decide +kernel
set_option maxRecDepth 20000 in
theorem ggX4_simple_X2_hasForm : GoodIn wsX4_simple wsX2_hasForm := goodIn_r _ [8, 9, 23, 24, 25, 26, 27] (by decide +kernel) (by decide +kernel)
set_option maxRecDepth 20000 in
theorem gX4_simple_X2_hasForm : GoodIn wsX4_simple (wsV RX4 157 RX2 yX2_hasForm wsX2_hasForm) := goodIn_app (goodIn_of _ (by decide +kernel)) ggX4_simple_X2_hasForm
set_option maxRecDepth 20000 in
theorem ggX4_simple_X2_ofForm : GoodIn wsX4_simple wsX2_ofForm := goodIn_r _ [13, 14, 15, 16, 5, 6, 7, 8, 9, 23, 24, 25, 26, 27] (by decide +kernel) (by decide +kernel)
set_option maxRecDepth 20000 in
theorem gX4_simple_X2_ofForm : GoodIn wsX4_simple (wsV RX4 160 RX2 yX2_ofForm wsX2_ofForm) := goodIn_app (goodIn_of _ (by decide +kernel)) ggX4_simple_X2_ofForm
theorem dX4_simple_0 : decode cX4_simple 0 = .ok (.aload_n 0, 1) := by decide +kernel
theorem dX4_simple_1 : decode cX4_simple 1 = .ok (.getfield 25, 3) := by decide +kernel
theorem dX4_simple_4 : decode cX4_simple 4 = .ok (.iload_n 1, 1) := by decide +kernel
theorem dX4_simple_5 : decode cX4_simple 5 = .ok (.invokevirtual 157, 3) := by decide +kernel
theorem dX4_simple_8 : decode cX4_simple 8 = .ok (.ifCond .ne 6, 3) := by decide +kernel
theorem dX4_simple_11 : decode cX4_simple 11 = .ok (.ldc 74, 2) := by decide +kernel
theorem dX4_simple_13 : decode cX4_simple 13 = .ok (.ireturn, 1) := by decide +kernel
theorem dX4_simple_14 : decode cX4_simple 14 = .ok (.iload_n 2, 1) := by decide +kernel
theorem dX4_simple_15 : decode cX4_simple 15 = .ok (.ifCond .lt 21, 3) := by decide +kernel
theorem dX4_simple_18 : decode cX4_simple 18 = .ok (.iload_n 2, 1) := by decide +kernel
theorem dX4_simple_19 : decode cX4_simple 19 = .ok (.bipush 8, 2) := by decide +kernel
theorem dX4_simple_21 : decode cX4_simple 21 = .ok (.if_icmp .ge 15, 3) := by decide +kernel
theorem dX4_simple_24 : decode cX4_simple 24 = .ok (.aload_n 0, 1) := by decide +kernel
theorem dX4_simple_25 : decode cX4_simple 25 = .ok (.getfield 25, 3) := by decide +kernel
theorem dX4_simple_28 : decode cX4_simple 28 = .ok (.iload_n 1, 1) := by decide +kernel
theorem dX4_simple_29 : decode cX4_simple 29 = .ok (.iload_n 2, 1) := by decide +kernel
theorem dX4_simple_30 : decode cX4_simple 30 = .ok (.invokevirtual 160, 3) := by decide +kernel
theorem dX4_simple_33 : decode cX4_simple 33 = .ok (.goto 5, 3) := by decide +kernel
theorem dX4_simple_36 : decode cX4_simple 36 = .ok (.ldc 36, 2) := by decide +kernel
theorem dX4_simple_38 : decode cX4_simple 38 = .ok (.ireturn, 1) := by decide +kernel
set_option maxRecDepth 20000 in
theorem ggX4_cycle_X2_hasCycle : GoodIn wsX4_cycle wsX2_hasCycle := goodIn_r _ [8, 9, 23, 24, 25, 26, 27] (by decide +kernel) (by decide +kernel)
set_option maxRecDepth 20000 in
theorem gX4_cycle_X2_hasCycle : GoodIn wsX4_cycle (wsV RX4 163 RX2 yX2_hasCycle wsX2_hasCycle) := goodIn_app (goodIn_of _ (by decide +kernel)) ggX4_cycle_X2_hasCycle
set_option maxRecDepth 20000 in
theorem ggX4_cycle_X2_ofCycle : GoodIn wsX4_cycle wsX2_ofCycle := goodIn_r _ [13, 14, 15, 16, 5, 6, 7, 8, 9, 23, 24, 25, 26, 27] (by decide +kernel) (by decide +kernel)
set_option maxRecDepth 20000 in
theorem gX4_cycle_X2_ofCycle : GoodIn wsX4_cycle (wsV RX4 166 RX2 yX2_ofCycle wsX2_ofCycle) := goodIn_app (goodIn_of _ (by decide +kernel)) ggX4_cycle_X2_ofCycle
theorem dX4_cycle_0 : decode cX4_cycle 0 = .ok (.aload_n 0, 1) := by decide +kernel
theorem dX4_cycle_1 : decode cX4_cycle 1 = .ok (.getfield 25, 3) := by decide +kernel
theorem dX4_cycle_4 : decode cX4_cycle 4 = .ok (.iload_n 1, 1) := by decide +kernel
theorem dX4_cycle_5 : decode cX4_cycle 5 = .ok (.invokevirtual 163, 3) := by decide +kernel
theorem dX4_cycle_8 : decode cX4_cycle 8 = .ok (.ifCond .ne 6, 3) := by decide +kernel
theorem dX4_cycle_11 : decode cX4_cycle 11 = .ok (.ldc 74, 2) := by decide +kernel
theorem dX4_cycle_13 : decode cX4_cycle 13 = .ok (.ireturn, 1) := by decide +kernel
theorem dX4_cycle_14 : decode cX4_cycle 14 = .ok (.iload_n 2, 1) := by decide +kernel
theorem dX4_cycle_15 : decode cX4_cycle 15 = .ok (.ifCond .lt 20, 3) := by decide +kernel
theorem dX4_cycle_18 : decode cX4_cycle 18 = .ok (.iload_n 2, 1) := by decide +kernel
theorem dX4_cycle_19 : decode cX4_cycle 19 = .ok (.iconst 5, 1) := by decide +kernel
theorem dX4_cycle_20 : decode cX4_cycle 20 = .ok (.if_icmp .ge 15, 3) := by decide +kernel
theorem dX4_cycle_23 : decode cX4_cycle 23 = .ok (.aload_n 0, 1) := by decide +kernel
theorem dX4_cycle_24 : decode cX4_cycle 24 = .ok (.getfield 25, 3) := by decide +kernel
theorem dX4_cycle_27 : decode cX4_cycle 27 = .ok (.iload_n 1, 1) := by decide +kernel
theorem dX4_cycle_28 : decode cX4_cycle 28 = .ok (.iload_n 2, 1) := by decide +kernel
theorem dX4_cycle_29 : decode cX4_cycle 29 = .ok (.invokevirtual 166, 3) := by decide +kernel
theorem dX4_cycle_32 : decode cX4_cycle 32 = .ok (.goto 5, 3) := by decide +kernel
theorem dX4_cycle_35 : decode cX4_cycle 35 = .ok (.ldc 36, 2) := by decide +kernel
theorem dX4_cycle_37 : decode cX4_cycle 37 = .ok (.ireturn, 1) := by decide +kernel
set_option maxRecDepth 20000 in
theorem ggX4_step_X2_hasCycle : GoodIn wsX4_step wsX2_hasCycle := goodIn_r _ [7, 8, 37, 38, 39, 40, 41] (by decide +kernel) (by decide +kernel)
set_option maxRecDepth 20000 in
theorem gX4_step_X2_hasCycle : GoodIn wsX4_step (wsV RX4 163 RX2 yX2_hasCycle wsX2_hasCycle) := goodIn_app (goodIn_of _ (by decide +kernel)) ggX4_step_X2_hasCycle
set_option maxRecDepth 20000 in
theorem ggX4_step_X2_ofCycle : GoodIn wsX4_step wsX2_ofCycle := goodIn_r _ [12, 13, 14, 15, 4, 5, 6, 7, 8, 37, 38, 39, 40, 41] (by decide +kernel) (by decide +kernel)
set_option maxRecDepth 20000 in
theorem gX4_step_X2_ofCycle : GoodIn wsX4_step (wsV RX4 166 RX2 yX2_ofCycle wsX2_ofCycle) := goodIn_app (goodIn_of _ (by decide +kernel)) ggX4_step_X2_ofCycle
set_option maxRecDepth 20000 in
theorem ggX4_step_X2_letterAt : GoodIn wsX4_step wsX2_letterAt := goodIn_r _ [19, 20, 10, 11, 6, 12, 13, 14, 15, 4, 5, 7, 8, 21, 22, 23, 24, 25, 26, 27, 28, 29, 30, 37, 38, 39, 40, 41] (by decide +kernel) (by decide +kernel)
