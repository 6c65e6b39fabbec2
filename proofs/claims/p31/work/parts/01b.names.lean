theorem dX3_formNumber_12 : decode cX3_formNumber 12 = .ok (.isub, 1) := by decide +kernel
theorem dX3_formNumber_13 : decode cX3_formNumber 13 = .ok (.invokestatic 59, 3) := by decide +kernel
theorem dX3_formNumber_16 : decode cX3_formNumber 16 = .ok (.aload_n 0, 1) := by decide +kernel
theorem dX3_formNumber_17 : decode cX3_formNumber 17 = .ok (.getfield 28, 3) := by decide +kernel
theorem dX3_formNumber_20 : decode cX3_formNumber 20 = .ok (.invokestatic 59, 3) := by decide +kernel
theorem dX3_formNumber_23 : decode cX3_formNumber 23 = .ok (.istore_n 2, 1) := by decide +kernel
theorem dX3_formNumber_24 : decode cX3_formNumber 24 = .ok (.aload_n 0, 1) := by decide +kernel
theorem dX3_formNumber_25 : decode cX3_formNumber 25 = .ok (.getfield 31, 3) := by decide +kernel
theorem dX3_formNumber_28 : decode cX3_formNumber 28 = .ok (.iload_n 2, 1) := by decide +kernel
theorem dX3_formNumber_29 : decode cX3_formNumber 29 = .ok (.idiv, 1) := by decide +kernel
theorem dX3_formNumber_30 : decode cX3_formNumber 30 = .ok (.istore_n 3, 1) := by decide +kernel
theorem dX3_formNumber_31 : decode cX3_formNumber 31 = .ok (.aload_n 0, 1) := by decide +kernel
theorem dX3_formNumber_32 : decode cX3_formNumber 32 = .ok (.getfield 34, 3) := by decide +kernel
theorem dX3_formNumber_35 : decode cX3_formNumber 35 = .ok (.aload_n 0, 1) := by decide +kernel
theorem dX3_formNumber_36 : decode cX3_formNumber 36 = .ok (.getfield 25, 3) := by decide +kernel
theorem dX3_formNumber_39 : decode cX3_formNumber 39 = .ok (.isub, 1) := by decide +kernel
theorem dX3_formNumber_40 : decode cX3_formNumber 40 = .ok (.iload_n 2, 1) := by decide +kernel
theorem dX3_formNumber_41 : decode cX3_formNumber 41 = .ok (.idiv, 1) := by decide +kernel
theorem dX3_formNumber_42 : decode cX3_formNumber 42 = .ok (.istore 4, 2) := by decide +kernel
theorem dX3_formNumber_44 : decode cX3_formNumber 44 = .ok (.aload_n 0, 1) := by decide +kernel
theorem dX3_formNumber_45 : decode cX3_formNumber 45 = .ok (.getfield 28, 3) := by decide +kernel
theorem dX3_formNumber_48 : decode cX3_formNumber 48 = .ok (.ineg, 1) := by decide +kernel
theorem dX3_formNumber_49 : decode cX3_formNumber 49 = .ok (.iload_n 2, 1) := by decide +kernel
theorem dX3_formNumber_50 : decode cX3_formNumber 50 = .ok (.idiv, 1) := by decide +kernel
theorem dX3_formNumber_51 : decode cX3_formNumber 51 = .ok (.istore 5, 2) := by decide +kernel
theorem dX3_formNumber_53 : decode cX3_formNumber 53 = .ok (.iload_n 1, 1) := by decide +kernel
theorem dX3_formNumber_54 : decode cX3_formNumber 54 = .ok (.tableswitch 40 0 3 #[30, 32, 35, 38], 30) := by decide +kernel
theorem dX3_formNumber_84 : decode cX3_formNumber 84 = .ok (.iload_n 3, 1) := by decide +kernel
theorem dX3_formNumber_85 : decode cX3_formNumber 85 = .ok (.ireturn, 1) := by decide +kernel
theorem dX3_formNumber_86 : decode cX3_formNumber 86 = .ok (.iload 4, 2) := by decide +kernel
theorem dX3_formNumber_88 : decode cX3_formNumber 88 = .ok (.ireturn, 1) := by decide +kernel
theorem dX3_formNumber_89 : decode cX3_formNumber 89 = .ok (.iload 5, 2) := by decide +kernel
theorem dX3_formNumber_91 : decode cX3_formNumber 91 = .ok (.ireturn, 1) := by decide +kernel
theorem dX3_formNumber_92 : decode cX3_formNumber 92 = .ok (.iload_n 2, 1) := by decide +kernel
theorem dX3_formNumber_93 : decode cX3_formNumber 93 = .ok (.ireturn, 1) := by decide +kernel
theorem dX3_formNumber_94 : decode cX3_formNumber 94 = .ok (.iload_n 3, 1) := by decide +kernel
theorem dX3_formNumber_95 : decode cX3_formNumber 95 = .ok (.iload 4, 2) := by decide +kernel
theorem dX3_formNumber_97 : decode cX3_formNumber 97 = .ok (.iload 5, 2) := by decide +kernel
theorem dX3_formNumber_99 : decode cX3_formNumber 99 = .ok (.invokestatic 62, 3) := by decide +kernel
theorem dX3_formNumber_102 : decode cX3_formNumber 102 = .ok (.ireturn, 1) := by decide +kernel
set_option maxRecDepth 20000 in
theorem ggX3_crossings_X3_bitAt : GoodIn wsX3_crossings wsX3_bitAt := goodIn_rq _ [6, 7, 1, 12, 13, 14, 15, 16, 17, 18] (by decide +kernel) (by decide +kernel)
set_option maxRecDepth 20000 in
theorem gX3_crossings_X3_bitAt : GoodIn wsX3_crossings (wsV RX3 37 RX3 yX3_bitAt wsX3_bitAt) := goodIn_app (goodIn_of _ (by decide +kernel)) ggX3_crossings_X3_bitAt
set_option maxRecDepth 20000 in
theorem ggX3_crossings_X3_crosses : GoodIn wsX3_crossings wsX3_crosses := goodIn_rq _ [11, 1, 2, 3, 4, 5, 6, 7, 12, 13, 14, 15, 16, 17, 18] (by decide +kernel) (by decide +kernel)
set_option maxRecDepth 20000 in
theorem gX3_crossings_X3_crosses : GoodIn wsX3_crossings (wsV RX3 66 RX3 yX3_crosses wsX3_crosses) := goodIn_app (goodIn_of _ (by decide +kernel)) ggX3_crossings_X3_crosses
theorem dX3_crossings_0 : decode cX3_crossings 0 = .ok (.iconst 0, 1) := by decide +kernel
theorem dX3_crossings_1 : decode cX3_crossings 1 = .ok (.istore_n 2, 1) := by decide +kernel
theorem dX3_crossings_2 : decode cX3_crossings 2 = .ok (.iconst 0, 1) := by decide +kernel
theorem dX3_crossings_3 : decode cX3_crossings 3 = .ok (.istore_n 3, 1) := by decide +kernel
theorem dX3_crossings_4 : decode cX3_crossings 4 = .ok (.iload_n 3, 1) := by decide +kernel
theorem dX3_crossings_5 : decode cX3_crossings 5 = .ok (.aload_n 0, 1) := by decide +kernel
theorem dX3_crossings_6 : decode cX3_crossings 6 = .ok (.getfield 19, 3) := by decide +kernel
theorem dX3_crossings_9 : decode cX3_crossings 9 = .ok (.if_icmp .ge 55, 3) := by decide +kernel
theorem dX3_crossings_12 : decode cX3_crossings 12 = .ok (.iconst 0, 1) := by decide +kernel
theorem dX3_crossings_13 : decode cX3_crossings 13 = .ok (.istore 4, 2) := by decide +kernel
theorem dX3_crossings_15 : decode cX3_crossings 15 = .ok (.iload 4, 2) := by decide +kernel
theorem dX3_crossings_17 : decode cX3_crossings 17 = .ok (.aload_n 1, 1) := by decide +kernel
theorem dX3_crossings_18 : decode cX3_crossings 18 = .ok (.getfield 19, 3) := by decide +kernel
theorem dX3_crossings_21 : decode cX3_crossings 21 = .ok (.if_icmp .ge 37, 3) := by decide +kernel
theorem dX3_crossings_24 : decode cX3_crossings 24 = .ok (.aload_n 0, 1) := by decide +kernel
theorem dX3_crossings_25 : decode cX3_crossings 25 = .ok (.iload_n 3, 1) := by decide +kernel
theorem dX3_crossings_26 : decode cX3_crossings 26 = .ok (.invokevirtual 37, 3) := by decide +kernel
theorem dX3_crossings_29 : decode cX3_crossings 29 = .ok (.aload_n 1, 1) := by decide +kernel
theorem dX3_crossings_30 : decode cX3_crossings 30 = .ok (.iload 4, 2) := by decide +kernel
theorem dX3_crossings_32 : decode cX3_crossings 32 = .ok (.invokevirtual 37, 3) := by decide +kernel
theorem dX3_crossings_35 : decode cX3_crossings 35 = .ok (.if_icmp .eq 17, 3) := by decide +kernel
theorem dX3_crossings_38 : decode cX3_crossings 38 = .ok (.aload_n 0, 1) := by decide +kernel
theorem dX3_crossings_39 : decode cX3_crossings 39 = .ok (.iload_n 3, 1) := by decide +kernel
theorem dX3_crossings_40 : decode cX3_crossings 40 = .ok (.aload_n 1, 1) := by decide +kernel
theorem dX3_crossings_41 : decode cX3_crossings 41 = .ok (.iload 4, 2) := by decide +kernel
theorem dX3_crossings_43 : decode cX3_crossings 43 = .ok (.invokevirtual 66, 3) := by decide +kernel
theorem dX3_crossings_46 : decode cX3_crossings 46 = .ok (.ifCond .eq 6, 3) := by decide +kernel
theorem dX3_crossings_49 : decode cX3_crossings 49 = .ok (.iinc 2 1, 3) := by decide +kernel
theorem dX3_crossings_52 : decode cX3_crossings 52 = .ok (.iinc 4 1, 3) := by decide +kernel
theorem dX3_crossings_55 : decode cX3_crossings 55 = .ok (.goto (-40), 3) := by decide +kernel
theorem dX3_crossings_58 : decode cX3_crossings 58 = .ok (.iinc 3 1, 3) := by decide +kernel
theorem dX3_crossings_61 : decode cX3_crossings 61 = .ok (.goto (-57), 3) := by decide +kernel
theorem dX3_crossings_64 : decode cX3_crossings 64 = .ok (.iload_n 2, 1) := by decide +kernel
theorem dX3_crossings_65 : decode cX3_crossings 65 = .ok (.ireturn, 1) := by decide +kernel
set_option maxRecDepth 20000 in
theorem ggX3_crosses_X3_bitAt : GoodIn wsX3_crosses wsX3_bitAt := goodIn_rq _ [6, 7, 1, 8, 9, 10, 11, 12, 13, 14] (by decide +kernel) (by decide +kernel)
set_option maxRecDepth 20000 in
theorem gX3_crosses_X3_bitAt : GoodIn wsX3_crosses (wsV RX3 37 RX3 yX3_bitAt wsX3_bitAt) := goodIn_app (goodIn_of _ (by decide +kernel)) ggX3_crosses_X3_bitAt
theorem dX3_crosses_0 : decode cX3_crosses 0 = .ok (.iload_n 1, 1) := by decide +kernel
theorem dX3_crosses_1 : decode cX3_crosses 1 = .ok (.istore 4, 2) := by decide +kernel
theorem dX3_crosses_3 : decode cX3_crosses 3 = .ok (.iload_n 3, 1) := by decide +kernel
theorem dX3_crosses_4 : decode cX3_crosses 4 = .ok (.istore 5, 2) := by decide +kernel
theorem dX3_crosses_6 : decode cX3_crosses 6 = .ok (.aload_n 0, 1) := by decide +kernel
theorem dX3_crosses_7 : decode cX3_crosses 7 = .ok (.getfield 19, 3) := by decide +kernel
theorem dX3_crosses_10 : decode cX3_crosses 10 = .ok (.aload_n 2, 1) := by decide +kernel
theorem dX3_crosses_11 : decode cX3_crosses 11 = .ok (.getfield 19, 3) := by decide +kernel
theorem dX3_crosses_14 : decode cX3_crosses 14 = .ok (.imul, 1) := by decide +kernel
theorem dX3_crosses_15 : decode cX3_crosses 15 = .ok (.istore 6, 2) := by decide +kernel
theorem dX3_crosses_17 : decode cX3_crosses 17 = .ok (.iload 6, 2) := by decide +kernel
theorem dX3_crosses_19 : decode cX3_crosses 19 = .ok (.ifCond .le 84, 3) := by decide +kernel
theorem dX3_crosses_22 : decode cX3_crosses 22 = .ok (.iload 4, 2) := by decide +kernel
theorem dX3_crosses_24 : decode cX3_crosses 24 = .ok (.ifCond .le 10, 3) := by decide +kernel
theorem dX3_crosses_27 : decode cX3_crosses 27 = .ok (.iload 4, 2) := by decide +kernel
theorem dX3_crosses_29 : decode cX3_crosses 29 = .ok (.iconst 1, 1) := by decide +kernel
theorem dX3_crosses_30 : decode cX3_crosses 30 = .ok (.isub, 1) := by decide +kernel
theorem dX3_crosses_31 : decode cX3_crosses 31 = .ok (.goto 9, 3) := by decide +kernel
theorem dX3_crosses_34 : decode cX3_crosses 34 = .ok (.aload_n 0, 1) := by decide +kernel
theorem dX3_crosses_35 : decode cX3_crosses 35 = .ok (.getfield 19, 3) := by decide +kernel
theorem dX3_crosses_38 : decode cX3_crosses 38 = .ok (.iconst 1, 1) := by decide +kernel
theorem dX3_crosses_39 : decode cX3_crosses 39 = .ok (.isub, 1) := by decide +kernel
theorem dX3_crosses_40 : decode cX3_crosses 40 = .ok (.istore 4, 2) := by decide +kernel
theorem dX3_crosses_42 : decode cX3_crosses 42 = .ok (.iload 5, 2) := by decide +kernel
theorem dX3_crosses_44 : decode cX3_crosses 44 = .ok (.ifCond .le 10, 3) := by decide +kernel
theorem dX3_crosses_47 : decode cX3_crosses 47 = .ok (.iload 5, 2) := by decide +kernel
theorem dX3_crosses_49 : decode cX3_crosses 49 = .ok (.iconst 1, 1) := by decide +kernel
theorem dX3_crosses_50 : decode cX3_crosses 50 = .ok (.isub, 1) := by decide +kernel
theorem dX3_crosses_51 : decode cX3_crosses 51 = .ok (.goto 9, 3) := by decide +kernel
theorem dX3_crosses_54 : decode cX3_crosses 54 = .ok (.aload_n 2, 1) := by decide +kernel
theorem dX3_crosses_55 : decode cX3_crosses 55 = .ok (.getfield 19, 3) := by decide +kernel
theorem dX3_crosses_58 : decode cX3_crosses 58 = .ok (.iconst 1, 1) := by decide +kernel
theorem dX3_crosses_59 : decode cX3_crosses 59 = .ok (.isub, 1) := by decide +kernel
theorem dX3_crosses_60 : decode cX3_crosses 60 = .ok (.istore 5, 2) := by decide +kernel
theorem dX3_crosses_62 : decode cX3_crosses 62 = .ok (.aload_n 0, 1) := by decide +kernel
theorem dX3_crosses_63 : decode cX3_crosses 63 = .ok (.iload 4, 2) := by decide +kernel
theorem dX3_crosses_65 : decode cX3_crosses 65 = .ok (.invokevirtual 37, 3) := by decide +kernel
theorem dX3_crosses_68 : decode cX3_crosses 68 = .ok (.aload_n 2, 1) := by decide +kernel
theorem dX3_crosses_69 : decode cX3_crosses 69 = .ok (.iload 5, 2) := by decide +kernel
theorem dX3_crosses_71 : decode cX3_crosses 71 = .ok (.invokevirtual 37, 3) := by decide +kernel
theorem dX3_crosses_74 : decode cX3_crosses 74 = .ok (.if_icmp .eq 23, 3) := by decide +kernel
theorem dX3_crosses_77 : decode cX3_crosses 77 = .ok (.aload_n 0, 1) := by decide +kernel
theorem dX3_crosses_78 : decode cX3_crosses 78 = .ok (.iload 4, 2) := by decide +kernel
theorem dX3_crosses_80 : decode cX3_crosses 80 = .ok (.invokevirtual 37, 3) := by decide +kernel
theorem dX3_crosses_83 : decode cX3_crosses 83 = .ok (.aload_n 0, 1) := by decide +kernel
theorem dX3_crosses_84 : decode cX3_crosses 84 = .ok (.iload_n 1, 1) := by decide +kernel
theorem dX3_crosses_85 : decode cX3_crosses 85 = .ok (.invokevirtual 37, 3) := by decide +kernel
theorem dX3_crosses_88 : decode cX3_crosses 88 = .ok (.if_icmp .eq 7, 3) := by decide +kernel
theorem dX3_crosses_91 : decode cX3_crosses 91 = .ok (.iconst 1, 1) := by decide +kernel
theorem dX3_crosses_92 : decode cX3_crosses 92 = .ok (.goto 4, 3) := by decide +kernel
theorem dX3_crosses_95 : decode cX3_crosses 95 = .ok (.iconst 0, 1) := by decide +kernel
theorem dX3_crosses_96 : decode cX3_crosses 96 = .ok (.ireturn, 1) := by decide +kernel
theorem dX3_crosses_97 : decode cX3_crosses 97 = .ok (.iinc 6 (-1), 3) := by decide +kernel
theorem dX3_crosses_100 : decode cX3_crosses 100 = .ok (.goto (-83), 3) := by decide +kernel
theorem dX3_crosses_103 : decode cX3_crosses 103 = .ok (.iconst 0, 1) := by decide +kernel
theorem dX3_crosses_104 : decode cX3_crosses 104 = .ok (.ireturn, 1) := by decide +kernel
set_option maxRecDepth 20000 in
theorem ggX4_init_X1_init : GoodIn wsX4_init wsX1_init := goodIn_rq _ [19, 20, 2, 3, 21, 22, 56, 57, 58, 59, 60, 61] (by decide +kernel) (by decide +kernel)
set_option maxRecDepth 20000 in
theorem gX4_init_X1_init_n9 : GoodIn wsX4_init (wsX1_init) := ggX4_init_X1_init
set_option maxRecDepth 20000 in
theorem ggX4_init_X2_init : GoodIn wsX4_init wsX2_init := goodIn_rq _ [24, 25, 2, 3, 26, 21, 27, 28, 68, 69, 70, 71, 72] (by decide +kernel) (by decide +kernel)
set_option maxRecDepth 20000 in
theorem gX4_init_X2_init_n24 : GoodIn wsX4_init (wsX2_init) := ggX4_init_X2_init
set_option maxRecDepth 20000 in
theorem ggX4_init_X0_init : GoodIn wsX4_init wsX0_init := goodIn_rq _ [30, 31, 2, 3, 32, 33, 34, 35, 36, 37, 38, 39, 40, 41, 42, 43, 44, 45, 46, 47, 48, 49, 50, 51, 52, 53, 54, 55, 79, 80, 81, 82, 83, 84, 85, 73, 74, 75, 76, 77, 78] (by decide +kernel) (by decide +kernel)
set_option maxRecDepth 20000 in
theorem gX4_init_X0_init_n31 : GoodIn wsX4_init (wsX0_init) := ggX4_init_X0_init
theorem dX4_init_0 : decode cX4_init 0 = .ok (.aload_n 0, 1) := by decide +kernel
theorem dX4_init_1 : decode cX4_init 1 = .ok (.invokespecial 1, 3) := by decide +kernel
theorem dX4_init_4 : decode cX4_init 4 = .ok (.aload_n 0, 1) := by decide +kernel
theorem dX4_init_5 : decode cX4_init 5 = .ok (.new 7, 3) := by decide +kernel
theorem dX4_init_8 : decode cX4_init 8 = .ok (.dup, 1) := by decide +kernel
theorem dX4_init_9 : decode cX4_init 9 = .ok (.invokespecial 9, 3) := by decide +kernel
theorem dX4_init_12 : decode cX4_init 12 = .ok (.putfield 10, 3) := by decide +kernel
theorem dX4_init_15 : decode cX4_init 15 = .ok (.aload_n 0, 1) := by decide +kernel
theorem dX4_init_16 : decode cX4_init 16 = .ok (.bipush 6, 2) := by decide +kernel
theorem dX4_init_18 : decode cX4_init 18 = .ok (.anewarray 16, 3) := by decide +kernel
theorem dX4_init_21 : decode cX4_init 21 = .ok (.putfield 18, 3) := by decide +kernel
theorem dX4_init_24 : decode cX4_init 24 = .ok (.aload_n 0, 1) := by decide +kernel
theorem dX4_init_25 : decode cX4_init 25 = .ok (.new 22, 3) := by decide +kernel
theorem dX4_init_28 : decode cX4_init 28 = .ok (.dup, 1) := by decide +kernel
theorem dX4_init_29 : decode cX4_init 29 = .ok (.invokespecial 24, 3) := by decide +kernel
theorem dX4_init_32 : decode cX4_init 32 = .ok (.putfield 25, 3) := by decide +kernel
theorem dX4_init_35 : decode cX4_init 35 = .ok (.aload_n 0, 1) := by decide +kernel
theorem dX4_init_36 : decode cX4_init 36 = .ok (.new 29, 3) := by decide +kernel
theorem dX4_init_39 : decode cX4_init 39 = .ok (.dup, 1) := by decide +kernel
theorem dX4_init_40 : decode cX4_init 40 = .ok (.invokespecial 31, 3) := by decide +kernel
theorem dX4_init_43 : decode cX4_init 43 = .ok (.putfield 32, 3) := by decide +kernel
theorem dX4_init_46 : decode cX4_init 46 = .ok (.return_, 1) := by decide +kernel
set_option maxRecDepth 20000 in
theorem ggX4_letter_X1_append : GoodIn wsX4_letter wsX1_append := goodIn_rq _ [9, 10, 11, 12, 13, 14, 15, 8, 16, 17, 18, 19, 26, 27, 28, 29, 30, 31] (by decide +kernel) (by decide +kernel)
set_option maxRecDepth 20000 in
theorem gX4_letter_X1_append : GoodIn wsX4_letter (wsV RX4 42 RX1 yX1_append wsX1_append) := goodIn_app (goodIn_of _ (by decide +kernel)) ggX4_letter_X1_append
theorem dX4_letter_0 : decode cX4_letter 0 = .ok (.iload_n 1, 1) := by decide +kernel
theorem dX4_letter_1 : decode cX4_letter 1 = .ok (.bipush 32, 2) := by decide +kernel
theorem dX4_letter_3 : decode cX4_letter 3 = .ok (.if_icmp .lt 9, 3) := by decide +kernel
theorem dX4_letter_6 : decode cX4_letter 6 = .ok (.iload_n 1, 1) := by decide +kernel
theorem dX4_letter_7 : decode cX4_letter 7 = .ok (.bipush 126, 2) := by decide +kernel
theorem dX4_letter_9 : decode cX4_letter 9 = .ok (.if_icmp .le 6, 3) := by decide +kernel
theorem dX4_letter_12 : decode cX4_letter 12 = .ok (.ldc 36, 2) := by decide +kernel
theorem dX4_letter_14 : decode cX4_letter 14 = .ok (.ireturn, 1) := by decide +kernel
theorem dX4_letter_15 : decode cX4_letter 15 = .ok (.aload_n 0, 1) := by decide +kernel
theorem dX4_letter_16 : decode cX4_letter 16 = .ok (.getfield 10, 3) := by decide +kernel
theorem dX4_letter_19 : decode cX4_letter 19 = .ok (.getfield 37, 3) := by decide +kernel
theorem dX4_letter_22 : decode cX4_letter 22 = .ok (.bipush 20, 2) := by decide +kernel
theorem dX4_letter_24 : decode cX4_letter 24 = .ok (.if_icmp .lt 6, 3) := by decide +kernel
theorem dX4_letter_27 : decode cX4_letter 27 = .ok (.ldc 41, 2) := by decide +kernel
theorem dX4_letter_29 : decode cX4_letter 29 = .ok (.ireturn, 1) := by decide +kernel
theorem dX4_letter_30 : decode cX4_letter 30 = .ok (.aload_n 0, 1) := by decide +kernel
theorem dX4_letter_31 : decode cX4_letter 31 = .ok (.getfield 10, 3) := by decide +kernel
theorem dX4_letter_34 : decode cX4_letter 34 = .ok (.iload_n 1, 1) := by decide +kernel
theorem dX4_letter_35 : decode cX4_letter 35 = .ok (.invokevirtual 42, 3) := by decide +kernel
theorem dX4_letter_38 : decode cX4_letter 38 = .ok (.aload_n 0, 1) := by decide +kernel
theorem dX4_letter_39 : decode cX4_letter 39 = .ok (.getfield 10, 3) := by decide +kernel
theorem dX4_letter_42 : decode cX4_letter 42 = .ok (.getfield 37, 3) := by decide +kernel
theorem dX4_letter_45 : decode cX4_letter 45 = .ok (.ireturn, 1) := by decide +kernel
set_option maxRecDepth 20000 in
theorem ggX4_blank_X1_clear : GoodIn wsX4_blank wsX1_clear := goodIn_rq _ [7, 8, 9, 10, 11, 12, 19, 20, 21, 22, 23, 24] (by decide +kernel) (by decide +kernel)
set_option maxRecDepth 20000 in
theorem gX4_blank_X1_clear : GoodIn wsX4_blank (wsV RX4 46 RX1 yX1_clear wsX1_clear) := goodIn_app (goodIn_of _ (by decide +kernel)) ggX4_blank_X1_clear
theorem dX4_blank_0 : decode cX4_blank 0 = .ok (.aload_n 0, 1) := by decide +kernel
theorem dX4_blank_1 : decode cX4_blank 1 = .ok (.getfield 10, 3) := by decide +kernel
theorem dX4_blank_4 : decode cX4_blank 4 = .ok (.getfield 37, 3) := by decide +kernel
theorem dX4_blank_7 : decode cX4_blank 7 = .ok (.istore_n 1, 1) := by decide +kernel
theorem dX4_blank_8 : decode cX4_blank 8 = .ok (.aload_n 0, 1) := by decide +kernel
theorem dX4_blank_9 : decode cX4_blank 9 = .ok (.getfield 10, 3) := by decide +kernel
theorem dX4_blank_12 : decode cX4_blank 12 = .ok (.invokevirtual 46, 3) := by decide +kernel
theorem dX4_blank_15 : decode cX4_blank 15 = .ok (.iload_n 1, 1) := by decide +kernel
theorem dX4_blank_16 : decode cX4_blank 16 = .ok (.ireturn, 1) := by decide +kernel
theorem dX4_fault_0 : decode cX4_fault 0 = .ok (.aload_n 0, 1) := by decide +kernel
theorem dX4_fault_1 : decode cX4_fault 1 = .ok (.getfield 10, 3) := by decide +kernel
theorem dX4_fault_4 : decode cX4_fault 4 = .ok (.getfield 49, 3) := by decide +kernel
theorem dX4_fault_7 : decode cX4_fault 7 = .ok (.ireturn, 1) := by decide +kernel
set_option maxRecDepth 20000 in
theorem ggX4_word_X1_isWord : GoodIn wsX4_word wsX1_isWord := goodIn_rq _ [10, 11, 12, 58, 59, 60, 61, 62, 63] (by decide +kernel) (by decide +kernel)
set_option maxRecDepth 20000 in
theorem gX4_word_X1_isWord : GoodIn wsX4_word (wsV RX4 52 RX1 yX1_isWord wsX1_isWord) := goodIn_app (goodIn_of _ (by decide +kernel)) ggX4_word_X1_isWord
set_option maxRecDepth 20000 in
theorem ggX4_word_X4_addRoad : GoodIn wsX4_word wsX4_addRoad := goodIn_rq _ [17, 2, 18, 19, 20, 21, 22, 23, 24, 25, 26, 27, 28, 29, 30, 31, 32, 33, 34, 35, 36, 37, 38, 39, 40, 41, 42, 43, 44, 52, 53, 54, 55, 56, 57, 64, 65, 66, 67, 68, 69, 70] (by decide +kernel) (by decide +kernel)
set_option maxRecDepth 20000 in
theorem gX4_word_X4_addRoad : GoodIn wsX4_word (wsV RX4 63 RX4 yX4_addRoad wsX4_addRoad) := goodIn_app (goodIn_of _ (by decide +kernel)) ggX4_word_X4_addRoad
set_option maxRecDepth 20000 in
theorem ggX4_word_X1_clear : GoodIn wsX4_word wsX1_clear := goodIn_rq _ [48, 11, 12, 49, 50, 51, 58, 59, 60, 61, 62, 63] (by decide +kernel) (by decide +kernel)
set_option maxRecDepth 20000 in
theorem gX4_word_X1_clear : GoodIn wsX4_word (wsV RX4 46 RX1 yX1_clear wsX1_clear) := goodIn_app (goodIn_of _ (by decide +kernel)) ggX4_word_X1_clear
theorem dX4_word_0 : decode cX4_word 0 = .ok (.aload_n 0, 1) := by decide +kernel
theorem dX4_word_1 : decode cX4_word 1 = .ok (.getfield 10, 3) := by decide +kernel
theorem dX4_word_4 : decode cX4_word 4 = .ok (.invokevirtual 52, 3) := by decide +kernel
theorem dX4_word_7 : decode cX4_word 7 = .ok (.ifCond .ne 6, 3) := by decide +kernel
theorem dX4_word_10 : decode cX4_word 10 = .ok (.ldc 56, 2) := by decide +kernel
theorem dX4_word_12 : decode cX4_word 12 = .ok (.ireturn, 1) := by decide +kernel
theorem dX4_word_13 : decode cX4_word 13 = .ok (.aload_n 0, 1) := by decide +kernel
theorem dX4_word_14 : decode cX4_word 14 = .ok (.aload_n 0, 1) := by decide +kernel
theorem dX4_word_15 : decode cX4_word 15 = .ok (.getfield 10, 3) := by decide +kernel
theorem dX4_word_18 : decode cX4_word 18 = .ok (.getfield 57, 3) := by decide +kernel
theorem dX4_word_21 : decode cX4_word 21 = .ok (.aload_n 0, 1) := by decide +kernel
theorem dX4_word_22 : decode cX4_word 22 = .ok (.getfield 10, 3) := by decide +kernel
theorem dX4_word_25 : decode cX4_word 25 = .ok (.getfield 60, 3) := by decide +kernel
theorem dX4_word_28 : decode cX4_word 28 = .ok (.invokevirtual 63, 3) := by decide +kernel
theorem dX4_word_31 : decode cX4_word 31 = .ok (.istore_n 1, 1) := by decide +kernel
theorem dX4_word_32 : decode cX4_word 32 = .ok (.iload_n 1, 1) := by decide +kernel
theorem dX4_word_33 : decode cX4_word 33 = .ok (.ifCond .lt 20, 3) := by decide +kernel
theorem dX4_word_36 : decode cX4_word 36 = .ok (.aload_n 0, 1) := by decide +kernel
theorem dX4_word_37 : decode cX4_word 37 = .ok (.getfield 10, 3) := by decide +kernel
theorem dX4_word_40 : decode cX4_word 40 = .ok (.invokevirtual 46, 3) := by decide +kernel
theorem dX4_word_43 : decode cX4_word 43 = .ok (.aload_n 0, 1) := by decide +kernel
theorem dX4_word_44 : decode cX4_word 44 = .ok (.dup, 1) := by decide +kernel
theorem dX4_word_45 : decode cX4_word 45 = .ok (.getfield 67, 3) := by decide +kernel
theorem dX4_word_48 : decode cX4_word 48 = .ok (.iconst 1, 1) := by decide +kernel
theorem dX4_word_49 : decode cX4_word 49 = .ok (.iadd, 1) := by decide +kernel
theorem dX4_word_50 : decode cX4_word 50 = .ok (.putfield 67, 3) := by decide +kernel
theorem dX4_word_53 : decode cX4_word 53 = .ok (.iload_n 1, 1) := by decide +kernel
theorem dX4_word_54 : decode cX4_word 54 = .ok (.ireturn, 1) := by decide +kernel
set_option maxRecDepth 20000 in
theorem ggX4_road_X4_roadAt : GoodIn wsX4_road wsX4_roadAt := goodIn_rq _ [9, 10, 11, 73, 74, 75, 76, 77, 78] (by decide +kernel) (by decide +kernel)
set_option maxRecDepth 20000 in
theorem gX4_road_X4_roadAt : GoodIn wsX4_road (wsV RX4 70 RX4 yX4_roadAt wsX4_roadAt) := goodIn_app (goodIn_of _ (by decide +kernel)) ggX4_road_X4_roadAt
set_option maxRecDepth 20000 in
theorem ggX4_road_J6_bitCount_0f7a4 : GoodIn wsX4_road wsJ6_bitCount_0f7a4 := goodIn_rq _ [15, 16, 17, 18] (by decide +kernel) (by decide +kernel)
set_option maxRecDepth 20000 in
theorem gX4_road_J6_bitCount_0f7a4 : GoodIn wsX4_road (va_wsS RX4 77 yJ6_bitCount_0f7a4 wsJ6_bitCount_0f7a4) := goodIn_app (goodIn_of _ (by decide +kernel)) ggX4_road_J6_bitCount_0f7a4
set_option maxRecDepth 20000 in
theorem ggX4_road_X3_period : GoodIn wsX4_road wsX3_period := goodIn_rq _ [23, 24, 25, 26, 27, 28, 29, 22, 30, 31, 32, 33, 34, 35, 66, 67, 68, 69, 70, 71, 72] (by decide +kernel) (by decide +kernel)
set_option maxRecDepth 20000 in
theorem gX4_road_X3_period : GoodIn wsX4_road (wsV RX4 83 RX3 yX3_period wsX3_period) := goodIn_app (goodIn_of _ (by decide +kernel)) ggX4_road_X3_period
set_option maxRecDepth 20000 in
theorem ggX4_road_X3_leastTurn : GoodIn wsX4_road wsX3_leastTurn := goodIn_rq _ [39, 26, 31, 32, 33, 22, 34, 24, 35, 66, 67, 68, 69, 70, 71, 72] (by decide +kernel) (by decide +kernel)
set_option maxRecDepth 20000 in
theorem gX4_road_X3_leastTurn : GoodIn wsX4_road (wsV RX4 87 RX3 yX3_leastTurn wsX3_leastTurn) := goodIn_app (goodIn_of _ (by decide +kernel)) ggX4_road_X3_leastTurn
set_option maxRecDepth 20000 in
theorem ggX4_road_X3_traceSum : GoodIn wsX4_road wsX3_traceSum := goodIn_rq _ [43, 44, 45, 66, 67, 68, 69, 70, 71, 72] (by decide +kernel) (by decide +kernel)
set_option maxRecDepth 20000 in
theorem gX4_road_X3_traceSum : GoodIn wsX4_road (wsV RX4 90 RX3 yX3_traceSum wsX3_traceSum) := goodIn_app (goodIn_of _ (by decide +kernel)) ggX4_road_X3_traceSum
set_option maxRecDepth 20000 in
theorem ggX4_road_X3_isClosed : GoodIn wsX4_road wsX3_isClosed := goodIn_rq _ [49, 24, 35, 66, 67, 68, 69, 70, 71, 72] (by decide +kernel) (by decide +kernel)
set_option maxRecDepth 20000 in
theorem gX4_road_X3_isClosed : GoodIn wsX4_road (wsV RX4 93 RX3 yX3_isClosed wsX3_isClosed) := goodIn_app (goodIn_of _ (by decide +kernel)) ggX4_road_X3_isClosed
set_option maxRecDepth 20000 in
theorem ggX4_road_X3_reversal : GoodIn wsX4_road wsX3_reversal := goodIn_rq _ [53, 26, 54, 55, 56, 22, 57, 24, 66, 67, 68, 69, 70, 71, 72] (by decide +kernel) (by decide +kernel)
set_option maxRecDepth 20000 in
theorem gX4_road_X3_reversal : GoodIn wsX4_road (wsV RX4 96 RX3 yX3_reversal wsX3_reversal) := goodIn_app (goodIn_of _ (by decide +kernel)) ggX4_road_X3_reversal
set_option maxRecDepth 20000 in
theorem ggX4_road_X3_isConjugate : GoodIn wsX4_road wsX3_isConjugate := goodIn_rq _ [61, 25, 27, 28, 29, 22, 30, 26, 31, 32, 33, 34, 24, 35, 66, 67, 68, 69, 70, 71, 72] (by decide +kernel) (by decide +kernel)
set_option maxRecDepth 20000 in
theorem gX4_road_X3_isConjugate : GoodIn wsX4_road (wsV RX4 99 RX3 yX3_isConjugate wsX3_isConjugate) := goodIn_app (goodIn_of _ (by decide +kernel)) ggX4_road_X3_isConjugate
set_option maxRecDepth 20000 in
theorem ggX4_road_X3_complement : GoodIn wsX4_road wsX3_complement := goodIn_rq _ [65, 35, 66, 67, 68, 69, 70, 71, 72] (by decide +kernel) (by decide +kernel)
set_option maxRecDepth 20000 in
theorem gX4_road_X3_complement : GoodIn wsX4_road (wsV RX4 103 RX3 yX3_complement wsX3_complement) := goodIn_app (goodIn_of _ (by decide +kernel)) ggX4_road_X3_complement
theorem dX4_road_0 : decode cX4_road 0 = .ok (.aload_n 0, 1) := by decide +kernel
theorem dX4_road_1 : decode cX4_road 1 = .ok (.iload_n 1, 1) := by decide +kernel
theorem dX4_road_2 : decode cX4_road 2 = .ok (.invokevirtual 70, 3) := by decide +kernel
theorem dX4_road_5 : decode cX4_road 5 = .ok (.astore_n 3, 1) := by decide +kernel
theorem dX4_road_6 : decode cX4_road 6 = .ok (.aload_n 3, 1) := by decide +kernel
theorem dX4_road_7 : decode cX4_road 7 = .ok (.ifnonnull 6, 3) := by decide +kernel
theorem dX4_road_10 : decode cX4_road 10 = .ok (.ldc 74, 2) := by decide +kernel
theorem dX4_road_12 : decode cX4_road 12 = .ok (.ireturn, 1) := by decide +kernel
theorem dX4_road_13 : decode cX4_road 13 = .ok (.iload_n 2, 1) := by decide +kernel
theorem dX4_road_14 : decode cX4_road 14 = .ok (.tableswitch 167 0 9 #[54, 59, 72, 80, 85, 90, 95, 108, 125, 146], 54) := by decide +kernel
theorem dX4_road_68 : decode cX4_road 68 = .ok (.aload_n 3, 1) := by decide +kernel
theorem dX4_road_69 : decode cX4_road 69 = .ok (.getfield 75, 3) := by decide +kernel
theorem dX4_road_72 : decode cX4_road 72 = .ok (.ireturn, 1) := by decide +kernel
theorem dX4_road_73 : decode cX4_road 73 = .ok (.aload_n 3, 1) := by decide +kernel
theorem dX4_road_74 : decode cX4_road 74 = .ok (.getfield 75, 3) := by decide +kernel
theorem dX4_road_77 : decode cX4_road 77 = .ok (.aload_n 3, 1) := by decide +kernel
theorem dX4_road_78 : decode cX4_road 78 = .ok (.getfield 76, 3) := by decide +kernel
theorem dX4_road_81 : decode cX4_road 81 = .ok (.invokestatic 77, 3) := by decide +kernel
theorem dX4_road_84 : decode cX4_road 84 = .ok (.isub, 1) := by decide +kernel
theorem dX4_road_85 : decode cX4_road 85 = .ok (.ireturn, 1) := by decide +kernel
theorem dX4_road_86 : decode cX4_road 86 = .ok (.aload_n 3, 1) := by decide +kernel
theorem dX4_road_87 : decode cX4_road 87 = .ok (.getfield 76, 3) := by decide +kernel
theorem dX4_road_90 : decode cX4_road 90 = .ok (.invokestatic 77, 3) := by decide +kernel
theorem dX4_road_93 : decode cX4_road 93 = .ok (.ireturn, 1) := by decide +kernel
theorem dX4_road_94 : decode cX4_road 94 = .ok (.aload_n 3, 1) := by decide +kernel
theorem dX4_road_95 : decode cX4_road 95 = .ok (.invokevirtual 83, 3) := by decide +kernel
theorem dX4_road_98 : decode cX4_road 98 = .ok (.ireturn, 1) := by decide +kernel
theorem dX4_road_99 : decode cX4_road 99 = .ok (.aload_n 3, 1) := by decide +kernel
theorem dX4_road_100 : decode cX4_road 100 = .ok (.invokevirtual 87, 3) := by decide +kernel
theorem dX4_road_103 : decode cX4_road 103 = .ok (.ireturn, 1) := by decide +kernel
theorem dX4_road_104 : decode cX4_road 104 = .ok (.aload_n 3, 1) := by decide +kernel
theorem dX4_road_105 : decode cX4_road 105 = .ok (.invokevirtual 90, 3) := by decide +kernel
theorem dX4_road_108 : decode cX4_road 108 = .ok (.ireturn, 1) := by decide +kernel
theorem dX4_road_109 : decode cX4_road 109 = .ok (.aload_n 3, 1) := by decide +kernel
theorem dX4_road_110 : decode cX4_road 110 = .ok (.invokevirtual 93, 3) := by decide +kernel
theorem dX4_road_113 : decode cX4_road 113 = .ok (.ifCond .eq 7, 3) := by decide +kernel
theorem dX4_road_116 : decode cX4_road 116 = .ok (.iconst 1, 1) := by decide +kernel
theorem dX4_road_117 : decode cX4_road 117 = .ok (.goto 4, 3) := by decide +kernel
theorem dX4_road_120 : decode cX4_road 120 = .ok (.iconst 0, 1) := by decide +kernel
theorem dX4_road_121 : decode cX4_road 121 = .ok (.ireturn, 1) := by decide +kernel
theorem dX4_road_122 : decode cX4_road 122 = .ok (.aload_n 3, 1) := by decide +kernel
theorem dX4_road_123 : decode cX4_road 123 = .ok (.aload_n 3, 1) := by decide +kernel
theorem dX4_road_124 : decode cX4_road 124 = .ok (.invokevirtual 96, 3) := by decide +kernel
theorem dX4_road_127 : decode cX4_road 127 = .ok (.invokevirtual 99, 3) := by decide +kernel
theorem dX4_road_130 : decode cX4_road 130 = .ok (.ifCond .eq 7, 3) := by decide +kernel
theorem dX4_road_133 : decode cX4_road 133 = .ok (.iconst 1, 1) := by decide +kernel
theorem dX4_road_134 : decode cX4_road 134 = .ok (.goto 4, 3) := by decide +kernel
theorem dX4_road_137 : decode cX4_road 137 = .ok (.iconst 0, 1) := by decide +kernel
theorem dX4_road_138 : decode cX4_road 138 = .ok (.ireturn, 1) := by decide +kernel
theorem dX4_road_139 : decode cX4_road 139 = .ok (.aload_n 3, 1) := by decide +kernel
theorem dX4_road_140 : decode cX4_road 140 = .ok (.aload_n 3, 1) := by decide +kernel
theorem dX4_road_141 : decode cX4_road 141 = .ok (.aload_n 3, 1) := by decide +kernel
theorem dX4_road_142 : decode cX4_road 142 = .ok (.getfield 76, 3) := by decide +kernel
theorem dX4_road_145 : decode cX4_road 145 = .ok (.invokevirtual 103, 3) := by decide +kernel
theorem dX4_road_148 : decode cX4_road 148 = .ok (.invokevirtual 99, 3) := by decide +kernel
theorem dX4_road_151 : decode cX4_road 151 = .ok (.ifCond .eq 7, 3) := by decide +kernel
theorem dX4_road_154 : decode cX4_road 154 = .ok (.iconst 1, 1) := by decide +kernel
theorem dX4_road_155 : decode cX4_road 155 = .ok (.goto 4, 3) := by decide +kernel
theorem dX4_road_158 : decode cX4_road 158 = .ok (.iconst 0, 1) := by decide +kernel
theorem dX4_road_159 : decode cX4_road 159 = .ok (.ireturn, 1) := by decide +kernel
theorem dX4_road_160 : decode cX4_road 160 = .ok (.aload_n 3, 1) := by decide +kernel
theorem dX4_road_161 : decode cX4_road 161 = .ok (.aload_n 3, 1) := by decide +kernel
theorem dX4_road_162 : decode cX4_road 162 = .ok (.aload_n 3, 1) := by decide +kernel
theorem dX4_road_163 : decode cX4_road 163 = .ok (.invokevirtual 96, 3) := by decide +kernel
theorem dX4_road_166 : decode cX4_road 166 = .ok (.invokevirtual 103, 3) := by decide +kernel
theorem dX4_road_169 : decode cX4_road 169 = .ok (.invokevirtual 99, 3) := by decide +kernel
theorem dX4_road_172 : decode cX4_road 172 = .ok (.ifCond .eq 7, 3) := by decide +kernel
theorem dX4_road_175 : decode cX4_road 175 = .ok (.iconst 1, 1) := by decide +kernel
theorem dX4_road_176 : decode cX4_road 176 = .ok (.goto 4, 3) := by decide +kernel
theorem dX4_road_179 : decode cX4_road 179 = .ok (.iconst 0, 1) := by decide +kernel
theorem dX4_road_180 : decode cX4_road 180 = .ok (.ireturn, 1) := by decide +kernel
theorem dX4_road_181 : decode cX4_road 181 = .ok (.ldc 36, 2) := by decide +kernel
theorem dX4_road_183 : decode cX4_road 183 = .ok (.ireturn, 1) := by decide +kernel
set_option maxRecDepth 20000 in
theorem ggX4_sign_X4_roadAt : GoodIn wsX4_sign wsX4_roadAt := goodIn_rq _ [7, 8, 9, 27, 28, 29, 30, 31, 32] (by decide +kernel) (by decide +kernel)
set_option maxRecDepth 20000 in
theorem gX4_sign_X4_roadAt : GoodIn wsX4_sign (wsV RX4 70 RX4 yX4_roadAt wsX4_roadAt) := goodIn_app (goodIn_of _ (by decide +kernel)) ggX4_sign_X4_roadAt
set_option maxRecDepth 20000 in
theorem ggX4_sign_X3_bitAt : GoodIn wsX4_sign wsX3_bitAt := goodIn_rq _ [14, 15, 16, 20, 21, 22, 23, 24, 25, 26] (by decide +kernel) (by decide +kernel)
set_option maxRecDepth 20000 in
theorem gX4_sign_X3_bitAt : GoodIn wsX4_sign (wsV RX4 106 RX3 yX3_bitAt wsX3_bitAt) := goodIn_app (goodIn_of _ (by decide +kernel)) ggX4_sign_X3_bitAt
set_option maxRecDepth 20000 in
theorem ggX4_sign_X4_code : GoodIn wsX4_sign wsX4_code := goodIn_rq _ [19] (by decide +kernel) (by decide +kernel)
set_option maxRecDepth 20000 in
theorem gX4_sign_X4_code : GoodIn wsX4_sign (va_wsS RX4 109 yX4_code wsX4_code) := goodIn_app (goodIn_of _ (by decide +kernel)) ggX4_sign_X4_code
theorem dX4_sign_0 : decode cX4_sign 0 = .ok (.aload_n 0, 1) := by decide +kernel
theorem dX4_sign_1 : decode cX4_sign 1 = .ok (.iload_n 1, 1) := by decide +kernel
theorem dX4_sign_2 : decode cX4_sign 2 = .ok (.invokevirtual 70, 3) := by decide +kernel
theorem dX4_sign_5 : decode cX4_sign 5 = .ok (.astore_n 3, 1) := by decide +kernel
theorem dX4_sign_6 : decode cX4_sign 6 = .ok (.aload_n 3, 1) := by decide +kernel
theorem dX4_sign_7 : decode cX4_sign 7 = .ok (.ifnull 15, 3) := by decide +kernel
theorem dX4_sign_10 : decode cX4_sign 10 = .ok (.iload_n 2, 1) := by decide +kernel
theorem dX4_sign_11 : decode cX4_sign 11 = .ok (.ifCond .lt 11, 3) := by decide +kernel
theorem dX4_sign_14 : decode cX4_sign 14 = .ok (.iload_n 2, 1) := by decide +kernel
theorem dX4_sign_15 : decode cX4_sign 15 = .ok (.aload_n 3, 1) := by decide +kernel
theorem dX4_sign_16 : decode cX4_sign 16 = .ok (.getfield 75, 3) := by decide +kernel
theorem dX4_sign_19 : decode cX4_sign 19 = .ok (.if_icmp .lt 6, 3) := by decide +kernel
theorem dX4_sign_22 : decode cX4_sign 22 = .ok (.ldc 74, 2) := by decide +kernel
theorem dX4_sign_24 : decode cX4_sign 24 = .ok (.ireturn, 1) := by decide +kernel
theorem dX4_sign_25 : decode cX4_sign 25 = .ok (.aload_n 3, 1) := by decide +kernel
theorem dX4_sign_26 : decode cX4_sign 26 = .ok (.iload_n 2, 1) := by decide +kernel
theorem dX4_sign_27 : decode cX4_sign 27 = .ok (.invokevirtual 106, 3) := by decide +kernel
theorem dX4_sign_30 : decode cX4_sign 30 = .ok (.invokestatic 109, 3) := by decide +kernel
theorem dX4_sign_33 : decode cX4_sign 33 = .ok (.ireturn, 1) := by decide +kernel
set_option maxRecDepth 20000 in
theorem ggX4_table_X4_roadAt : GoodIn wsX4_table wsX4_roadAt := goodIn_rq _ [11, 12, 13, 21, 22, 23, 24, 25, 26] (by decide +kernel) (by decide +kernel)
set_option maxRecDepth 20000 in
theorem gX4_table_X4_roadAt : GoodIn wsX4_table (wsV RX4 70 RX4 yX4_roadAt wsX4_roadAt) := goodIn_app (goodIn_of _ (by decide +kernel)) ggX4_table_X4_roadAt
theorem dX4_table_0 : decode cX4_table 0 = .ok (.aload_n 0, 1) := by decide +kernel
theorem dX4_table_1 : decode cX4_table 1 = .ok (.iload_n 1, 1) := by decide +kernel
theorem dX4_table_2 : decode cX4_table 2 = .ok (.invokevirtual 70, 3) := by decide +kernel
theorem dX4_table_5 : decode cX4_table 5 = .ok (.astore_n 3, 1) := by decide +kernel
theorem dX4_table_6 : decode cX4_table 6 = .ok (.aload_n 3, 1) := by decide +kernel
theorem dX4_table_7 : decode cX4_table 7 = .ok (.ifnonnull 6, 3) := by decide +kernel
theorem dX4_table_10 : decode cX4_table 10 = .ok (.ldc 74, 2) := by decide +kernel
theorem dX4_table_12 : decode cX4_table 12 = .ok (.ireturn, 1) := by decide +kernel
theorem dX4_table_13 : decode cX4_table 13 = .ok (.iload_n 2, 1) := by decide +kernel
theorem dX4_table_14 : decode cX4_table 14 = .ok (.tableswitch 50 0 3 #[30, 35, 40, 45], 30) := by decide +kernel
theorem dX4_table_44 : decode cX4_table 44 = .ok (.aload_n 3, 1) := by decide +kernel
theorem dX4_table_45 : decode cX4_table 45 = .ok (.getfield 112, 3) := by decide +kernel
theorem dX4_table_48 : decode cX4_table 48 = .ok (.ireturn, 1) := by decide +kernel
theorem dX4_table_49 : decode cX4_table 49 = .ok (.aload_n 3, 1) := by decide +kernel
theorem dX4_table_50 : decode cX4_table 50 = .ok (.getfield 115, 3) := by decide +kernel
theorem dX4_table_53 : decode cX4_table 53 = .ok (.ireturn, 1) := by decide +kernel
theorem dX4_table_54 : decode cX4_table 54 = .ok (.aload_n 3, 1) := by decide +kernel
theorem dX4_table_55 : decode cX4_table 55 = .ok (.getfield 118, 3) := by decide +kernel
theorem dX4_table_58 : decode cX4_table 58 = .ok (.ireturn, 1) := by decide +kernel
theorem dX4_table_59 : decode cX4_table 59 = .ok (.aload_n 3, 1) := by decide +kernel
theorem dX4_table_60 : decode cX4_table 60 = .ok (.getfield 121, 3) := by decide +kernel
theorem dX4_table_63 : decode cX4_table 63 = .ok (.ireturn, 1) := by decide +kernel
theorem dX4_table_64 : decode cX4_table 64 = .ok (.ldc 36, 2) := by decide +kernel
theorem dX4_table_66 : decode cX4_table 66 = .ok (.ireturn, 1) := by decide +kernel
set_option maxRecDepth 20000 in
theorem ggX4_form_X4_roadAt : GoodIn wsX4_form wsX4_roadAt := goodIn_rq _ [8, 9, 10, 37, 38, 39, 40, 41, 42] (by decide +kernel) (by decide +kernel)
set_option maxRecDepth 20000 in
theorem gX4_form_X4_roadAt : GoodIn wsX4_form (wsV RX4 70 RX4 yX4_roadAt wsX4_roadAt) := goodIn_app (goodIn_of _ (by decide +kernel)) ggX4_form_X4_roadAt
set_option maxRecDepth 20000 in
theorem ggX4_form_X3_isClosed : GoodIn wsX4_form wsX3_isClosed := goodIn_rq _ [15, 16, 17, 43, 44, 45, 46, 47, 48, 49] (by decide +kernel) (by decide +kernel)
set_option maxRecDepth 20000 in
theorem gX4_form_X3_isClosed : GoodIn wsX4_form (wsV RX4 93 RX3 yX3_isClosed wsX3_isClosed) := goodIn_app (goodIn_of _ (by decide +kernel)) ggX4_form_X3_isClosed
set_option maxRecDepth 20000 in
theorem ggX4_form_X3_formNumber : GoodIn wsX4_form wsX3_formNumber := goodIn_rq _ [21, 22, 23, 24, 25, 26, 7, 27, 28, 29, 30, 31, 32, 33, 34, 35, 36, 43, 44, 45, 46, 47, 48, 49] (by decide +kernel) (by decide +kernel)
set_option maxRecDepth 20000 in
theorem gX4_form_X3_formNumber : GoodIn wsX4_form (wsV RX4 124 RX3 yX3_formNumber wsX3_formNumber) := goodIn_app (goodIn_of _ (by decide +kernel)) ggX4_form_X3_formNumber
theorem dX4_form_0 : decode cX4_form 0 = .ok (.aload_n 0, 1) := by decide +kernel
theorem dX4_form_1 : decode cX4_form 1 = .ok (.iload_n 1, 1) := by decide +kernel
theorem dX4_form_2 : decode cX4_form 2 = .ok (.invokevirtual 70, 3) := by decide +kernel
theorem dX4_form_5 : decode cX4_form 5 = .ok (.astore_n 3, 1) := by decide +kernel
theorem dX4_form_6 : decode cX4_form 6 = .ok (.aload_n 3, 1) := by decide +kernel
theorem dX4_form_7 : decode cX4_form 7 = .ok (.ifnonnull 6, 3) := by decide +kernel
theorem dX4_form_10 : decode cX4_form 10 = .ok (.ldc 74, 2) := by decide +kernel
theorem dX4_form_12 : decode cX4_form 12 = .ok (.ireturn, 1) := by decide +kernel
theorem dX4_form_13 : decode cX4_form 13 = .ok (.iload_n 2, 1) := by decide +kernel
theorem dX4_form_14 : decode cX4_form 14 = .ok (.ifCond .lt 8, 3) := by decide +kernel
theorem dX4_form_17 : decode cX4_form 17 = .ok (.iload_n 2, 1) := by decide +kernel
theorem dX4_form_18 : decode cX4_form 18 = .ok (.iconst 5, 1) := by decide +kernel
theorem dX4_form_19 : decode cX4_form 19 = .ok (.if_icmp .lt 6, 3) := by decide +kernel
theorem dX4_form_22 : decode cX4_form 22 = .ok (.ldc 36, 2) := by decide +kernel
theorem dX4_form_24 : decode cX4_form 24 = .ok (.ireturn, 1) := by decide +kernel
theorem dX4_form_25 : decode cX4_form 25 = .ok (.aload_n 3, 1) := by decide +kernel
theorem dX4_form_26 : decode cX4_form 26 = .ok (.invokevirtual 93, 3) := by decide +kernel
theorem dX4_form_29 : decode cX4_form 29 = .ok (.ifCond .eq 11, 3) := by decide +kernel
theorem dX4_form_32 : decode cX4_form 32 = .ok (.aload_n 3, 1) := by decide +kernel
theorem dX4_form_33 : decode cX4_form 33 = .ok (.iload_n 2, 1) := by decide +kernel
theorem dX4_form_34 : decode cX4_form 34 = .ok (.invokevirtual 124, 3) := by decide +kernel
theorem dX4_form_37 : decode cX4_form 37 = .ok (.goto 5, 3) := by decide +kernel
theorem dX4_form_40 : decode cX4_form 40 = .ok (.ldc 56, 2) := by decide +kernel
theorem dX4_form_42 : decode cX4_form 42 = .ok (.ireturn, 1) := by decide +kernel
set_option maxRecDepth 20000 in
theorem ggX4_end_X4_roadAt : GoodIn wsX4_end wsX4_roadAt := goodIn_rq _ [11, 12, 13, 21, 22, 23, 24, 25, 26] (by decide +kernel) (by decide +kernel)
set_option maxRecDepth 20000 in
theorem gX4_end_X4_roadAt : GoodIn wsX4_end (wsV RX4 70 RX4 yX4_roadAt wsX4_roadAt) := goodIn_app (goodIn_of _ (by decide +kernel)) ggX4_end_X4_roadAt
theorem dX4_end_0 : decode cX4_end 0 = .ok (.aload_n 0, 1) := by decide +kernel
theorem dX4_end_1 : decode cX4_end 1 = .ok (.iload_n 1, 1) := by decide +kernel
theorem dX4_end_2 : decode cX4_end 2 = .ok (.invokevirtual 70, 3) := by decide +kernel
theorem dX4_end_5 : decode cX4_end 5 = .ok (.astore_n 3, 1) := by decide +kernel
theorem dX4_end_6 : decode cX4_end 6 = .ok (.aload_n 3, 1) := by decide +kernel
theorem dX4_end_7 : decode cX4_end 7 = .ok (.ifnonnull 6, 3) := by decide +kernel
theorem dX4_end_10 : decode cX4_end 10 = .ok (.ldc 74, 2) := by decide +kernel
theorem dX4_end_12 : decode cX4_end 12 = .ok (.ireturn, 1) := by decide +kernel
theorem dX4_end_13 : decode cX4_end 13 = .ok (.iload_n 2, 1) := by decide +kernel
theorem dX4_end_14 : decode cX4_end 14 = .ok (.lookupswitch 46 #[(0, 26), (1, 36)], 26) := by decide +kernel
theorem dX4_end_40 : decode cX4_end 40 = .ok (.aload_n 3, 1) := by decide +kernel
theorem dX4_end_41 : decode cX4_end 41 = .ok (.getfield 112, 3) := by decide +kernel
theorem dX4_end_44 : decode cX4_end 44 = .ok (.aload_n 3, 1) := by decide +kernel
theorem dX4_end_45 : decode cX4_end 45 = .ok (.getfield 115, 3) := by decide +kernel
theorem dX4_end_48 : decode cX4_end 48 = .ok (.iadd, 1) := by decide +kernel
theorem dX4_end_49 : decode cX4_end 49 = .ok (.ireturn, 1) := by decide +kernel
theorem dX4_end_50 : decode cX4_end 50 = .ok (.aload_n 3, 1) := by decide +kernel
theorem dX4_end_51 : decode cX4_end 51 = .ok (.getfield 118, 3) := by decide +kernel
theorem dX4_end_54 : decode cX4_end 54 = .ok (.aload_n 3, 1) := by decide +kernel
theorem dX4_end_55 : decode cX4_end 55 = .ok (.getfield 121, 3) := by decide +kernel
theorem dX4_end_58 : decode cX4_end 58 = .ok (.iadd, 1) := by decide +kernel
theorem dX4_end_59 : decode cX4_end 59 = .ok (.ireturn, 1) := by decide +kernel
theorem dX4_end_60 : decode cX4_end 60 = .ok (.ldc 36, 2) := by decide +kernel
theorem dX4_end_62 : decode cX4_end 62 = .ok (.ireturn, 1) := by decide +kernel
set_option maxRecDepth 20000 in
theorem ggX4_alike_X4_roadAt : GoodIn wsX4_alike wsX4_roadAt := goodIn_rq _ [9, 10, 11, 32, 33, 34, 35, 36, 37] (by decide +kernel) (by decide +kernel)
set_option maxRecDepth 20000 in
theorem gX4_alike_X4_roadAt : GoodIn wsX4_alike (wsV RX4 70 RX4 yX4_roadAt wsX4_roadAt) := goodIn_app (goodIn_of _ (by decide +kernel)) ggX4_alike_X4_roadAt
set_option maxRecDepth 20000 in
theorem ggX4_alike_X3_turnTo : GoodIn wsX4_alike wsX3_turnTo := goodIn_rq _ [16, 17, 18, 19, 20, 21, 15, 22, 23, 24, 25, 26, 27, 28, 29, 30, 31] (by decide +kernel) (by decide +kernel)
set_option maxRecDepth 20000 in
theorem gX4_alike_X3_turnTo : GoodIn wsX4_alike (wsV RX4 127 RX3 yX3_turnTo wsX3_turnTo) := goodIn_app (goodIn_of _ (by decide +kernel)) ggX4_alike_X3_turnTo
theorem dX4_alike_0 : decode cX4_alike 0 = .ok (.aload_n 0, 1) := by decide +kernel
theorem dX4_alike_1 : decode cX4_alike 1 = .ok (.iload_n 1, 1) := by decide +kernel
theorem dX4_alike_2 : decode cX4_alike 2 = .ok (.invokevirtual 70, 3) := by decide +kernel
theorem dX4_alike_5 : decode cX4_alike 5 = .ok (.astore_n 3, 1) := by decide +kernel
theorem dX4_alike_6 : decode cX4_alike 6 = .ok (.aload_n 0, 1) := by decide +kernel
theorem dX4_alike_7 : decode cX4_alike 7 = .ok (.iload_n 2, 1) := by decide +kernel
theorem dX4_alike_8 : decode cX4_alike 8 = .ok (.invokevirtual 70, 3) := by decide +kernel
theorem dX4_alike_11 : decode cX4_alike 11 = .ok (.astore 4, 2) := by decide +kernel
theorem dX4_alike_13 : decode cX4_alike 13 = .ok (.aload_n 3, 1) := by decide +kernel
theorem dX4_alike_14 : decode cX4_alike 14 = .ok (.ifnull 8, 3) := by decide +kernel
theorem dX4_alike_17 : decode cX4_alike 17 = .ok (.aload 4, 2) := by decide +kernel
theorem dX4_alike_19 : decode cX4_alike 19 = .ok (.ifnonnull 6, 3) := by decide +kernel
theorem dX4_alike_22 : decode cX4_alike 22 = .ok (.ldc 74, 2) := by decide +kernel
theorem dX4_alike_24 : decode cX4_alike 24 = .ok (.ireturn, 1) := by decide +kernel
theorem dX4_alike_25 : decode cX4_alike 25 = .ok (.aload_n 3, 1) := by decide +kernel
theorem dX4_alike_26 : decode cX4_alike 26 = .ok (.getfield 75, 3) := by decide +kernel
theorem dX4_alike_29 : decode cX4_alike 29 = .ok (.aload 4, 2) := by decide +kernel
theorem dX4_alike_31 : decode cX4_alike 31 = .ok (.getfield 75, 3) := by decide +kernel
theorem dX4_alike_34 : decode cX4_alike 34 = .ok (.if_icmp .ne 16, 3) := by decide +kernel
theorem dX4_alike_37 : decode cX4_alike 37 = .ok (.aload_n 3, 1) := by decide +kernel
theorem dX4_alike_38 : decode cX4_alike 38 = .ok (.aload 4, 2) := by decide +kernel
theorem dX4_alike_40 : decode cX4_alike 40 = .ok (.getfield 76, 3) := by decide +kernel
theorem dX4_alike_43 : decode cX4_alike 43 = .ok (.iconst 0, 1) := by decide +kernel
theorem dX4_alike_44 : decode cX4_alike 44 = .ok (.invokevirtual 127, 3) := by decide +kernel
theorem dX4_alike_47 : decode cX4_alike 47 = .ok (.goto 5, 3) := by decide +kernel
theorem dX4_alike_50 : decode cX4_alike 50 = .ok (.ldc 130, 2) := by decide +kernel
theorem dX4_alike_52 : decode cX4_alike 52 = .ok (.ireturn, 1) := by decide +kernel
set_option maxRecDepth 20000 in
theorem ggX4_cross_X4_roadAt : GoodIn wsX4_cross wsX4_roadAt := goodIn_rq _ [7, 8, 9, 30, 31, 32, 33, 34, 35] (by decide +kernel) (by decide +kernel)
set_option maxRecDepth 20000 in
theorem gX4_cross_X4_roadAt : GoodIn wsX4_cross (wsV RX4 70 RX4 yX4_roadAt wsX4_roadAt) := goodIn_app (goodIn_of _ (by decide +kernel)) ggX4_cross_X4_roadAt
set_option maxRecDepth 20000 in
theorem ggX4_cross_X3_isClosed : GoodIn wsX4_cross wsX3_isClosed := goodIn_rq _ [14, 15, 16, 36, 37, 38, 39, 40, 41, 42] (by decide +kernel) (by decide +kernel)
set_option maxRecDepth 20000 in
theorem gX4_cross_X3_isClosed : GoodIn wsX4_cross (wsV RX4 93 RX3 yX3_isClosed wsX3_isClosed) := goodIn_app (goodIn_of _ (by decide +kernel)) ggX4_cross_X3_isClosed
set_option maxRecDepth 20000 in
theorem ggX4_cross_X3_crossings : GoodIn wsX4_cross wsX3_crossings := goodIn_rq _ [20, 21, 22, 23, 24, 13, 25, 15, 26, 27, 28, 29, 36, 37, 38, 39, 40, 41, 42] (by decide +kernel) (by decide +kernel)
set_option maxRecDepth 20000 in
theorem gX4_cross_X3_crossings : GoodIn wsX4_cross (wsV RX4 131 RX3 yX3_crossings wsX3_crossings) := goodIn_app (goodIn_of _ (by decide +kernel)) ggX4_cross_X3_crossings
theorem dX4_cross_0 : decode cX4_cross 0 = .ok (.aload_n 0, 1) := by decide +kernel
theorem dX4_cross_1 : decode cX4_cross 1 = .ok (.iload_n 1, 1) := by decide +kernel
theorem dX4_cross_2 : decode cX4_cross 2 = .ok (.invokevirtual 70, 3) := by decide +kernel
theorem dX4_cross_5 : decode cX4_cross 5 = .ok (.astore_n 3, 1) := by decide +kernel
theorem dX4_cross_6 : decode cX4_cross 6 = .ok (.aload_n 0, 1) := by decide +kernel
theorem dX4_cross_7 : decode cX4_cross 7 = .ok (.iload_n 2, 1) := by decide +kernel
theorem dX4_cross_8 : decode cX4_cross 8 = .ok (.invokevirtual 70, 3) := by decide +kernel
theorem dX4_cross_11 : decode cX4_cross 11 = .ok (.astore 4, 2) := by decide +kernel
theorem dX4_cross_13 : decode cX4_cross 13 = .ok (.aload_n 3, 1) := by decide +kernel
theorem dX4_cross_14 : decode cX4_cross 14 = .ok (.ifnull 8, 3) := by decide +kernel
theorem dX4_cross_17 : decode cX4_cross 17 = .ok (.aload 4, 2) := by decide +kernel
theorem dX4_cross_19 : decode cX4_cross 19 = .ok (.ifnonnull 6, 3) := by decide +kernel
theorem dX4_cross_22 : decode cX4_cross 22 = .ok (.ldc 74, 2) := by decide +kernel
theorem dX4_cross_24 : decode cX4_cross 24 = .ok (.ireturn, 1) := by decide +kernel
theorem dX4_cross_25 : decode cX4_cross 25 = .ok (.aload_n 3, 1) := by decide +kernel
theorem dX4_cross_26 : decode cX4_cross 26 = .ok (.invokevirtual 93, 3) := by decide +kernel
theorem dX4_cross_29 : decode cX4_cross 29 = .ok (.ifCond .eq 20, 3) := by decide +kernel
theorem dX4_cross_32 : decode cX4_cross 32 = .ok (.aload 4, 2) := by decide +kernel
theorem dX4_cross_34 : decode cX4_cross 34 = .ok (.invokevirtual 93, 3) := by decide +kernel
theorem dX4_cross_37 : decode cX4_cross 37 = .ok (.ifCond .eq 12, 3) := by decide +kernel
theorem dX4_cross_40 : decode cX4_cross 40 = .ok (.aload_n 3, 1) := by decide +kernel
theorem dX4_cross_41 : decode cX4_cross 41 = .ok (.aload 4, 2) := by decide +kernel
theorem dX4_cross_43 : decode cX4_cross 43 = .ok (.invokevirtual 131, 3) := by decide +kernel
theorem dX4_cross_46 : decode cX4_cross 46 = .ok (.goto 5, 3) := by decide +kernel
theorem dX4_cross_49 : decode cX4_cross 49 = .ok (.ldc 56, 2) := by decide +kernel
theorem dX4_cross_51 : decode cX4_cross 51 = .ok (.ireturn, 1) := by decide +kernel
set_option maxRecDepth 20000 in
theorem ggX4_turn_X4_roadAt : GoodIn wsX4_turn wsX4_roadAt := goodIn_rq _ [8, 9, 10, 48, 49, 50, 51, 52, 53] (by decide +kernel) (by decide +kernel)
set_option maxRecDepth 20000 in
theorem gX4_turn_X4_roadAt : GoodIn wsX4_turn (wsV RX4 70 RX4 yX4_roadAt wsX4_roadAt) := goodIn_app (goodIn_of _ (by decide +kernel)) ggX4_turn_X4_roadAt
set_option maxRecDepth 20000 in
theorem ggX4_turn_X3_rotation : GoodIn wsX4_turn wsX3_rotation := goodIn_rq _ [15, 16, 17, 18, 41, 42, 43, 44, 45, 46, 47] (by decide +kernel) (by decide +kernel)
set_option maxRecDepth 20000 in
theorem gX4_turn_X3_rotation : GoodIn wsX4_turn (wsV RX4 135 RX3 yX3_rotation wsX3_rotation) := goodIn_app (goodIn_of _ (by decide +kernel)) ggX4_turn_X3_rotation
set_option maxRecDepth 20000 in
theorem ggX4_turn_X3_become : GoodIn wsX4_turn wsX3_become := goodIn_rq _ [22, 16, 17, 18, 23, 24, 25, 26, 27, 28, 29, 14, 30, 41, 42, 43, 44, 45, 46, 47] (by decide +kernel) (by decide +kernel)
set_option maxRecDepth 20000 in
theorem gX4_turn_X3_become : GoodIn wsX4_turn (wsV RX4 138 RX3 yX3_become wsX3_become) := goodIn_app (goodIn_of _ (by decide +kernel)) ggX4_turn_X3_become
set_option maxRecDepth 20000 in
theorem ggX4_turn_X3_period : GoodIn wsX4_turn wsX3_period := goodIn_rq _ [34, 16, 35, 17, 36, 37, 38, 14, 39, 40, 12, 13, 15, 18, 41, 42, 43, 44, 45, 46, 47] (by decide +kernel) (by decide +kernel)
set_option maxRecDepth 20000 in
theorem gX4_turn_X3_period : GoodIn wsX4_turn (wsV RX4 83 RX3 yX3_period wsX3_period) := goodIn_app (goodIn_of _ (by decide +kernel)) ggX4_turn_X3_period
theorem dX4_turn_0 : decode cX4_turn 0 = .ok (.aload_n 0, 1) := by decide +kernel
theorem dX4_turn_1 : decode cX4_turn 1 = .ok (.iload_n 1, 1) := by decide +kernel
theorem dX4_turn_2 : decode cX4_turn 2 = .ok (.invokevirtual 70, 3) := by decide +kernel
theorem dX4_turn_5 : decode cX4_turn 5 = .ok (.astore_n 3, 1) := by decide +kernel
theorem dX4_turn_6 : decode cX4_turn 6 = .ok (.aload_n 3, 1) := by decide +kernel
theorem dX4_turn_7 : decode cX4_turn 7 = .ok (.ifnonnull 6, 3) := by decide +kernel
theorem dX4_turn_10 : decode cX4_turn 10 = .ok (.ldc 74, 2) := by decide +kernel
theorem dX4_turn_12 : decode cX4_turn 12 = .ok (.ireturn, 1) := by decide +kernel
theorem dX4_turn_13 : decode cX4_turn 13 = .ok (.iload_n 2, 1) := by decide +kernel
theorem dX4_turn_14 : decode cX4_turn 14 = .ok (.ifCond .lt 11, 3) := by decide +kernel
theorem dX4_turn_17 : decode cX4_turn 17 = .ok (.iload_n 2, 1) := by decide +kernel
theorem dX4_turn_18 : decode cX4_turn 18 = .ok (.aload_n 3, 1) := by decide +kernel
theorem dX4_turn_19 : decode cX4_turn 19 = .ok (.getfield 75, 3) := by decide +kernel
theorem dX4_turn_22 : decode cX4_turn 22 = .ok (.if_icmp .lt 6, 3) := by decide +kernel
theorem dX4_turn_25 : decode cX4_turn 25 = .ok (.ldc 36, 2) := by decide +kernel
theorem dX4_turn_27 : decode cX4_turn 27 = .ok (.ireturn, 1) := by decide +kernel
theorem dX4_turn_28 : decode cX4_turn 28 = .ok (.aload_n 3, 1) := by decide +kernel
theorem dX4_turn_29 : decode cX4_turn 29 = .ok (.aload_n 3, 1) := by decide +kernel
theorem dX4_turn_30 : decode cX4_turn 30 = .ok (.iload_n 2, 1) := by decide +kernel
theorem dX4_turn_31 : decode cX4_turn 31 = .ok (.invokevirtual 135, 3) := by decide +kernel
theorem dX4_turn_34 : decode cX4_turn 34 = .ok (.aload_n 3, 1) := by decide +kernel
theorem dX4_turn_35 : decode cX4_turn 35 = .ok (.getfield 75, 3) := by decide +kernel
theorem dX4_turn_38 : decode cX4_turn 38 = .ok (.invokevirtual 138, 3) := by decide +kernel
theorem dX4_turn_41 : decode cX4_turn 41 = .ok (.aload_n 3, 1) := by decide +kernel
theorem dX4_turn_42 : decode cX4_turn 42 = .ok (.invokevirtual 83, 3) := by decide +kernel
theorem dX4_turn_45 : decode cX4_turn 45 = .ok (.ireturn, 1) := by decide +kernel
set_option maxRecDepth 20000 in
theorem ggX4_change_X4_roadAt : GoodIn wsX4_change wsX4_roadAt := goodIn_rq _ [8, 9, 10, 58, 59, 60, 61, 62, 63] (by decide +kernel) (by decide +kernel)
set_option maxRecDepth 20000 in
theorem gX4_change_X4_roadAt : GoodIn wsX4_change (wsV RX4 70 RX4 yX4_roadAt wsX4_roadAt) := goodIn_app (goodIn_of _ (by decide +kernel)) ggX4_change_X4_roadAt
set_option maxRecDepth 20000 in
theorem ggX4_change_X3_changed : GoodIn wsX4_change wsX3_changed := goodIn_rq _ [15, 16, 17, 18, 19, 14, 20, 21, 22, 23, 24, 25, 26, 27, 28, 29, 30, 31, 32, 33, 34, 35, 36, 37, 38, 51, 52, 53, 54, 55, 56, 57] (by decide +kernel) (by decide +kernel)
set_option maxRecDepth 20000 in
theorem gX4_change_X3_changed : GoodIn wsX4_change (wsV RX4 142 RX3 yX3_changed wsX3_changed) := goodIn_app (goodIn_of _ (by decide +kernel)) ggX4_change_X3_changed
set_option maxRecDepth 20000 in
theorem ggX4_change_X3_become : GoodIn wsX4_change wsX3_become := goodIn_rq _ [42, 16, 21, 30, 43, 44, 45, 46, 22, 23, 24, 14, 25, 51, 52, 53, 54, 55, 56, 57] (by decide +kernel) (by decide +kernel)
set_option maxRecDepth 20000 in
theorem gX4_change_X3_become : GoodIn wsX4_change (wsV RX4 138 RX3 yX3_become wsX3_become) := goodIn_app (goodIn_of _ (by decide +kernel)) ggX4_change_X3_become
set_option maxRecDepth 20000 in
theorem ggX4_change_X3_traceSum : GoodIn wsX4_change wsX3_traceSum := goodIn_rq _ [50, 43, 46, 51, 52, 53, 54, 55, 56, 57] (by decide +kernel) (by decide +kernel)
set_option maxRecDepth 20000 in
theorem gX4_change_X3_traceSum : GoodIn wsX4_change (wsV RX4 90 RX3 yX3_traceSum wsX3_traceSum) := goodIn_app (goodIn_of _ (by decide +kernel)) ggX4_change_X3_traceSum
theorem dX4_change_0 : decode cX4_change 0 = .ok (.aload_n 0, 1) := by decide +kernel
theorem dX4_change_1 : decode cX4_change 1 = .ok (.iload_n 1, 1) := by decide +kernel
theorem dX4_change_2 : decode cX4_change 2 = .ok (.invokevirtual 70, 3) := by decide +kernel
