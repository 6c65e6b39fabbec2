theorem dX0_init_0 : decode cX0_init 0 = .ok (.aload_n 0, 1) := by decide +kernel
theorem dX0_init_1 : decode cX0_init 1 = .ok (.invokespecial 1, 3) := by decide +kernel
theorem dX0_init_4 : decode cX0_init 4 = .ok (.aload_n 0, 1) := by decide +kernel
theorem dX0_init_5 : decode cX0_init 5 = .ok (.new 7, 3) := by decide +kernel
theorem dX0_init_8 : decode cX0_init 8 = .ok (.dup, 1) := by decide +kernel
theorem dX0_init_9 : decode cX0_init 9 = .ok (.iconst 0, 1) := by decide +kernel
theorem dX0_init_10 : decode cX0_init 10 = .ok (.bipush 8, 2) := by decide +kernel
theorem dX0_init_12 : decode cX0_init 12 = .ok (.invokespecial 11, 3) := by decide +kernel
theorem dX0_init_15 : decode cX0_init 15 = .ok (.putfield 14, 3) := by decide +kernel
theorem dX0_init_18 : decode cX0_init 18 = .ok (.aload_n 0, 1) := by decide +kernel
theorem dX0_init_19 : decode cX0_init 19 = .ok (.new 7, 3) := by decide +kernel
theorem dX0_init_22 : decode cX0_init 22 = .ok (.dup, 1) := by decide +kernel
theorem dX0_init_23 : decode cX0_init 23 = .ok (.iconst 0, 1) := by decide +kernel
theorem dX0_init_24 : decode cX0_init 24 = .ok (.bipush 8, 2) := by decide +kernel
theorem dX0_init_26 : decode cX0_init 26 = .ok (.invokespecial 11, 3) := by decide +kernel
theorem dX0_init_29 : decode cX0_init 29 = .ok (.putfield 18, 3) := by decide +kernel
theorem dX0_init_32 : decode cX0_init 32 = .ok (.return_, 1) := by decide +kernel
set_option maxRecDepth 20000 in
theorem ggX0_run_X3_become : GoodIn wsX0_run wsX3_become := goodIn_r _ [12, 13, 14, 15, 16, 17, 18, 19, 20, 21, 22, 11, 23, 60, 61, 62, 63, 64, 65, 66] (by decide +kernel) (by decide +kernel)
set_option maxRecDepth 20000 in
theorem gX0_run_X3_become : GoodIn wsX0_run (wsV RX0 35 RX3 yX3_become wsX3_become) := goodIn_app (goodIn_of _ (by decide +kernel)) ggX0_run_X3_become
set_option maxRecDepth 20000 in
theorem ggX0_run_X0_nextBits : GoodIn wsX0_run wsX0_nextBits := goodIn_r _ [28, 29, 1, 30, 31, 32, 33, 54, 55, 56, 57, 58, 59] (by decide +kernel) (by decide +kernel)
set_option maxRecDepth 20000 in
theorem gX0_run_X0_nextBits : GoodIn wsX0_run (wsV RX0 41 RX0 yX0_nextBits wsX0_nextBits) := goodIn_app (goodIn_of _ (by decide +kernel)) ggX0_run_X0_nextBits
set_option maxRecDepth 20000 in
theorem ggX0_run_X0_tell : GoodIn wsX0_run wsX0_tell := goodIn_r _ [37, 5, 2, 3, 6, 4, 38, 39, 40, 11, 41, 13, 15, 42, 43, 44, 45, 16, 19, 46, 47, 48, 49, 14, 20, 21, 22, 23, 50, 51, 52, 53, 54, 55, 56, 57, 58, 59, 60, 61, 62, 63, 64, 65, 66] (by decide +kernel) (by decide +kernel)
set_option maxRecDepth 20000 in
theorem gX0_run_X0_tell : GoodIn wsX0_run (wsV RX0 45 RX0 yX0_tell wsX0_tell) := goodIn_app (goodIn_of _ (by decide +kernel)) ggX0_run_X0_tell
theorem dX0_run_0 : decode cX0_run 0 = .ok (.aload_n 0, 1) := by decide +kernel
theorem dX0_run_1 : decode cX0_run 1 = .ok (.iload_n 2, 1) := by decide +kernel
theorem dX0_run_2 : decode cX0_run 2 = .ok (.i2l, 1) := by decide +kernel
theorem dX0_run_3 : decode cX0_run 3 = .ok (.putfield 21, 3) := by decide +kernel
theorem dX0_run_6 : decode cX0_run 6 = .ok (.aload_n 0, 1) := by decide +kernel
theorem dX0_run_7 : decode cX0_run 7 = .ok (.iconst 0, 1) := by decide +kernel
theorem dX0_run_8 : decode cX0_run 8 = .ok (.putfield 25, 3) := by decide +kernel
theorem dX0_run_11 : decode cX0_run 11 = .ok (.aload_n 0, 1) := by decide +kernel
theorem dX0_run_12 : decode cX0_run 12 = .ok (.iconst 0, 1) := by decide +kernel
theorem dX0_run_13 : decode cX0_run 13 = .ok (.putfield 29, 3) := by decide +kernel
theorem dX0_run_16 : decode cX0_run 16 = .ok (.aload_n 0, 1) := by decide +kernel
theorem dX0_run_17 : decode cX0_run 17 = .ok (.iconst 0, 1) := by decide +kernel
theorem dX0_run_18 : decode cX0_run 18 = .ok (.putfield 32, 3) := by decide +kernel
theorem dX0_run_21 : decode cX0_run 21 = .ok (.aload_n 0, 1) := by decide +kernel
theorem dX0_run_22 : decode cX0_run 22 = .ok (.getfield 18, 3) := by decide +kernel
theorem dX0_run_25 : decode cX0_run 25 = .ok (.iconst 0, 1) := by decide +kernel
theorem dX0_run_26 : decode cX0_run 26 = .ok (.bipush 8, 2) := by decide +kernel
theorem dX0_run_28 : decode cX0_run 28 = .ok (.invokevirtual 35, 3) := by decide +kernel
theorem dX0_run_31 : decode cX0_run 31 = .ok (.iconst 0, 1) := by decide +kernel
theorem dX0_run_32 : decode cX0_run 32 = .ok (.istore_n 3, 1) := by decide +kernel
theorem dX0_run_33 : decode cX0_run 33 = .ok (.iload_n 3, 1) := by decide +kernel
theorem dX0_run_34 : decode cX0_run 34 = .ok (.iload_n 1, 1) := by decide +kernel
theorem dX0_run_35 : decode cX0_run 35 = .ok (.if_icmp .ge 42, 3) := by decide +kernel
theorem dX0_run_38 : decode cX0_run 38 = .ok (.aload_n 0, 1) := by decide +kernel
theorem dX0_run_39 : decode cX0_run 39 = .ok (.getfield 14, 3) := by decide +kernel
theorem dX0_run_42 : decode cX0_run 42 = .ok (.aload_n 0, 1) := by decide +kernel
theorem dX0_run_43 : decode cX0_run 43 = .ok (.getfield 18, 3) := by decide +kernel
theorem dX0_run_46 : decode cX0_run 46 = .ok (.getfield 38, 3) := by decide +kernel
theorem dX0_run_49 : decode cX0_run 49 = .ok (.bipush 8, 2) := by decide +kernel
theorem dX0_run_51 : decode cX0_run 51 = .ok (.invokevirtual 35, 3) := by decide +kernel
theorem dX0_run_54 : decode cX0_run 54 = .ok (.aload_n 0, 1) := by decide +kernel
theorem dX0_run_55 : decode cX0_run 55 = .ok (.getfield 18, 3) := by decide +kernel
theorem dX0_run_58 : decode cX0_run 58 = .ok (.aload_n 0, 1) := by decide +kernel
theorem dX0_run_59 : decode cX0_run 59 = .ok (.invokevirtual 41, 3) := by decide +kernel
theorem dX0_run_62 : decode cX0_run 62 = .ok (.bipush 8, 2) := by decide +kernel
theorem dX0_run_64 : decode cX0_run 64 = .ok (.invokevirtual 35, 3) := by decide +kernel
theorem dX0_run_67 : decode cX0_run 67 = .ok (.aload_n 0, 1) := by decide +kernel
theorem dX0_run_68 : decode cX0_run 68 = .ok (.invokevirtual 45, 3) := by decide +kernel
theorem dX0_run_71 : decode cX0_run 71 = .ok (.iinc 3 1, 3) := by decide +kernel
theorem dX0_run_74 : decode cX0_run 74 = .ok (.goto (-41), 3) := by decide +kernel
theorem dX0_run_77 : decode cX0_run 77 = .ok (.return_, 1) := by decide +kernel
theorem dX0_nextBits_0 : decode cX0_nextBits 0 = .ok (.iconst 0, 1) := by decide +kernel
theorem dX0_nextBits_1 : decode cX0_nextBits 1 = .ok (.istore_n 1, 1) := by decide +kernel
theorem dX0_nextBits_2 : decode cX0_nextBits 2 = .ok (.iconst 0, 1) := by decide +kernel
theorem dX0_nextBits_3 : decode cX0_nextBits 3 = .ok (.istore_n 2, 1) := by decide +kernel
theorem dX0_nextBits_4 : decode cX0_nextBits 4 = .ok (.iload_n 2, 1) := by decide +kernel
theorem dX0_nextBits_5 : decode cX0_nextBits 5 = .ok (.bipush 8, 2) := by decide +kernel
theorem dX0_nextBits_7 : decode cX0_nextBits 7 = .ok (.if_icmp .ge 47, 3) := by decide +kernel
theorem dX0_nextBits_10 : decode cX0_nextBits 10 = .ok (.aload_n 0, 1) := by decide +kernel
theorem dX0_nextBits_11 : decode cX0_nextBits 11 = .ok (.ldc2_w 48, 3) := by decide +kernel
theorem dX0_nextBits_14 : decode cX0_nextBits 14 = .ok (.aload_n 0, 1) := by decide +kernel
theorem dX0_nextBits_15 : decode cX0_nextBits 15 = .ok (.getfield 21, 3) := by decide +kernel
theorem dX0_nextBits_18 : decode cX0_nextBits 18 = .ok (.lmul, 1) := by decide +kernel
theorem dX0_nextBits_19 : decode cX0_nextBits 19 = .ok (.ldc2_w 50, 3) := by decide +kernel
theorem dX0_nextBits_22 : decode cX0_nextBits 22 = .ok (.ladd, 1) := by decide +kernel
theorem dX0_nextBits_23 : decode cX0_nextBits 23 = .ok (.ldc2_w 52, 3) := by decide +kernel
theorem dX0_nextBits_26 : decode cX0_nextBits 26 = .ok (.lrem, 1) := by decide +kernel
theorem dX0_nextBits_27 : decode cX0_nextBits 27 = .ok (.putfield 21, 3) := by decide +kernel
theorem dX0_nextBits_30 : decode cX0_nextBits 30 = .ok (.iload_n 1, 1) := by decide +kernel
theorem dX0_nextBits_31 : decode cX0_nextBits 31 = .ok (.iconst 1, 1) := by decide +kernel
theorem dX0_nextBits_32 : decode cX0_nextBits 32 = .ok (.ishl, 1) := by decide +kernel
theorem dX0_nextBits_33 : decode cX0_nextBits 33 = .ok (.aload_n 0, 1) := by decide +kernel
theorem dX0_nextBits_34 : decode cX0_nextBits 34 = .ok (.getfield 21, 3) := by decide +kernel
theorem dX0_nextBits_37 : decode cX0_nextBits 37 = .ok (.ldc2_w 54, 3) := by decide +kernel
theorem dX0_nextBits_40 : decode cX0_nextBits 40 = .ok (.ldiv, 1) := by decide +kernel
theorem dX0_nextBits_41 : decode cX0_nextBits 41 = .ok (.ldc2_w 56, 3) := by decide +kernel
theorem dX0_nextBits_44 : decode cX0_nextBits 44 = .ok (.lrem, 1) := by decide +kernel
theorem dX0_nextBits_45 : decode cX0_nextBits 45 = .ok (.l2i, 1) := by decide +kernel
theorem dX0_nextBits_46 : decode cX0_nextBits 46 = .ok (.ior, 1) := by decide +kernel
theorem dX0_nextBits_47 : decode cX0_nextBits 47 = .ok (.istore_n 1, 1) := by decide +kernel
theorem dX0_nextBits_48 : decode cX0_nextBits 48 = .ok (.iinc 2 1, 3) := by decide +kernel
theorem dX0_nextBits_51 : decode cX0_nextBits 51 = .ok (.goto (-47), 3) := by decide +kernel
theorem dX0_nextBits_54 : decode cX0_nextBits 54 = .ok (.iload_n 1, 1) := by decide +kernel
theorem dX0_nextBits_55 : decode cX0_nextBits 55 = .ok (.ireturn, 1) := by decide +kernel
set_option maxRecDepth 20000 in
theorem ggX0_tell_X3_isClosed : GoodIn wsX0_tell wsX3_isClosed := goodIn_r _ [10, 11, 12, 38, 39, 40, 41, 42, 43, 44] (by decide +kernel) (by decide +kernel)
set_option maxRecDepth 20000 in
theorem gX0_tell_X3_isClosed : GoodIn wsX0_tell (wsV RX0 58 RX3 yX3_isClosed wsX3_isClosed) := goodIn_app (goodIn_of _ (by decide +kernel)) ggX0_tell_X3_isClosed
set_option maxRecDepth 20000 in
theorem ggX0_tell_X3_traceSum : GoodIn wsX0_tell wsX3_traceSum := goodIn_r _ [16, 17, 18, 38, 39, 40, 41, 42, 43, 44] (by decide +kernel) (by decide +kernel)
set_option maxRecDepth 20000 in
theorem gX0_tell_X3_traceSum : GoodIn wsX0_tell (wsV RX0 62 RX3 yX3_traceSum wsX3_traceSum) := goodIn_app (goodIn_of _ (by decide +kernel)) ggX0_tell_X3_traceSum
set_option maxRecDepth 20000 in
theorem ggX0_tell_X3_crossings : GoodIn wsX0_tell wsX3_crossings := goodIn_r _ [22, 23, 24, 25, 26, 9, 27, 11, 28, 29, 30, 31, 38, 39, 40, 41, 42, 43, 44] (by decide +kernel) (by decide +kernel)
set_option maxRecDepth 20000 in
theorem gX0_tell_X3_crossings : GoodIn wsX0_tell (wsV RX0 65 RX3 yX3_crossings wsX3_crossings) := goodIn_app (goodIn_of _ (by decide +kernel)) ggX0_tell_X3_crossings
theorem dX0_tell_0 : decode cX0_tell 0 = .ok (.aload_n 0, 1) := by decide +kernel
theorem dX0_tell_1 : decode cX0_tell 1 = .ok (.getfield 18, 3) := by decide +kernel
theorem dX0_tell_4 : decode cX0_tell 4 = .ok (.invokevirtual 58, 3) := by decide +kernel
theorem dX0_tell_7 : decode cX0_tell 7 = .ok (.ifCond .ne 4, 3) := by decide +kernel
theorem dX0_tell_10 : decode cX0_tell 10 = .ok (.return_, 1) := by decide +kernel
theorem dX0_tell_11 : decode cX0_tell 11 = .ok (.aload_n 0, 1) := by decide +kernel
theorem dX0_tell_12 : decode cX0_tell 12 = .ok (.dup, 1) := by decide +kernel
theorem dX0_tell_13 : decode cX0_tell 13 = .ok (.getfield 25, 3) := by decide +kernel
theorem dX0_tell_16 : decode cX0_tell 16 = .ok (.iconst 1, 1) := by decide +kernel
theorem dX0_tell_17 : decode cX0_tell 17 = .ok (.iadd, 1) := by decide +kernel
theorem dX0_tell_18 : decode cX0_tell 18 = .ok (.putfield 25, 3) := by decide +kernel
theorem dX0_tell_21 : decode cX0_tell 21 = .ok (.aload_n 0, 1) := by decide +kernel
theorem dX0_tell_22 : decode cX0_tell 22 = .ok (.dup, 1) := by decide +kernel
theorem dX0_tell_23 : decode cX0_tell 23 = .ok (.getfield 29, 3) := by decide +kernel
theorem dX0_tell_26 : decode cX0_tell 26 = .ok (.aload_n 0, 1) := by decide +kernel
theorem dX0_tell_27 : decode cX0_tell 27 = .ok (.getfield 18, 3) := by decide +kernel
theorem dX0_tell_30 : decode cX0_tell 30 = .ok (.invokevirtual 62, 3) := by decide +kernel
theorem dX0_tell_33 : decode cX0_tell 33 = .ok (.iadd, 1) := by decide +kernel
theorem dX0_tell_34 : decode cX0_tell 34 = .ok (.putfield 29, 3) := by decide +kernel
theorem dX0_tell_37 : decode cX0_tell 37 = .ok (.aload_n 0, 1) := by decide +kernel
theorem dX0_tell_38 : decode cX0_tell 38 = .ok (.getfield 14, 3) := by decide +kernel
theorem dX0_tell_41 : decode cX0_tell 41 = .ok (.invokevirtual 58, 3) := by decide +kernel
theorem dX0_tell_44 : decode cX0_tell 44 = .ok (.ifCond .eq 23, 3) := by decide +kernel
theorem dX0_tell_47 : decode cX0_tell 47 = .ok (.aload_n 0, 1) := by decide +kernel
theorem dX0_tell_48 : decode cX0_tell 48 = .ok (.dup, 1) := by decide +kernel
theorem dX0_tell_49 : decode cX0_tell 49 = .ok (.getfield 32, 3) := by decide +kernel
theorem dX0_tell_52 : decode cX0_tell 52 = .ok (.aload_n 0, 1) := by decide +kernel
theorem dX0_tell_53 : decode cX0_tell 53 = .ok (.getfield 18, 3) := by decide +kernel
theorem dX0_tell_56 : decode cX0_tell 56 = .ok (.aload_n 0, 1) := by decide +kernel
theorem dX0_tell_57 : decode cX0_tell 57 = .ok (.getfield 14, 3) := by decide +kernel
theorem dX0_tell_60 : decode cX0_tell 60 = .ok (.invokevirtual 65, 3) := by decide +kernel
theorem dX0_tell_63 : decode cX0_tell 63 = .ok (.iadd, 1) := by decide +kernel
theorem dX0_tell_64 : decode cX0_tell 64 = .ok (.putfield 32, 3) := by decide +kernel
theorem dX0_tell_67 : decode cX0_tell 67 = .ok (.return_, 1) := by decide +kernel
theorem dX1_init_0 : decode cX1_init 0 = .ok (.aload_n 0, 1) := by decide +kernel
theorem dX1_init_1 : decode cX1_init 1 = .ok (.invokespecial 3, 3) := by decide +kernel
theorem dX1_init_4 : decode cX1_init 4 = .ok (.aload_n 0, 1) := by decide +kernel
theorem dX1_init_5 : decode cX1_init 5 = .ok (.bipush 20, 2) := by decide +kernel
theorem dX1_init_7 : decode cX1_init 7 = .ok (.newarray .int, 2) := by decide +kernel
theorem dX1_init_9 : decode cX1_init 9 = .ok (.putfield 9, 3) := by decide +kernel
theorem dX1_init_12 : decode cX1_init 12 = .ok (.return_, 1) := by decide +kernel
theorem dX1_clear_0 : decode cX1_clear 0 = .ok (.aload_n 0, 1) := by decide +kernel
theorem dX1_clear_1 : decode cX1_clear 1 = .ok (.iconst 0, 1) := by decide +kernel
theorem dX1_clear_2 : decode cX1_clear 2 = .ok (.putfield 15, 3) := by decide +kernel
theorem dX1_clear_5 : decode cX1_clear 5 = .ok (.aload_n 0, 1) := by decide +kernel
theorem dX1_clear_6 : decode cX1_clear 6 = .ok (.iconst 0, 1) := by decide +kernel
theorem dX1_clear_7 : decode cX1_clear 7 = .ok (.putfield 19, 3) := by decide +kernel
theorem dX1_clear_10 : decode cX1_clear 10 = .ok (.aload_n 0, 1) := by decide +kernel
theorem dX1_clear_11 : decode cX1_clear 11 = .ok (.iconst 0, 1) := by decide +kernel
theorem dX1_clear_12 : decode cX1_clear 12 = .ok (.putfield 22, 3) := by decide +kernel
theorem dX1_clear_15 : decode cX1_clear 15 = .ok (.aload_n 0, 1) := by decide +kernel
theorem dX1_clear_16 : decode cX1_clear 16 = .ok (.iconst 0, 1) := by decide +kernel
theorem dX1_clear_17 : decode cX1_clear 17 = .ok (.putfield 25, 3) := by decide +kernel
theorem dX1_clear_20 : decode cX1_clear 20 = .ok (.aload_n 0, 1) := by decide +kernel
theorem dX1_clear_21 : decode cX1_clear 21 = .ok (.iconst 0, 1) := by decide +kernel
theorem dX1_clear_22 : decode cX1_clear 22 = .ok (.putfield 28, 3) := by decide +kernel
theorem dX1_clear_25 : decode cX1_clear 25 = .ok (.return_, 1) := by decide +kernel
set_option maxRecDepth 20000 in
theorem ggX1_append_X1_continues : GoodIn wsX1_append wsX1_continues := goodIn_r _ [8, 9, 10, 11, 12, 13, 14, 15, 16, 17] (by decide +kernel) (by decide +kernel)
set_option maxRecDepth 20000 in
theorem gX1_append_X1_continues : GoodIn wsX1_append (wsV RX1 32 RX1 yX1_continues wsX1_continues) := goodIn_app (goodIn_of _ (by decide +kernel)) ggX1_append_X1_continues
theorem dX1_append_0 : decode cX1_append 0 = .ok (.aload_n 0, 1) := by decide +kernel
theorem dX1_append_1 : decode cX1_append 1 = .ok (.getfield 15, 3) := by decide +kernel
theorem dX1_append_4 : decode cX1_append 4 = .ok (.ifCond .lt 15, 3) := by decide +kernel
theorem dX1_append_7 : decode cX1_append 7 = .ok (.aload_n 0, 1) := by decide +kernel
theorem dX1_append_8 : decode cX1_append 8 = .ok (.getfield 15, 3) := by decide +kernel
theorem dX1_append_11 : decode cX1_append 11 = .ok (.aload_n 0, 1) := by decide +kernel
theorem dX1_append_12 : decode cX1_append 12 = .ok (.getfield 9, 3) := by decide +kernel
theorem dX1_append_15 : decode cX1_append 15 = .ok (.arraylength, 1) := by decide +kernel
theorem dX1_append_16 : decode cX1_append 16 = .ok (.if_icmp .lt 4, 3) := by decide +kernel
theorem dX1_append_19 : decode cX1_append 19 = .ok (.return_, 1) := by decide +kernel
theorem dX1_append_20 : decode cX1_append 20 = .ok (.aload_n 0, 1) := by decide +kernel
theorem dX1_append_21 : decode cX1_append 21 = .ok (.getfield 19, 3) := by decide +kernel
theorem dX1_append_24 : decode cX1_append 24 = .ok (.aload_n 0, 1) := by decide +kernel
theorem dX1_append_25 : decode cX1_append 25 = .ok (.getfield 15, 3) := by decide +kernel
theorem dX1_append_28 : decode cX1_append 28 = .ok (.if_icmp .ne 21, 3) := by decide +kernel
theorem dX1_append_31 : decode cX1_append 31 = .ok (.aload_n 0, 1) := by decide +kernel
theorem dX1_append_32 : decode cX1_append 32 = .ok (.iload_n 1, 1) := by decide +kernel
theorem dX1_append_33 : decode cX1_append 33 = .ok (.invokevirtual 32, 3) := by decide +kernel
theorem dX1_append_36 : decode cX1_append 36 = .ok (.ifCond .eq 13, 3) := by decide +kernel
theorem dX1_append_39 : decode cX1_append 39 = .ok (.aload_n 0, 1) := by decide +kernel
theorem dX1_append_40 : decode cX1_append 40 = .ok (.dup, 1) := by decide +kernel
theorem dX1_append_41 : decode cX1_append 41 = .ok (.getfield 19, 3) := by decide +kernel
theorem dX1_append_44 : decode cX1_append 44 = .ok (.iconst 1, 1) := by decide +kernel
theorem dX1_append_45 : decode cX1_append 45 = .ok (.iadd, 1) := by decide +kernel
theorem dX1_append_46 : decode cX1_append 46 = .ok (.putfield 19, 3) := by decide +kernel
theorem dX1_append_49 : decode cX1_append 49 = .ok (.aload_n 0, 1) := by decide +kernel
theorem dX1_append_50 : decode cX1_append 50 = .ok (.getfield 9, 3) := by decide +kernel
theorem dX1_append_53 : decode cX1_append 53 = .ok (.aload_n 0, 1) := by decide +kernel
theorem dX1_append_54 : decode cX1_append 54 = .ok (.getfield 15, 3) := by decide +kernel
theorem dX1_append_57 : decode cX1_append 57 = .ok (.iload_n 1, 1) := by decide +kernel
theorem dX1_append_58 : decode cX1_append 58 = .ok (.iastore, 1) := by decide +kernel
theorem dX1_append_59 : decode cX1_append 59 = .ok (.aload_n 0, 1) := by decide +kernel
theorem dX1_append_60 : decode cX1_append 60 = .ok (.dup, 1) := by decide +kernel
theorem dX1_append_61 : decode cX1_append 61 = .ok (.getfield 15, 3) := by decide +kernel
theorem dX1_append_64 : decode cX1_append 64 = .ok (.iconst 1, 1) := by decide +kernel
theorem dX1_append_65 : decode cX1_append 65 = .ok (.iadd, 1) := by decide +kernel
theorem dX1_append_66 : decode cX1_append 66 = .ok (.putfield 15, 3) := by decide +kernel
theorem dX1_append_69 : decode cX1_append 69 = .ok (.return_, 1) := by decide +kernel
theorem dX1_isWord_0 : decode cX1_isWord 0 = .ok (.aload_n 0, 1) := by decide +kernel
theorem dX1_isWord_1 : decode cX1_isWord 1 = .ok (.getfield 15, 3) := by decide +kernel
theorem dX1_isWord_4 : decode cX1_isWord 4 = .ok (.ifCond .le 18, 3) := by decide +kernel
theorem dX1_isWord_7 : decode cX1_isWord 7 = .ok (.aload_n 0, 1) := by decide +kernel
theorem dX1_isWord_8 : decode cX1_isWord 8 = .ok (.getfield 19, 3) := by decide +kernel
theorem dX1_isWord_11 : decode cX1_isWord 11 = .ok (.aload_n 0, 1) := by decide +kernel
theorem dX1_isWord_12 : decode cX1_isWord 12 = .ok (.getfield 15, 3) := by decide +kernel
theorem dX1_isWord_15 : decode cX1_isWord 15 = .ok (.if_icmp .ne 7, 3) := by decide +kernel
theorem dX1_isWord_18 : decode cX1_isWord 18 = .ok (.iconst 1, 1) := by decide +kernel
theorem dX1_isWord_19 : decode cX1_isWord 19 = .ok (.goto 4, 3) := by decide +kernel
theorem dX1_isWord_22 : decode cX1_isWord 22 = .ok (.iconst 0, 1) := by decide +kernel
theorem dX1_isWord_23 : decode cX1_isWord 23 = .ok (.ireturn, 1) := by decide +kernel
theorem dX1_continues_0 : decode cX1_continues 0 = .ok (.iload_n 1, 1) := by decide +kernel
theorem dX1_continues_1 : decode cX1_continues 1 = .ok (.bipush 76, 2) := by decide +kernel
theorem dX1_continues_3 : decode cX1_continues 3 = .ok (.if_icmp .eq 9, 3) := by decide +kernel
theorem dX1_continues_6 : decode cX1_continues 6 = .ok (.iload_n 1, 1) := by decide +kernel
theorem dX1_continues_7 : decode cX1_continues 7 = .ok (.bipush 82, 2) := by decide +kernel
theorem dX1_continues_9 : decode cX1_continues 9 = .ok (.if_icmp .ne 7, 3) := by decide +kernel
theorem dX1_continues_12 : decode cX1_continues 12 = .ok (.iconst 1, 1) := by decide +kernel
theorem dX1_continues_13 : decode cX1_continues 13 = .ok (.goto 4, 3) := by decide +kernel
theorem dX1_continues_16 : decode cX1_continues 16 = .ok (.iconst 0, 1) := by decide +kernel
theorem dX1_continues_17 : decode cX1_continues 17 = .ok (.istore_n 2, 1) := by decide +kernel
theorem dX1_continues_18 : decode cX1_continues 18 = .ok (.aload_n 0, 1) := by decide +kernel
theorem dX1_continues_19 : decode cX1_continues 19 = .ok (.getfield 28, 3) := by decide +kernel
theorem dX1_continues_22 : decode cX1_continues 22 = .ok (.ifCond .eq 19, 3) := by decide +kernel
theorem dX1_continues_25 : decode cX1_continues 25 = .ok (.iload_n 1, 1) := by decide +kernel
theorem dX1_continues_26 : decode cX1_continues 26 = .ok (.bipush 50, 2) := by decide +kernel
theorem dX1_continues_28 : decode cX1_continues 28 = .ok (.if_icmp .lt 13, 3) := by decide +kernel
theorem dX1_continues_31 : decode cX1_continues 31 = .ok (.iload_n 1, 1) := by decide +kernel
theorem dX1_continues_32 : decode cX1_continues 32 = .ok (.bipush 57, 2) := by decide +kernel
theorem dX1_continues_34 : decode cX1_continues 34 = .ok (.if_icmp .gt 7, 3) := by decide +kernel
theorem dX1_continues_37 : decode cX1_continues 37 = .ok (.iconst 1, 1) := by decide +kernel
theorem dX1_continues_38 : decode cX1_continues 38 = .ok (.goto 4, 3) := by decide +kernel
theorem dX1_continues_41 : decode cX1_continues 41 = .ok (.iconst 0, 1) := by decide +kernel
theorem dX1_continues_42 : decode cX1_continues 42 = .ok (.istore_n 3, 1) := by decide +kernel
theorem dX1_continues_43 : decode cX1_continues 43 = .ok (.iload_n 2, 1) := by decide +kernel
theorem dX1_continues_44 : decode cX1_continues 44 = .ok (.ifCond .ne 9, 3) := by decide +kernel
theorem dX1_continues_47 : decode cX1_continues 47 = .ok (.iload_n 3, 1) := by decide +kernel
theorem dX1_continues_48 : decode cX1_continues 48 = .ok (.ifCond .ne 5, 3) := by decide +kernel
theorem dX1_continues_51 : decode cX1_continues 51 = .ok (.iconst 0, 1) := by decide +kernel
theorem dX1_continues_52 : decode cX1_continues 52 = .ok (.ireturn, 1) := by decide +kernel
theorem dX1_continues_53 : decode cX1_continues 53 = .ok (.iload_n 2, 1) := by decide +kernel
theorem dX1_continues_54 : decode cX1_continues 54 = .ok (.ifCond .eq 7, 3) := by decide +kernel
theorem dX1_continues_57 : decode cX1_continues 57 = .ok (.iconst 1, 1) := by decide +kernel
theorem dX1_continues_58 : decode cX1_continues 58 = .ok (.goto 7, 3) := by decide +kernel
theorem dX1_continues_61 : decode cX1_continues 61 = .ok (.iload_n 1, 1) := by decide +kernel
theorem dX1_continues_62 : decode cX1_continues 62 = .ok (.bipush 49, 2) := by decide +kernel
theorem dX1_continues_64 : decode cX1_continues 64 = .ok (.isub, 1) := by decide +kernel
theorem dX1_continues_65 : decode cX1_continues 65 = .ok (.istore 4, 2) := by decide +kernel
theorem dX1_continues_67 : decode cX1_continues 67 = .ok (.aload_n 0, 1) := by decide +kernel
theorem dX1_continues_68 : decode cX1_continues 68 = .ok (.getfield 25, 3) := by decide +kernel
theorem dX1_continues_71 : decode cX1_continues 71 = .ok (.iload 4, 2) := by decide +kernel
theorem dX1_continues_73 : decode cX1_continues 73 = .ok (.iadd, 1) := by decide +kernel
theorem dX1_continues_74 : decode cX1_continues 74 = .ok (.bipush 20, 2) := by decide +kernel
theorem dX1_continues_76 : decode cX1_continues 76 = .ok (.if_icmp .le 5, 3) := by decide +kernel
theorem dX1_continues_79 : decode cX1_continues 79 = .ok (.iconst 0, 1) := by decide +kernel
theorem dX1_continues_80 : decode cX1_continues 80 = .ok (.ireturn, 1) := by decide +kernel
theorem dX1_continues_81 : decode cX1_continues 81 = .ok (.iload_n 2, 1) := by decide +kernel
theorem dX1_continues_82 : decode cX1_continues 82 = .ok (.ifCond .eq 17, 3) := by decide +kernel
theorem dX1_continues_85 : decode cX1_continues 85 = .ok (.iload_n 1, 1) := by decide +kernel
theorem dX1_continues_86 : decode cX1_continues 86 = .ok (.bipush 82, 2) := by decide +kernel
theorem dX1_continues_88 : decode cX1_continues 88 = .ok (.if_icmp .ne 7, 3) := by decide +kernel
theorem dX1_continues_91 : decode cX1_continues 91 = .ok (.iconst 1, 1) := by decide +kernel
theorem dX1_continues_92 : decode cX1_continues 92 = .ok (.goto 13, 3) := by decide +kernel
theorem dX1_continues_95 : decode cX1_continues 95 = .ok (.iconst 0, 1) := by decide +kernel
theorem dX1_continues_96 : decode cX1_continues 96 = .ok (.goto 9, 3) := by decide +kernel
theorem dX1_continues_99 : decode cX1_continues 99 = .ok (.aload_n 0, 1) := by decide +kernel
theorem dX1_continues_100 : decode cX1_continues 100 = .ok (.getfield 22, 3) := by decide +kernel
theorem dX1_continues_103 : decode cX1_continues 103 = .ok (.iconst 1, 1) := by decide +kernel
theorem dX1_continues_104 : decode cX1_continues 104 = .ok (.iand, 1) := by decide +kernel
theorem dX1_continues_105 : decode cX1_continues 105 = .ok (.istore 5, 2) := by decide +kernel
theorem dX1_continues_107 : decode cX1_continues 107 = .ok (.iconst 0, 1) := by decide +kernel
theorem dX1_continues_108 : decode cX1_continues 108 = .ok (.istore 6, 2) := by decide +kernel
theorem dX1_continues_110 : decode cX1_continues 110 = .ok (.iload 6, 2) := by decide +kernel
theorem dX1_continues_112 : decode cX1_continues 112 = .ok (.iload 4, 2) := by decide +kernel
theorem dX1_continues_114 : decode cX1_continues 114 = .ok (.if_icmp .ge 22, 3) := by decide +kernel
theorem dX1_continues_117 : decode cX1_continues 117 = .ok (.aload_n 0, 1) := by decide +kernel
theorem dX1_continues_118 : decode cX1_continues 118 = .ok (.aload_n 0, 1) := by decide +kernel
theorem dX1_continues_119 : decode cX1_continues 119 = .ok (.getfield 22, 3) := by decide +kernel
theorem dX1_continues_122 : decode cX1_continues 122 = .ok (.iconst 1, 1) := by decide +kernel
theorem dX1_continues_123 : decode cX1_continues 123 = .ok (.ishl, 1) := by decide +kernel
theorem dX1_continues_124 : decode cX1_continues 124 = .ok (.iload 5, 2) := by decide +kernel
theorem dX1_continues_126 : decode cX1_continues 126 = .ok (.ior, 1) := by decide +kernel
theorem dX1_continues_127 : decode cX1_continues 127 = .ok (.putfield 22, 3) := by decide +kernel
theorem dX1_continues_130 : decode cX1_continues 130 = .ok (.iinc 6 1, 3) := by decide +kernel
theorem dX1_continues_133 : decode cX1_continues 133 = .ok (.goto (-23), 3) := by decide +kernel
theorem dX1_continues_136 : decode cX1_continues 136 = .ok (.aload_n 0, 1) := by decide +kernel
theorem dX1_continues_137 : decode cX1_continues 137 = .ok (.dup, 1) := by decide +kernel
theorem dX1_continues_138 : decode cX1_continues 138 = .ok (.getfield 25, 3) := by decide +kernel
theorem dX1_continues_141 : decode cX1_continues 141 = .ok (.iload 4, 2) := by decide +kernel
theorem dX1_continues_143 : decode cX1_continues 143 = .ok (.iadd, 1) := by decide +kernel
theorem dX1_continues_144 : decode cX1_continues 144 = .ok (.putfield 25, 3) := by decide +kernel
theorem dX1_continues_147 : decode cX1_continues 147 = .ok (.aload_n 0, 1) := by decide +kernel
theorem dX1_continues_148 : decode cX1_continues 148 = .ok (.iload_n 2, 1) := by decide +kernel
theorem dX1_continues_149 : decode cX1_continues 149 = .ok (.putfield 28, 3) := by decide +kernel
theorem dX1_continues_152 : decode cX1_continues 152 = .ok (.iconst 1, 1) := by decide +kernel
theorem dX1_continues_153 : decode cX1_continues 153 = .ok (.ireturn, 1) := by decide +kernel
set_option maxRecDepth 20000 in
theorem ggX1_hashed_X4_mix : GoodIn wsX1_hashed wsX4_mix := goodIn_r _ [5, 6] (by decide +kernel) (by decide +kernel)
set_option maxRecDepth 20000 in
theorem gX1_hashed_X4_mix_n36 : GoodIn wsX1_hashed (wsX4_mix) := ggX1_hashed_X4_mix
theorem dX1_hashed_0 : decode cX1_hashed 0 = .ok (.lload_n 1, 1) := by decide +kernel
theorem dX1_hashed_1 : decode cX1_hashed 1 = .ok (.lstore_n 3, 1) := by decide +kernel
theorem dX1_hashed_2 : decode cX1_hashed 2 = .ok (.iconst 0, 1) := by decide +kernel
theorem dX1_hashed_3 : decode cX1_hashed 3 = .ok (.istore 5, 2) := by decide +kernel
theorem dX1_hashed_5 : decode cX1_hashed 5 = .ok (.iload 5, 2) := by decide +kernel
theorem dX1_hashed_7 : decode cX1_hashed 7 = .ok (.aload_n 0, 1) := by decide +kernel
theorem dX1_hashed_8 : decode cX1_hashed 8 = .ok (.getfield 15, 3) := by decide +kernel
theorem dX1_hashed_11 : decode cX1_hashed 11 = .ok (.if_icmp .ge 31, 3) := by decide +kernel
theorem dX1_hashed_14 : decode cX1_hashed 14 = .ok (.iload 5, 2) := by decide +kernel
theorem dX1_hashed_16 : decode cX1_hashed 16 = .ok (.aload_n 0, 1) := by decide +kernel
theorem dX1_hashed_17 : decode cX1_hashed 17 = .ok (.getfield 9, 3) := by decide +kernel
theorem dX1_hashed_20 : decode cX1_hashed 20 = .ok (.arraylength, 1) := by decide +kernel
theorem dX1_hashed_21 : decode cX1_hashed 21 = .ok (.if_icmp .ge 21, 3) := by decide +kernel
theorem dX1_hashed_24 : decode cX1_hashed 24 = .ok (.lload_n 3, 1) := by decide +kernel
theorem dX1_hashed_25 : decode cX1_hashed 25 = .ok (.aload_n 0, 1) := by decide +kernel
theorem dX1_hashed_26 : decode cX1_hashed 26 = .ok (.getfield 9, 3) := by decide +kernel
theorem dX1_hashed_29 : decode cX1_hashed 29 = .ok (.iload 5, 2) := by decide +kernel
theorem dX1_hashed_31 : decode cX1_hashed 31 = .ok (.iaload, 1) := by decide +kernel
theorem dX1_hashed_32 : decode cX1_hashed 32 = .ok (.invokestatic 36, 3) := by decide +kernel
theorem dX1_hashed_35 : decode cX1_hashed 35 = .ok (.lstore_n 3, 1) := by decide +kernel
theorem dX1_hashed_36 : decode cX1_hashed 36 = .ok (.iinc 5 1, 3) := by decide +kernel
theorem dX1_hashed_39 : decode cX1_hashed 39 = .ok (.goto (-34), 3) := by decide +kernel
theorem dX1_hashed_42 : decode cX1_hashed 42 = .ok (.lload_n 3, 1) := by decide +kernel
theorem dX1_hashed_43 : decode cX1_hashed 43 = .ok (.lreturn, 1) := by decide +kernel
theorem dX2_init_0 : decode cX2_init 0 = .ok (.aload_n 0, 1) := by decide +kernel
theorem dX2_init_1 : decode cX2_init 1 = .ok (.invokespecial 3, 3) := by decide +kernel
theorem dX2_init_4 : decode cX2_init 4 = .ok (.aload_n 0, 1) := by decide +kernel
theorem dX2_init_5 : decode cX2_init 5 = .ok (.bipush 8, 2) := by decide +kernel
theorem dX2_init_7 : decode cX2_init 7 = .ok (.sipush 320, 3) := by decide +kernel
theorem dX2_init_10 : decode cX2_init 10 = .ok (.multianewarray 11 2, 4) := by decide +kernel
theorem dX2_init_14 : decode cX2_init 14 = .ok (.putfield 13, 3) := by decide +kernel
theorem dX2_init_17 : decode cX2_init 17 = .ok (.aload_n 0, 1) := by decide +kernel
theorem dX2_init_18 : decode cX2_init 18 = .ok (.iconst 5, 1) := by decide +kernel
theorem dX2_init_19 : decode cX2_init 19 = .ok (.bipush 10, 2) := by decide +kernel
theorem dX2_init_21 : decode cX2_init 21 = .ok (.multianewarray 11 2, 4) := by decide +kernel
theorem dX2_init_25 : decode cX2_init 25 = .ok (.putfield 16, 3) := by decide +kernel
theorem dX2_init_28 : decode cX2_init 28 = .ok (.return_, 1) := by decide +kernel
theorem dX2_exists_0 : decode cX2_exists 0 = .ok (.aload_n 0, 1) := by decide +kernel
theorem dX2_exists_1 : decode cX2_exists 1 = .ok (.getfield 19, 3) := by decide +kernel
theorem dX2_exists_4 : decode cX2_exists 4 = .ok (.ifCond .le 7, 3) := by decide +kernel
theorem dX2_exists_7 : decode cX2_exists 7 = .ok (.iconst 1, 1) := by decide +kernel
theorem dX2_exists_8 : decode cX2_exists 8 = .ok (.goto 4, 3) := by decide +kernel
theorem dX2_exists_11 : decode cX2_exists 11 = .ok (.iconst 0, 1) := by decide +kernel
theorem dX2_exists_12 : decode cX2_exists 12 = .ok (.ireturn, 1) := by decide +kernel
theorem dX2_hasForm_0 : decode cX2_hasForm 0 = .ok (.iload_n 1, 1) := by decide +kernel
theorem dX2_hasForm_1 : decode cX2_hasForm 1 = .ok (.ifCond .lt 22, 3) := by decide +kernel
theorem dX2_hasForm_4 : decode cX2_hasForm 4 = .ok (.iload_n 1, 1) := by decide +kernel
theorem dX2_hasForm_5 : decode cX2_hasForm 5 = .ok (.aload_n 0, 1) := by decide +kernel
theorem dX2_hasForm_6 : decode cX2_hasForm 6 = .ok (.getfield 19, 3) := by decide +kernel
theorem dX2_hasForm_9 : decode cX2_hasForm 9 = .ok (.if_icmp .ge 14, 3) := by decide +kernel
theorem dX2_hasForm_12 : decode cX2_hasForm 12 = .ok (.iload_n 1, 1) := by decide +kernel
theorem dX2_hasForm_13 : decode cX2_hasForm 13 = .ok (.sipush 320, 3) := by decide +kernel
theorem dX2_hasForm_16 : decode cX2_hasForm 16 = .ok (.if_icmp .ge 7, 3) := by decide +kernel
theorem dX2_hasForm_19 : decode cX2_hasForm 19 = .ok (.iconst 1, 1) := by decide +kernel
theorem dX2_hasForm_20 : decode cX2_hasForm 20 = .ok (.goto 4, 3) := by decide +kernel
theorem dX2_hasForm_23 : decode cX2_hasForm 23 = .ok (.iconst 0, 1) := by decide +kernel
theorem dX2_hasForm_24 : decode cX2_hasForm 24 = .ok (.ireturn, 1) := by decide +kernel
theorem dX2_hasCycle_0 : decode cX2_hasCycle 0 = .ok (.iload_n 1, 1) := by decide +kernel
theorem dX2_hasCycle_1 : decode cX2_hasCycle 1 = .ok (.ifCond .lt 21, 3) := by decide +kernel
theorem dX2_hasCycle_4 : decode cX2_hasCycle 4 = .ok (.iload_n 1, 1) := by decide +kernel
theorem dX2_hasCycle_5 : decode cX2_hasCycle 5 = .ok (.aload_n 0, 1) := by decide +kernel
theorem dX2_hasCycle_6 : decode cX2_hasCycle 6 = .ok (.getfield 23, 3) := by decide +kernel
theorem dX2_hasCycle_9 : decode cX2_hasCycle 9 = .ok (.if_icmp .ge 13, 3) := by decide +kernel
theorem dX2_hasCycle_12 : decode cX2_hasCycle 12 = .ok (.iload_n 1, 1) := by decide +kernel
theorem dX2_hasCycle_13 : decode cX2_hasCycle 13 = .ok (.bipush 10, 2) := by decide +kernel
theorem dX2_hasCycle_15 : decode cX2_hasCycle 15 = .ok (.if_icmp .ge 7, 3) := by decide +kernel
theorem dX2_hasCycle_18 : decode cX2_hasCycle 18 = .ok (.iconst 1, 1) := by decide +kernel
theorem dX2_hasCycle_19 : decode cX2_hasCycle 19 = .ok (.goto 4, 3) := by decide +kernel
theorem dX2_hasCycle_22 : decode cX2_hasCycle 22 = .ok (.iconst 0, 1) := by decide +kernel
theorem dX2_hasCycle_23 : decode cX2_hasCycle 23 = .ok (.ireturn, 1) := by decide +kernel
set_option maxRecDepth 20000 in
theorem ggX2_ofForm_X2_hasForm : GoodIn wsX2_ofForm wsX2_hasForm := goodIn_r _ [7, 8, 9, 10, 11, 12, 13] (by decide +kernel) (by decide +kernel)
set_option maxRecDepth 20000 in
theorem gX2_ofForm_X2_hasForm : GoodIn wsX2_ofForm (wsV RX2 26 RX2 yX2_hasForm wsX2_hasForm) := goodIn_app (goodIn_of _ (by decide +kernel)) ggX2_ofForm_X2_hasForm
theorem dX2_ofForm_0 : decode cX2_ofForm 0 = .ok (.aload_n 0, 1) := by decide +kernel
theorem dX2_ofForm_1 : decode cX2_ofForm 1 = .ok (.iload_n 1, 1) := by decide +kernel
theorem dX2_ofForm_2 : decode cX2_ofForm 2 = .ok (.invokevirtual 26, 3) := by decide +kernel
theorem dX2_ofForm_5 : decode cX2_ofForm 5 = .ok (.ifCond .eq 24, 3) := by decide +kernel
theorem dX2_ofForm_8 : decode cX2_ofForm 8 = .ok (.iload_n 2, 1) := by decide +kernel
theorem dX2_ofForm_9 : decode cX2_ofForm 9 = .ok (.ifCond .lt 20, 3) := by decide +kernel
theorem dX2_ofForm_12 : decode cX2_ofForm 12 = .ok (.iload_n 2, 1) := by decide +kernel
theorem dX2_ofForm_13 : decode cX2_ofForm 13 = .ok (.bipush 8, 2) := by decide +kernel
theorem dX2_ofForm_15 : decode cX2_ofForm 15 = .ok (.if_icmp .ge 14, 3) := by decide +kernel
theorem dX2_ofForm_18 : decode cX2_ofForm 18 = .ok (.aload_n 0, 1) := by decide +kernel
theorem dX2_ofForm_19 : decode cX2_ofForm 19 = .ok (.getfield 13, 3) := by decide +kernel
theorem dX2_ofForm_22 : decode cX2_ofForm 22 = .ok (.iload_n 2, 1) := by decide +kernel
theorem dX2_ofForm_23 : decode cX2_ofForm 23 = .ok (.aaload, 1) := by decide +kernel
theorem dX2_ofForm_24 : decode cX2_ofForm 24 = .ok (.iload_n 1, 1) := by decide +kernel
theorem dX2_ofForm_25 : decode cX2_ofForm 25 = .ok (.iaload, 1) := by decide +kernel
theorem dX2_ofForm_26 : decode cX2_ofForm 26 = .ok (.goto 5, 3) := by decide +kernel
theorem dX2_ofForm_29 : decode cX2_ofForm 29 = .ok (.ldc 30, 2) := by decide +kernel
theorem dX2_ofForm_31 : decode cX2_ofForm 31 = .ok (.ireturn, 1) := by decide +kernel
set_option maxRecDepth 20000 in
theorem ggX2_ofCycle_X2_hasCycle : GoodIn wsX2_ofCycle wsX2_hasCycle := goodIn_r _ [7, 8, 9, 10, 11, 12, 13] (by decide +kernel) (by decide +kernel)
set_option maxRecDepth 20000 in
theorem gX2_ofCycle_X2_hasCycle : GoodIn wsX2_ofCycle (wsV RX2 31 RX2 yX2_hasCycle wsX2_hasCycle) := goodIn_app (goodIn_of _ (by decide +kernel)) ggX2_ofCycle_X2_hasCycle
theorem dX2_ofCycle_0 : decode cX2_ofCycle 0 = .ok (.aload_n 0, 1) := by decide +kernel
theorem dX2_ofCycle_1 : decode cX2_ofCycle 1 = .ok (.iload_n 1, 1) := by decide +kernel
theorem dX2_ofCycle_2 : decode cX2_ofCycle 2 = .ok (.invokevirtual 31, 3) := by decide +kernel
theorem dX2_ofCycle_5 : decode cX2_ofCycle 5 = .ok (.ifCond .eq 23, 3) := by decide +kernel
theorem dX2_ofCycle_8 : decode cX2_ofCycle 8 = .ok (.iload_n 2, 1) := by decide +kernel
theorem dX2_ofCycle_9 : decode cX2_ofCycle 9 = .ok (.ifCond .lt 19, 3) := by decide +kernel
theorem dX2_ofCycle_12 : decode cX2_ofCycle 12 = .ok (.iload_n 2, 1) := by decide +kernel
theorem dX2_ofCycle_13 : decode cX2_ofCycle 13 = .ok (.iconst 5, 1) := by decide +kernel
theorem dX2_ofCycle_14 : decode cX2_ofCycle 14 = .ok (.if_icmp .ge 14, 3) := by decide +kernel
theorem dX2_ofCycle_17 : decode cX2_ofCycle 17 = .ok (.aload_n 0, 1) := by decide +kernel
theorem dX2_ofCycle_18 : decode cX2_ofCycle 18 = .ok (.getfield 16, 3) := by decide +kernel
theorem dX2_ofCycle_21 : decode cX2_ofCycle 21 = .ok (.iload_n 2, 1) := by decide +kernel
theorem dX2_ofCycle_22 : decode cX2_ofCycle 22 = .ok (.aaload, 1) := by decide +kernel
theorem dX2_ofCycle_23 : decode cX2_ofCycle 23 = .ok (.iload_n 1, 1) := by decide +kernel
theorem dX2_ofCycle_24 : decode cX2_ofCycle 24 = .ok (.iaload, 1) := by decide +kernel
theorem dX2_ofCycle_25 : decode cX2_ofCycle 25 = .ok (.goto 5, 3) := by decide +kernel
theorem dX2_ofCycle_28 : decode cX2_ofCycle 28 = .ok (.ldc 30, 2) := by decide +kernel
theorem dX2_ofCycle_30 : decode cX2_ofCycle 30 = .ok (.ireturn, 1) := by decide +kernel
set_option maxRecDepth 20000 in
theorem ggX2_setForm_X2_hasForm : GoodIn wsX2_setForm wsX2_hasForm := goodIn_r _ [6, 7, 8, 9, 10, 11, 12] (by decide +kernel) (by decide +kernel)
set_option maxRecDepth 20000 in
theorem gX2_setForm_X2_hasForm : GoodIn wsX2_setForm (wsV RX2 26 RX2 yX2_hasForm wsX2_hasForm) := goodIn_app (goodIn_of _ (by decide +kernel)) ggX2_setForm_X2_hasForm
theorem dX2_setForm_0 : decode cX2_setForm 0 = .ok (.aload_n 0, 1) := by decide +kernel
theorem dX2_setForm_1 : decode cX2_setForm 1 = .ok (.iload_n 1, 1) := by decide +kernel
theorem dX2_setForm_2 : decode cX2_setForm 2 = .ok (.invokevirtual 26, 3) := by decide +kernel
theorem dX2_setForm_5 : decode cX2_setForm 5 = .ok (.ifCond .eq 22, 3) := by decide +kernel
theorem dX2_setForm_8 : decode cX2_setForm 8 = .ok (.iload_n 2, 1) := by decide +kernel
theorem dX2_setForm_9 : decode cX2_setForm 9 = .ok (.ifCond .lt 18, 3) := by decide +kernel
theorem dX2_setForm_12 : decode cX2_setForm 12 = .ok (.iload_n 2, 1) := by decide +kernel
theorem dX2_setForm_13 : decode cX2_setForm 13 = .ok (.bipush 8, 2) := by decide +kernel
theorem dX2_setForm_15 : decode cX2_setForm 15 = .ok (.if_icmp .ge 12, 3) := by decide +kernel
theorem dX2_setForm_18 : decode cX2_setForm 18 = .ok (.aload_n 0, 1) := by decide +kernel
theorem dX2_setForm_19 : decode cX2_setForm 19 = .ok (.getfield 13, 3) := by decide +kernel
theorem dX2_setForm_22 : decode cX2_setForm 22 = .ok (.iload_n 2, 1) := by decide +kernel
theorem dX2_setForm_23 : decode cX2_setForm 23 = .ok (.aaload, 1) := by decide +kernel
theorem dX2_setForm_24 : decode cX2_setForm 24 = .ok (.iload_n 1, 1) := by decide +kernel
theorem dX2_setForm_25 : decode cX2_setForm 25 = .ok (.iload_n 3, 1) := by decide +kernel
theorem dX2_setForm_26 : decode cX2_setForm 26 = .ok (.iastore, 1) := by decide +kernel
theorem dX2_setForm_27 : decode cX2_setForm 27 = .ok (.return_, 1) := by decide +kernel
set_option maxRecDepth 20000 in
theorem ggX2_setCycle_X2_hasCycle : GoodIn wsX2_setCycle wsX2_hasCycle := goodIn_r _ [6, 7, 8, 9, 10, 11, 12] (by decide +kernel) (by decide +kernel)
set_option maxRecDepth 20000 in
theorem gX2_setCycle_X2_hasCycle : GoodIn wsX2_setCycle (wsV RX2 31 RX2 yX2_hasCycle wsX2_hasCycle) := goodIn_app (goodIn_of _ (by decide +kernel)) ggX2_setCycle_X2_hasCycle
theorem dX2_setCycle_0 : decode cX2_setCycle 0 = .ok (.aload_n 0, 1) := by decide +kernel
theorem dX2_setCycle_1 : decode cX2_setCycle 1 = .ok (.iload_n 1, 1) := by decide +kernel
theorem dX2_setCycle_2 : decode cX2_setCycle 2 = .ok (.invokevirtual 31, 3) := by decide +kernel
theorem dX2_setCycle_5 : decode cX2_setCycle 5 = .ok (.ifCond .eq 21, 3) := by decide +kernel
theorem dX2_setCycle_8 : decode cX2_setCycle 8 = .ok (.iload_n 2, 1) := by decide +kernel
theorem dX2_setCycle_9 : decode cX2_setCycle 9 = .ok (.ifCond .lt 17, 3) := by decide +kernel
theorem dX2_setCycle_12 : decode cX2_setCycle 12 = .ok (.iload_n 2, 1) := by decide +kernel
theorem dX2_setCycle_13 : decode cX2_setCycle 13 = .ok (.iconst 5, 1) := by decide +kernel
theorem dX2_setCycle_14 : decode cX2_setCycle 14 = .ok (.if_icmp .ge 12, 3) := by decide +kernel
theorem dX2_setCycle_17 : decode cX2_setCycle 17 = .ok (.aload_n 0, 1) := by decide +kernel
theorem dX2_setCycle_18 : decode cX2_setCycle 18 = .ok (.getfield 16, 3) := by decide +kernel
theorem dX2_setCycle_21 : decode cX2_setCycle 21 = .ok (.iload_n 2, 1) := by decide +kernel
theorem dX2_setCycle_22 : decode cX2_setCycle 22 = .ok (.aaload, 1) := by decide +kernel
theorem dX2_setCycle_23 : decode cX2_setCycle 23 = .ok (.iload_n 1, 1) := by decide +kernel
theorem dX2_setCycle_24 : decode cX2_setCycle 24 = .ok (.iload_n 3, 1) := by decide +kernel
theorem dX2_setCycle_25 : decode cX2_setCycle 25 = .ok (.iastore, 1) := by decide +kernel
theorem dX2_setCycle_26 : decode cX2_setCycle 26 = .ok (.return_, 1) := by decide +kernel
set_option maxRecDepth 20000 in
theorem ggX2_become_X2_addForms : GoodIn wsX2_become wsX2_addForms := goodIn_r _ [8, 9, 10, 11, 12, 13, 14, 15, 16, 17, 18, 19, 20, 21, 7, 22, 2, 23, 24, 25, 26, 27, 28, 29, 30, 31, 32, 74, 75, 76, 77, 78] (by decide +kernel) (by decide +kernel)
set_option maxRecDepth 20000 in
theorem gX2_become_X2_addForms : GoodIn wsX2_become (wsV RX2 37 RX2 yX2_addForms wsX2_addForms) := goodIn_app (goodIn_of _ (by decide +kernel)) ggX2_become_X2_addForms
set_option maxRecDepth 20000 in
theorem ggX2_become_X2_linkForms : GoodIn wsX2_become wsX2_linkForms := goodIn_r _ [36, 2, 37, 38, 39, 7, 40, 28, 23, 29, 30, 31, 32, 24, 25, 26, 27, 41, 42, 43, 44, 45, 46, 47, 48, 74, 75, 76, 77, 78] (by decide +kernel) (by decide +kernel)
set_option maxRecDepth 20000 in
theorem gX2_become_X2_linkForms : GoodIn wsX2_become (wsV RX2 41 RX2 yX2_linkForms wsX2_linkForms) := goodIn_app (goodIn_of _ (by decide +kernel)) ggX2_become_X2_linkForms
set_option maxRecDepth 20000 in
theorem ggX2_become_X2_addCycles : GoodIn wsX2_become wsX2_addCycles := goodIn_r _ [52, 2, 23, 3, 37, 38, 39, 7, 40, 28, 29, 30, 31, 32, 53, 54, 55, 56, 24, 25, 26, 27, 57, 58, 59, 60, 61, 62, 63, 64, 65, 74, 75, 76, 77, 78] (by decide +kernel) (by decide +kernel)
set_option maxRecDepth 20000 in
theorem gX2_become_X2_addCycles : GoodIn wsX2_become (wsV RX2 44 RX2 yX2_addCycles wsX2_addCycles) := goodIn_app (goodIn_of _ (by decide +kernel)) ggX2_become_X2_addCycles
set_option maxRecDepth 20000 in
theorem ggX2_become_X2_linkCycles : GoodIn wsX2_become wsX2_linkCycles := goodIn_r _ [69, 3, 70, 71, 72, 7, 73, 61, 23, 62, 63, 64, 65, 37, 38, 39, 40, 28, 29, 30, 31, 32, 2, 57, 58, 59, 60, 74, 75, 76, 77, 78] (by decide +kernel) (by decide +kernel)
set_option maxRecDepth 20000 in
theorem gX2_become_X2_linkCycles : GoodIn wsX2_become (wsV RX2 47 RX2 yX2_linkCycles wsX2_linkCycles) := goodIn_app (goodIn_of _ (by decide +kernel)) ggX2_become_X2_linkCycles
theorem dX2_become_0 : decode cX2_become 0 = .ok (.aload_n 0, 1) := by decide +kernel
theorem dX2_become_1 : decode cX2_become 1 = .ok (.iload_n 1, 1) := by decide +kernel
theorem dX2_become_2 : decode cX2_become 2 = .ok (.putfield 34, 3) := by decide +kernel
theorem dX2_become_5 : decode cX2_become 5 = .ok (.aload_n 0, 1) := by decide +kernel
theorem dX2_become_6 : decode cX2_become 6 = .ok (.iconst 0, 1) := by decide +kernel
theorem dX2_become_7 : decode cX2_become 7 = .ok (.putfield 19, 3) := by decide +kernel
theorem dX2_become_10 : decode cX2_become 10 = .ok (.aload_n 0, 1) := by decide +kernel
theorem dX2_become_11 : decode cX2_become 11 = .ok (.iconst 0, 1) := by decide +kernel
theorem dX2_become_12 : decode cX2_become 12 = .ok (.putfield 23, 3) := by decide +kernel
theorem dX2_become_15 : decode cX2_become 15 = .ok (.bipush (-30), 2) := by decide +kernel
theorem dX2_become_17 : decode cX2_become 17 = .ok (.istore_n 2, 1) := by decide +kernel
theorem dX2_become_18 : decode cX2_become 18 = .ok (.iload_n 2, 1) := by decide +kernel
theorem dX2_become_19 : decode cX2_become 19 = .ok (.bipush 30, 2) := by decide +kernel
theorem dX2_become_21 : decode cX2_become 21 = .ok (.if_icmp .gt 36, 3) := by decide +kernel
theorem dX2_become_24 : decode cX2_become 24 = .ok (.aload_n 0, 1) := by decide +kernel
theorem dX2_become_25 : decode cX2_become 25 = .ok (.getfield 34, 3) := by decide +kernel
theorem dX2_become_28 : decode cX2_become 28 = .ok (.iload_n 2, 1) := by decide +kernel
theorem dX2_become_29 : decode cX2_become 29 = .ok (.iload_n 2, 1) := by decide +kernel
theorem dX2_become_30 : decode cX2_become 30 = .ok (.imul, 1) := by decide +kernel
theorem dX2_become_31 : decode cX2_become 31 = .ok (.isub, 1) := by decide +kernel
theorem dX2_become_32 : decode cX2_become 32 = .ok (.istore_n 3, 1) := by decide +kernel
theorem dX2_become_33 : decode cX2_become 33 = .ok (.iload_n 3, 1) := by decide +kernel
theorem dX2_become_34 : decode cX2_become 34 = .ok (.ifCond .le 17, 3) := by decide +kernel
theorem dX2_become_37 : decode cX2_become 37 = .ok (.iload_n 3, 1) := by decide +kernel
theorem dX2_become_38 : decode cX2_become 38 = .ok (.iconst 4, 1) := by decide +kernel
theorem dX2_become_39 : decode cX2_become 39 = .ok (.irem, 1) := by decide +kernel
theorem dX2_become_40 : decode cX2_become 40 = .ok (.ifCond .ne 11, 3) := by decide +kernel
theorem dX2_become_43 : decode cX2_become 43 = .ok (.aload_n 0, 1) := by decide +kernel
theorem dX2_become_44 : decode cX2_become 44 = .ok (.iload_n 2, 1) := by decide +kernel
theorem dX2_become_45 : decode cX2_become 45 = .ok (.iload_n 3, 1) := by decide +kernel
theorem dX2_become_46 : decode cX2_become 46 = .ok (.iconst 4, 1) := by decide +kernel
theorem dX2_become_47 : decode cX2_become 47 = .ok (.idiv, 1) := by decide +kernel
theorem dX2_become_48 : decode cX2_become 48 = .ok (.invokevirtual 37, 3) := by decide +kernel
theorem dX2_become_51 : decode cX2_become 51 = .ok (.iinc 2 1, 3) := by decide +kernel
theorem dX2_become_54 : decode cX2_become 54 = .ok (.goto (-36), 3) := by decide +kernel
theorem dX2_become_57 : decode cX2_become 57 = .ok (.aload_n 0, 1) := by decide +kernel
theorem dX2_become_58 : decode cX2_become 58 = .ok (.invokevirtual 41, 3) := by decide +kernel
theorem dX2_become_61 : decode cX2_become 61 = .ok (.aload_n 0, 1) := by decide +kernel
theorem dX2_become_62 : decode cX2_become 62 = .ok (.invokevirtual 44, 3) := by decide +kernel
theorem dX2_become_65 : decode cX2_become 65 = .ok (.aload_n 0, 1) := by decide +kernel
theorem dX2_become_66 : decode cX2_become 66 = .ok (.invokevirtual 47, 3) := by decide +kernel
theorem dX2_become_69 : decode cX2_become 69 = .ok (.return_, 1) := by decide +kernel
set_option maxRecDepth 20000 in
theorem ggX2_addForms_X4_commonDivisor : GoodIn wsX2_addForms wsX4_commonDivisor := goodIn_r _ [3, 4, 5, 6, 7, 8, 9, 10] (by decide +kernel) (by decide +kernel)
set_option maxRecDepth 20000 in
theorem gX2_addForms_X4_commonDivisor_n50 : GoodIn wsX2_addForms (wsX4_commonDivisor) := ggX2_addForms_X4_commonDivisor
