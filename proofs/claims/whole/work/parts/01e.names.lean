set_option maxRecDepth 20000 in
theorem gX4_step_X2_letterAt : GoodIn wsX4_step (wsV RX4 169 RX2 yX2_letterAt wsX2_letterAt) := goodIn_app (goodIn_of _ (by decide +kernel)) ggX4_step_X2_letterAt
theorem dX4_step_0 : decode cX4_step 0 = .ok (.aload_n 0, 1) := by decide +kernel
theorem dX4_step_1 : decode cX4_step 1 = .ok (.getfield 25, 3) := by decide +kernel
theorem dX4_step_4 : decode cX4_step 4 = .ok (.iload_n 1, 1) := by decide +kernel
theorem dX4_step_5 : decode cX4_step 5 = .ok (.invokevirtual 163, 3) := by decide +kernel
theorem dX4_step_8 : decode cX4_step 8 = .ok (.ifCond .eq 20, 3) := by decide +kernel
theorem dX4_step_11 : decode cX4_step 11 = .ok (.iload_n 2, 1) := by decide +kernel
theorem dX4_step_12 : decode cX4_step 12 = .ok (.ifCond .lt 16, 3) := by decide +kernel
theorem dX4_step_15 : decode cX4_step 15 = .ok (.iload_n 2, 1) := by decide +kernel
theorem dX4_step_16 : decode cX4_step 16 = .ok (.aload_n 0, 1) := by decide +kernel
theorem dX4_step_17 : decode cX4_step 17 = .ok (.getfield 25, 3) := by decide +kernel
theorem dX4_step_20 : decode cX4_step 20 = .ok (.iload_n 1, 1) := by decide +kernel
theorem dX4_step_21 : decode cX4_step 21 = .ok (.iconst 1, 1) := by decide +kernel
theorem dX4_step_22 : decode cX4_step 22 = .ok (.invokevirtual 166, 3) := by decide +kernel
theorem dX4_step_25 : decode cX4_step 25 = .ok (.if_icmp .lt 6, 3) := by decide +kernel
theorem dX4_step_28 : decode cX4_step 28 = .ok (.ldc 74, 2) := by decide +kernel
theorem dX4_step_30 : decode cX4_step 30 = .ok (.ireturn, 1) := by decide +kernel
theorem dX4_step_31 : decode cX4_step 31 = .ok (.aload_n 0, 1) := by decide +kernel
theorem dX4_step_32 : decode cX4_step 32 = .ok (.getfield 25, 3) := by decide +kernel
theorem dX4_step_35 : decode cX4_step 35 = .ok (.iload_n 1, 1) := by decide +kernel
theorem dX4_step_36 : decode cX4_step 36 = .ok (.iload_n 2, 1) := by decide +kernel
theorem dX4_step_37 : decode cX4_step 37 = .ok (.invokevirtual 169, 3) := by decide +kernel
theorem dX4_step_40 : decode cX4_step 40 = .ok (.ireturn, 1) := by decide +kernel
set_option maxRecDepth 20000 in
theorem ggX4_trace_X2_hasCycle : GoodIn wsX4_trace wsX2_hasCycle := goodIn_r _ [8, 9, 41, 42, 43, 44, 45] (by decide +kernel) (by decide +kernel)
set_option maxRecDepth 20000 in
theorem gX4_trace_X2_hasCycle : GoodIn wsX4_trace (wsV RX4 163 RX2 yX2_hasCycle wsX2_hasCycle) := goodIn_app (goodIn_of _ (by decide +kernel)) ggX4_trace_X2_hasCycle
set_option maxRecDepth 20000 in
theorem ggX4_trace_X2_traceRemainder : GoodIn wsX4_trace wsX2_traceRemainder := goodIn_r _ [13, 14, 15, 16, 17, 18, 19, 20, 7, 21, 22, 23, 24, 5, 6, 8, 9, 25, 26, 27, 28, 29, 30, 31, 32, 33, 34, 41, 42, 43, 44, 45] (by decide +kernel) (by decide +kernel)
set_option maxRecDepth 20000 in
theorem gX4_trace_X2_traceRemainder : GoodIn wsX4_trace (wsV RX4 172 RX2 yX2_traceRemainder wsX2_traceRemainder) := goodIn_app (goodIn_of _ (by decide +kernel)) ggX4_trace_X2_traceRemainder
theorem dX4_trace_0 : decode cX4_trace 0 = .ok (.aload_n 0, 1) := by decide +kernel
theorem dX4_trace_1 : decode cX4_trace 1 = .ok (.getfield 25, 3) := by decide +kernel
theorem dX4_trace_4 : decode cX4_trace 4 = .ok (.iload_n 1, 1) := by decide +kernel
theorem dX4_trace_5 : decode cX4_trace 5 = .ok (.invokevirtual 163, 3) := by decide +kernel
theorem dX4_trace_8 : decode cX4_trace 8 = .ok (.ifCond .ne 6, 3) := by decide +kernel
theorem dX4_trace_11 : decode cX4_trace 11 = .ok (.ldc 74, 2) := by decide +kernel
theorem dX4_trace_13 : decode cX4_trace 13 = .ok (.ireturn, 1) := by decide +kernel
theorem dX4_trace_14 : decode cX4_trace 14 = .ok (.iload_n 2, 1) := by decide +kernel
theorem dX4_trace_15 : decode cX4_trace 15 = .ok (.iconst 2, 1) := by decide +kernel
theorem dX4_trace_16 : decode cX4_trace 16 = .ok (.if_icmp .lt 22, 3) := by decide +kernel
theorem dX4_trace_19 : decode cX4_trace 19 = .ok (.iload_n 2, 1) := by decide +kernel
theorem dX4_trace_20 : decode cX4_trace 20 = .ok (.sipush 1000, 3) := by decide +kernel
theorem dX4_trace_23 : decode cX4_trace 23 = .ok (.if_icmp .gt 15, 3) := by decide +kernel
theorem dX4_trace_26 : decode cX4_trace 26 = .ok (.aload_n 0, 1) := by decide +kernel
theorem dX4_trace_27 : decode cX4_trace 27 = .ok (.getfield 25, 3) := by decide +kernel
theorem dX4_trace_30 : decode cX4_trace 30 = .ok (.iload_n 1, 1) := by decide +kernel
theorem dX4_trace_31 : decode cX4_trace 31 = .ok (.iload_n 2, 1) := by decide +kernel
theorem dX4_trace_32 : decode cX4_trace 32 = .ok (.invokevirtual 172, 3) := by decide +kernel
theorem dX4_trace_35 : decode cX4_trace 35 = .ok (.goto 5, 3) := by decide +kernel
theorem dX4_trace_38 : decode cX4_trace 38 = .ok (.ldc 36, 2) := by decide +kernel
theorem dX4_trace_40 : decode cX4_trace 40 = .ok (.ireturn, 1) := by decide +kernel
set_option maxRecDepth 20000 in
theorem ggX4_flow_X2_exists : GoodIn wsX4_flow wsX2_exists := goodIn_r _ [9, 10, 57, 58, 59, 60, 61] (by decide +kernel) (by decide +kernel)
set_option maxRecDepth 20000 in
theorem gX4_flow_X2_exists : GoodIn wsX4_flow (wsV RX4 175 RX2 yX2_exists wsX2_exists) := goodIn_app (goodIn_of _ (by decide +kernel)) ggX4_flow_X2_exists
set_option maxRecDepth 20000 in
theorem ggX4_flow_X4_isFlowNumber : GoodIn wsX4_flow wsX4_isFlowNumber := goodIn_r _ [14] (by decide +kernel) (by decide +kernel)
set_option maxRecDepth 20000 in
theorem gX4_flow_X4_isFlowNumber : GoodIn wsX4_flow (va_wsS RX4 178 yX4_isFlowNumber wsX4_isFlowNumber) := goodIn_app (goodIn_of _ (by decide +kernel)) ggX4_flow_X4_isFlowNumber
set_option maxRecDepth 20000 in
theorem ggX4_flow_X4_discriminantOf : GoodIn wsX4_flow wsX4_discriminantOf := goodIn_r _ [17] (by decide +kernel) (by decide +kernel)
set_option maxRecDepth 20000 in
theorem gX4_flow_X4_discriminantOf : GoodIn wsX4_flow (va_wsS RX4 181 yX4_discriminantOf wsX4_discriminantOf) := goodIn_app (goodIn_of _ (by decide +kernel)) ggX4_flow_X4_discriminantOf
set_option maxRecDepth 20000 in
theorem ggX4_flow_X4_commonDivisor : GoodIn wsX4_flow wsX4_commonDivisor := goodIn_r _ [20, 21, 22, 23, 24, 25, 26, 27] (by decide +kernel) (by decide +kernel)
set_option maxRecDepth 20000 in
theorem gX4_flow_X4_commonDivisor : GoodIn wsX4_flow (va_wsS RX4 145 yX4_commonDivisor wsX4_commonDivisor) := goodIn_app (goodIn_of _ (by decide +kernel)) ggX4_flow_X4_commonDivisor
set_option maxRecDepth 20000 in
theorem ggX4_flow_X2_follow : GoodIn wsX4_flow wsX2_follow := goodIn_r _ [31, 32, 22, 23, 24, 33, 34, 35, 8, 36, 10, 37, 38, 39, 40, 41, 42, 43, 44, 45, 46, 47, 48, 49, 50, 57, 58, 59, 60, 61] (by decide +kernel) (by decide +kernel)
set_option maxRecDepth 20000 in
theorem gX4_flow_X2_follow : GoodIn wsX4_flow (wsV RX4 188 RX2 yX2_follow wsX2_follow) := goodIn_app (goodIn_of _ (by decide +kernel)) ggX4_flow_X2_follow
theorem dX4_flow_0 : decode cX4_flow 0 = .ok (.aload_n 0, 1) := by decide +kernel
theorem dX4_flow_1 : decode cX4_flow 1 = .ok (.getfield 25, 3) := by decide +kernel
theorem dX4_flow_4 : decode cX4_flow 4 = .ok (.invokevirtual 175, 3) := by decide +kernel
theorem dX4_flow_7 : decode cX4_flow 7 = .ok (.ifCond .ne 6, 3) := by decide +kernel
theorem dX4_flow_10 : decode cX4_flow 10 = .ok (.ldc 56, 2) := by decide +kernel
theorem dX4_flow_12 : decode cX4_flow 12 = .ok (.ireturn, 1) := by decide +kernel
theorem dX4_flow_13 : decode cX4_flow 13 = .ok (.iload_n 1, 1) := by decide +kernel
theorem dX4_flow_14 : decode cX4_flow 14 = .ok (.invokestatic 178, 3) := by decide +kernel
theorem dX4_flow_17 : decode cX4_flow 17 = .ok (.ifCond .eq 17, 3) := by decide +kernel
theorem dX4_flow_20 : decode cX4_flow 20 = .ok (.iload_n 2, 1) := by decide +kernel
theorem dX4_flow_21 : decode cX4_flow 21 = .ok (.invokestatic 178, 3) := by decide +kernel
theorem dX4_flow_24 : decode cX4_flow 24 = .ok (.ifCond .eq 10, 3) := by decide +kernel
theorem dX4_flow_27 : decode cX4_flow 27 = .ok (.iload_n 3, 1) := by decide +kernel
theorem dX4_flow_28 : decode cX4_flow 28 = .ok (.invokestatic 178, 3) := by decide +kernel
theorem dX4_flow_31 : decode cX4_flow 31 = .ok (.ifCond .ne 6, 3) := by decide +kernel
theorem dX4_flow_34 : decode cX4_flow 34 = .ok (.ldc 36, 2) := by decide +kernel
theorem dX4_flow_36 : decode cX4_flow 36 = .ok (.ireturn, 1) := by decide +kernel
theorem dX4_flow_37 : decode cX4_flow 37 = .ok (.iload_n 1, 1) := by decide +kernel
theorem dX4_flow_38 : decode cX4_flow 38 = .ok (.iload_n 2, 1) := by decide +kernel
theorem dX4_flow_39 : decode cX4_flow 39 = .ok (.iload_n 3, 1) := by decide +kernel
theorem dX4_flow_40 : decode cX4_flow 40 = .ok (.invokestatic 181, 3) := by decide +kernel
theorem dX4_flow_43 : decode cX4_flow 43 = .ok (.aload_n 0, 1) := by decide +kernel
theorem dX4_flow_44 : decode cX4_flow 44 = .ok (.getfield 25, 3) := by decide +kernel
theorem dX4_flow_47 : decode cX4_flow 47 = .ok (.getfield 185, 3) := by decide +kernel
theorem dX4_flow_50 : decode cX4_flow 50 = .ok (.if_icmp .ne 16, 3) := by decide +kernel
theorem dX4_flow_53 : decode cX4_flow 53 = .ok (.iload_n 1, 1) := by decide +kernel
theorem dX4_flow_54 : decode cX4_flow 54 = .ok (.iload_n 2, 1) := by decide +kernel
theorem dX4_flow_55 : decode cX4_flow 55 = .ok (.invokestatic 145, 3) := by decide +kernel
theorem dX4_flow_58 : decode cX4_flow 58 = .ok (.iload_n 3, 1) := by decide +kernel
theorem dX4_flow_59 : decode cX4_flow 59 = .ok (.invokestatic 145, 3) := by decide +kernel
theorem dX4_flow_62 : decode cX4_flow 62 = .ok (.iconst 1, 1) := by decide +kernel
theorem dX4_flow_63 : decode cX4_flow 63 = .ok (.if_icmp .le 6, 3) := by decide +kernel
theorem dX4_flow_66 : decode cX4_flow 66 = .ok (.ldc 36, 2) := by decide +kernel
theorem dX4_flow_68 : decode cX4_flow 68 = .ok (.ireturn, 1) := by decide +kernel
theorem dX4_flow_69 : decode cX4_flow 69 = .ok (.aload_n 0, 1) := by decide +kernel
theorem dX4_flow_70 : decode cX4_flow 70 = .ok (.getfield 25, 3) := by decide +kernel
theorem dX4_flow_73 : decode cX4_flow 73 = .ok (.iload_n 1, 1) := by decide +kernel
theorem dX4_flow_74 : decode cX4_flow 74 = .ok (.iload_n 2, 1) := by decide +kernel
theorem dX4_flow_75 : decode cX4_flow 75 = .ok (.iload_n 3, 1) := by decide +kernel
theorem dX4_flow_76 : decode cX4_flow 76 = .ok (.iload 4, 2) := by decide +kernel
theorem dX4_flow_78 : decode cX4_flow 78 = .ok (.invokevirtual 188, 3) := by decide +kernel
theorem dX4_flow_81 : decode cX4_flow 81 = .ok (.ireturn, 1) := by decide +kernel
set_option maxRecDepth 20000 in
theorem ggX4_lay_X2_hasCycle : GoodIn wsX4_lay wsX2_hasCycle := goodIn_r _ [7, 8, 70, 71, 72, 73, 74] (by decide +kernel) (by decide +kernel)
set_option maxRecDepth 20000 in
theorem gX4_lay_X2_hasCycle : GoodIn wsX4_lay (wsV RX4 163 RX2 yX2_hasCycle wsX2_hasCycle) := goodIn_app (goodIn_of _ (by decide +kernel)) ggX4_lay_X2_hasCycle
set_option maxRecDepth 20000 in
theorem ggX4_lay_X2_wordBits : GoodIn wsX4_lay wsX2_wordBits := goodIn_r _ [12, 13, 14, 15, 6, 16, 17, 18, 19, 4, 5, 7, 8, 20, 21, 22, 23, 24, 25, 26, 27, 28, 29, 70, 71, 72, 73, 74] (by decide +kernel) (by decide +kernel)
set_option maxRecDepth 20000 in
theorem gX4_lay_X2_wordBits : GoodIn wsX4_lay (wsV RX4 192 RX2 yX2_wordBits wsX2_wordBits) := goodIn_app (goodIn_of _ (by decide +kernel)) ggX4_lay_X2_wordBits
set_option maxRecDepth 20000 in
theorem ggX4_lay_X2_ofCycle : GoodIn wsX4_lay wsX2_ofCycle := goodIn_r _ [16, 17, 18, 19, 4, 5, 6, 7, 8, 70, 71, 72, 73, 74] (by decide +kernel) (by decide +kernel)
set_option maxRecDepth 20000 in
theorem gX4_lay_X2_ofCycle : GoodIn wsX4_lay (wsV RX4 166 RX2 yX2_ofCycle wsX2_ofCycle) := goodIn_app (goodIn_of _ (by decide +kernel)) ggX4_lay_X2_ofCycle
set_option maxRecDepth 20000 in
theorem ggX4_lay_X4_addRoad : GoodIn wsX4_lay wsX4_addRoad := goodIn_r _ [35, 36, 37, 38, 39, 40, 41, 42, 43, 44, 45, 46, 47, 48, 49, 50, 51, 52, 53, 54, 55, 56, 57, 58, 59, 60, 61, 62, 63, 64, 65, 66, 67, 68, 69, 75, 76, 77, 78, 79, 80, 81] (by decide +kernel) (by decide +kernel)
set_option maxRecDepth 20000 in
theorem gX4_lay_X4_addRoad : GoodIn wsX4_lay (wsV RX4 63 RX4 yX4_addRoad wsX4_addRoad) := goodIn_app (goodIn_of _ (by decide +kernel)) ggX4_lay_X4_addRoad
theorem dX4_lay_0 : decode cX4_lay 0 = .ok (.aload_n 0, 1) := by decide +kernel
theorem dX4_lay_1 : decode cX4_lay 1 = .ok (.getfield 25, 3) := by decide +kernel
theorem dX4_lay_4 : decode cX4_lay 4 = .ok (.iload_n 1, 1) := by decide +kernel
theorem dX4_lay_5 : decode cX4_lay 5 = .ok (.invokevirtual 163, 3) := by decide +kernel
theorem dX4_lay_8 : decode cX4_lay 8 = .ok (.ifCond .ne 6, 3) := by decide +kernel
theorem dX4_lay_11 : decode cX4_lay 11 = .ok (.ldc 74, 2) := by decide +kernel
theorem dX4_lay_13 : decode cX4_lay 13 = .ok (.ireturn, 1) := by decide +kernel
theorem dX4_lay_14 : decode cX4_lay 14 = .ok (.aload_n 0, 1) := by decide +kernel
theorem dX4_lay_15 : decode cX4_lay 15 = .ok (.aload_n 0, 1) := by decide +kernel
theorem dX4_lay_16 : decode cX4_lay 16 = .ok (.getfield 25, 3) := by decide +kernel
theorem dX4_lay_19 : decode cX4_lay 19 = .ok (.iload_n 1, 1) := by decide +kernel
theorem dX4_lay_20 : decode cX4_lay 20 = .ok (.invokevirtual 192, 3) := by decide +kernel
theorem dX4_lay_23 : decode cX4_lay 23 = .ok (.aload_n 0, 1) := by decide +kernel
theorem dX4_lay_24 : decode cX4_lay 24 = .ok (.getfield 25, 3) := by decide +kernel
theorem dX4_lay_27 : decode cX4_lay 27 = .ok (.iload_n 1, 1) := by decide +kernel
theorem dX4_lay_28 : decode cX4_lay 28 = .ok (.iconst 1, 1) := by decide +kernel
theorem dX4_lay_29 : decode cX4_lay 29 = .ok (.invokevirtual 166, 3) := by decide +kernel
theorem dX4_lay_32 : decode cX4_lay 32 = .ok (.invokevirtual 63, 3) := by decide +kernel
theorem dX4_lay_35 : decode cX4_lay 35 = .ok (.ireturn, 1) := by decide +kernel
set_option maxRecDepth 20000 in
theorem ggX4_where_X4_roadAt : GoodIn wsX4_where wsX4_roadAt := goodIn_r _ [8, 9, 10, 61, 62, 63, 64, 65, 66] (by decide +kernel) (by decide +kernel)
set_option maxRecDepth 20000 in
theorem gX4_where_X4_roadAt : GoodIn wsX4_where (wsV RX4 70 RX4 yX4_roadAt wsX4_roadAt) := goodIn_app (goodIn_of _ (by decide +kernel)) ggX4_where_X4_roadAt
set_option maxRecDepth 20000 in
theorem ggX4_where_X3_isClosed : GoodIn wsX4_where wsX3_isClosed := goodIn_r _ [15, 16, 17, 67, 68, 69, 70, 71, 72, 73] (by decide +kernel) (by decide +kernel)
set_option maxRecDepth 20000 in
theorem gX4_where_X3_isClosed : GoodIn wsX4_where (wsV RX4 93 RX3 yX3_isClosed wsX3_isClosed) := goodIn_app (goodIn_of _ (by decide +kernel)) ggX4_where_X3_isClosed
set_option maxRecDepth 20000 in
theorem ggX4_where_X2_exists : GoodIn wsX4_where wsX2_exists := goodIn_r _ [22, 23, 74, 75, 76, 77, 78] (by decide +kernel) (by decide +kernel)
set_option maxRecDepth 20000 in
theorem gX4_where_X2_exists : GoodIn wsX4_where (wsV RX4 175 RX2 yX2_exists wsX2_exists) := goodIn_app (goodIn_of _ (by decide +kernel)) ggX4_where_X2_exists
set_option maxRecDepth 20000 in
theorem ggX4_where_X3_formNumber : GoodIn wsX4_where wsX3_formNumber := goodIn_r _ [27, 28, 29, 30, 31, 32, 7, 33, 34, 35, 36, 37, 38, 39, 40, 41, 42, 67, 68, 69, 70, 71, 72, 73] (by decide +kernel) (by decide +kernel)
set_option maxRecDepth 20000 in
theorem gX4_where_X3_formNumber : GoodIn wsX4_where (wsV RX4 124 RX3 yX3_formNumber wsX3_formNumber) := goodIn_app (goodIn_of _ (by decide +kernel)) ggX4_where_X3_formNumber
set_option maxRecDepth 20000 in
theorem ggX4_where_X2_find : GoodIn wsX4_where wsX2_find := goodIn_r _ [46, 23, 47, 48, 49, 50, 21, 51, 52, 53, 54, 55, 56, 57, 58, 59, 60, 74, 75, 76, 77, 78] (by decide +kernel) (by decide +kernel)
set_option maxRecDepth 20000 in
theorem gX4_where_X2_find : GoodIn wsX4_where (wsV RX4 195 RX2 yX2_find wsX2_find) := goodIn_app (goodIn_of _ (by decide +kernel)) ggX4_where_X2_find
theorem dX4_where_0 : decode cX4_where 0 = .ok (.aload_n 0, 1) := by decide +kernel
theorem dX4_where_1 : decode cX4_where 1 = .ok (.iload_n 1, 1) := by decide +kernel
theorem dX4_where_2 : decode cX4_where 2 = .ok (.invokevirtual 70, 3) := by decide +kernel
theorem dX4_where_5 : decode cX4_where 5 = .ok (.astore_n 2, 1) := by decide +kernel
theorem dX4_where_6 : decode cX4_where 6 = .ok (.aload_n 2, 1) := by decide +kernel
theorem dX4_where_7 : decode cX4_where 7 = .ok (.ifnonnull 6, 3) := by decide +kernel
theorem dX4_where_10 : decode cX4_where 10 = .ok (.ldc 74, 2) := by decide +kernel
theorem dX4_where_12 : decode cX4_where 12 = .ok (.ireturn, 1) := by decide +kernel
theorem dX4_where_13 : decode cX4_where 13 = .ok (.aload_n 2, 1) := by decide +kernel
theorem dX4_where_14 : decode cX4_where 14 = .ok (.invokevirtual 93, 3) := by decide +kernel
theorem dX4_where_17 : decode cX4_where 17 = .ok (.ifCond .eq 13, 3) := by decide +kernel
theorem dX4_where_20 : decode cX4_where 20 = .ok (.aload_n 0, 1) := by decide +kernel
theorem dX4_where_21 : decode cX4_where 21 = .ok (.getfield 25, 3) := by decide +kernel
theorem dX4_where_24 : decode cX4_where 24 = .ok (.invokevirtual 175, 3) := by decide +kernel
theorem dX4_where_27 : decode cX4_where 27 = .ok (.ifCond .ne 6, 3) := by decide +kernel
theorem dX4_where_30 : decode cX4_where 30 = .ok (.ldc 56, 2) := by decide +kernel
theorem dX4_where_32 : decode cX4_where 32 = .ok (.ireturn, 1) := by decide +kernel
theorem dX4_where_33 : decode cX4_where 33 = .ok (.aload_n 0, 1) := by decide +kernel
theorem dX4_where_34 : decode cX4_where 34 = .ok (.getfield 25, 3) := by decide +kernel
theorem dX4_where_37 : decode cX4_where 37 = .ok (.aload_n 2, 1) := by decide +kernel
theorem dX4_where_38 : decode cX4_where 38 = .ok (.iconst 0, 1) := by decide +kernel
theorem dX4_where_39 : decode cX4_where 39 = .ok (.invokevirtual 124, 3) := by decide +kernel
theorem dX4_where_42 : decode cX4_where 42 = .ok (.aload_n 2, 1) := by decide +kernel
theorem dX4_where_43 : decode cX4_where 43 = .ok (.iconst 1, 1) := by decide +kernel
theorem dX4_where_44 : decode cX4_where 44 = .ok (.invokevirtual 124, 3) := by decide +kernel
theorem dX4_where_47 : decode cX4_where 47 = .ok (.aload_n 2, 1) := by decide +kernel
theorem dX4_where_48 : decode cX4_where 48 = .ok (.iconst 2, 1) := by decide +kernel
theorem dX4_where_49 : decode cX4_where 49 = .ok (.invokevirtual 124, 3) := by decide +kernel
theorem dX4_where_52 : decode cX4_where 52 = .ok (.invokevirtual 195, 3) := by decide +kernel
theorem dX4_where_55 : decode cX4_where 55 = .ok (.ireturn, 1) := by decide +kernel
set_option maxRecDepth 20000 in
theorem ggX4_drawn_X0_run : GoodIn wsX4_drawn wsX0_run := goodIn_r _ [11, 12, 13, 14, 15, 16, 17, 18, 19, 20, 21, 22, 23, 24, 25, 26, 27, 28, 29, 30, 31, 32, 33, 34, 35, 36, 37, 10, 38, 39, 40, 41, 42, 43, 44, 45, 46, 47, 48, 49, 50, 51, 52, 53, 54, 55, 56, 57, 58, 59, 60, 61, 62, 63, 70, 71, 72, 73, 74, 75, 76, 77, 78, 79, 80, 81, 82] (by decide +kernel) (by decide +kernel)
set_option maxRecDepth 20000 in
theorem gX4_drawn_X0_run : GoodIn wsX4_drawn (wsV RX4 198 RX0 yX0_run wsX0_run) := goodIn_app (goodIn_of _ (by decide +kernel)) ggX4_drawn_X0_run
theorem dX4_drawn_0 : decode cX4_drawn 0 = .ok (.iload_n 1, 1) := by decide +kernel
theorem dX4_drawn_1 : decode cX4_drawn 1 = .ok (.iconst 1, 1) := by decide +kernel
theorem dX4_drawn_2 : decode cX4_drawn 2 = .ok (.if_icmp .lt 22, 3) := by decide +kernel
theorem dX4_drawn_5 : decode cX4_drawn 5 = .ok (.iload_n 1, 1) := by decide +kernel
theorem dX4_drawn_6 : decode cX4_drawn 6 = .ok (.bipush 40, 2) := by decide +kernel
theorem dX4_drawn_8 : decode cX4_drawn 8 = .ok (.if_icmp .gt 16, 3) := by decide +kernel
theorem dX4_drawn_11 : decode cX4_drawn 11 = .ok (.iload_n 2, 1) := by decide +kernel
theorem dX4_drawn_12 : decode cX4_drawn 12 = .ok (.ifCond .lt 12, 3) := by decide +kernel
theorem dX4_drawn_15 : decode cX4_drawn 15 = .ok (.iload_n 3, 1) := by decide +kernel
theorem dX4_drawn_16 : decode cX4_drawn 16 = .ok (.ifCond .lt 8, 3) := by decide +kernel
theorem dX4_drawn_19 : decode cX4_drawn 19 = .ok (.iload_n 3, 1) := by decide +kernel
theorem dX4_drawn_20 : decode cX4_drawn 20 = .ok (.iconst 4, 1) := by decide +kernel
theorem dX4_drawn_21 : decode cX4_drawn 21 = .ok (.if_icmp .lt 6, 3) := by decide +kernel
theorem dX4_drawn_24 : decode cX4_drawn 24 = .ok (.ldc 36, 2) := by decide +kernel
theorem dX4_drawn_26 : decode cX4_drawn 26 = .ok (.ireturn, 1) := by decide +kernel
theorem dX4_drawn_27 : decode cX4_drawn 27 = .ok (.aload_n 0, 1) := by decide +kernel
theorem dX4_drawn_28 : decode cX4_drawn 28 = .ok (.getfield 32, 3) := by decide +kernel
theorem dX4_drawn_31 : decode cX4_drawn 31 = .ok (.iload_n 1, 1) := by decide +kernel
theorem dX4_drawn_32 : decode cX4_drawn 32 = .ok (.iload_n 2, 1) := by decide +kernel
theorem dX4_drawn_33 : decode cX4_drawn 33 = .ok (.invokevirtual 198, 3) := by decide +kernel
theorem dX4_drawn_36 : decode cX4_drawn 36 = .ok (.iload_n 3, 1) := by decide +kernel
theorem dX4_drawn_37 : decode cX4_drawn 37 = .ok (.tableswitch 51 0 2 #[27, 35, 43], 27) := by decide +kernel
theorem dX4_drawn_64 : decode cX4_drawn 64 = .ok (.aload_n 0, 1) := by decide +kernel
theorem dX4_drawn_65 : decode cX4_drawn 65 = .ok (.getfield 32, 3) := by decide +kernel
theorem dX4_drawn_68 : decode cX4_drawn 68 = .ok (.getfield 201, 3) := by decide +kernel
theorem dX4_drawn_71 : decode cX4_drawn 71 = .ok (.ireturn, 1) := by decide +kernel
theorem dX4_drawn_72 : decode cX4_drawn 72 = .ok (.aload_n 0, 1) := by decide +kernel
theorem dX4_drawn_73 : decode cX4_drawn 73 = .ok (.getfield 32, 3) := by decide +kernel
theorem dX4_drawn_76 : decode cX4_drawn 76 = .ok (.getfield 204, 3) := by decide +kernel
theorem dX4_drawn_79 : decode cX4_drawn 79 = .ok (.ireturn, 1) := by decide +kernel
theorem dX4_drawn_80 : decode cX4_drawn 80 = .ok (.aload_n 0, 1) := by decide +kernel
theorem dX4_drawn_81 : decode cX4_drawn 81 = .ok (.getfield 32, 3) := by decide +kernel
theorem dX4_drawn_84 : decode cX4_drawn 84 = .ok (.getfield 207, 3) := by decide +kernel
theorem dX4_drawn_87 : decode cX4_drawn 87 = .ok (.ireturn, 1) := by decide +kernel
theorem dX4_drawn_88 : decode cX4_drawn 88 = .ok (.aload_n 0, 1) := by decide +kernel
theorem dX4_drawn_89 : decode cX4_drawn 89 = .ok (.getfield 32, 3) := by decide +kernel
theorem dX4_drawn_92 : decode cX4_drawn 92 = .ok (.getfield 209, 3) := by decide +kernel
theorem dX4_drawn_95 : decode cX4_drawn 95 = .ok (.l2i, 1) := by decide +kernel
theorem dX4_drawn_96 : decode cX4_drawn 96 = .ok (.ireturn, 1) := by decide +kernel
set_option maxRecDepth 20000 in
theorem ggX4_count_X4_closedRoads : GoodIn wsX4_count wsX4_closedRoads := goodIn_r _ [13, 1, 14, 15, 16, 12, 17, 18, 19, 20, 21, 22, 23, 24, 25, 26, 27, 28, 29, 56, 57, 58, 59, 60, 61, 73, 74, 75, 76, 77, 78, 79] (by decide +kernel) (by decide +kernel)
set_option maxRecDepth 20000 in
theorem gX4_count_X4_closedRoads : GoodIn wsX4_count (wsV RX4 213 RX4 yX4_closedRoads wsX4_closedRoads) := goodIn_app (goodIn_of _ (by decide +kernel)) ggX4_count_X4_closedRoads
set_option maxRecDepth 20000 in
theorem ggX4_count_X4_roadClasses : GoodIn wsX4_count wsX4_roadClasses := goodIn_r _ [33, 1, 34, 35, 36, 12, 37, 38, 39, 40, 41, 42, 43, 44, 45, 18, 19, 20, 21, 22, 46, 47, 48, 26, 49, 50, 51, 52, 53, 54, 55, 28, 29, 56, 57, 58, 59, 60, 61, 73, 74, 75, 76, 77, 78, 79] (by decide +kernel) (by decide +kernel)
set_option maxRecDepth 20000 in
theorem gX4_count_X4_roadClasses : GoodIn wsX4_count (wsV RX4 216 RX4 yX4_roadClasses wsX4_roadClasses) := goodIn_app (goodIn_of _ (by decide +kernel)) ggX4_count_X4_roadClasses
theorem dX4_count_0 : decode cX4_count 0 = .ok (.iload_n 1, 1) := by decide +kernel
theorem dX4_count_1 : decode cX4_count 1 = .ok (.tableswitch 87 0 6 #[43, 48, 53, 58, 66, 71, 79], 43) := by decide +kernel
theorem dX4_count_44 : decode cX4_count 44 = .ok (.aload_n 0, 1) := by decide +kernel
theorem dX4_count_45 : decode cX4_count 45 = .ok (.getfield 148, 3) := by decide +kernel
theorem dX4_count_48 : decode cX4_count 48 = .ok (.ireturn, 1) := by decide +kernel
theorem dX4_count_49 : decode cX4_count 49 = .ok (.aload_n 0, 1) := by decide +kernel
theorem dX4_count_50 : decode cX4_count 50 = .ok (.invokevirtual 213, 3) := by decide +kernel
theorem dX4_count_53 : decode cX4_count 53 = .ok (.ireturn, 1) := by decide +kernel
theorem dX4_count_54 : decode cX4_count 54 = .ok (.aload_n 0, 1) := by decide +kernel
theorem dX4_count_55 : decode cX4_count 55 = .ok (.invokevirtual 216, 3) := by decide +kernel
theorem dX4_count_58 : decode cX4_count 58 = .ok (.ireturn, 1) := by decide +kernel
theorem dX4_count_59 : decode cX4_count 59 = .ok (.aload_n 0, 1) := by decide +kernel
theorem dX4_count_60 : decode cX4_count 60 = .ok (.getfield 10, 3) := by decide +kernel
theorem dX4_count_63 : decode cX4_count 63 = .ok (.getfield 37, 3) := by decide +kernel
theorem dX4_count_66 : decode cX4_count 66 = .ok (.ireturn, 1) := by decide +kernel
theorem dX4_count_67 : decode cX4_count 67 = .ok (.aload_n 0, 1) := by decide +kernel
theorem dX4_count_68 : decode cX4_count 68 = .ok (.getfield 67, 3) := by decide +kernel
theorem dX4_count_71 : decode cX4_count 71 = .ok (.ireturn, 1) := by decide +kernel
theorem dX4_count_72 : decode cX4_count 72 = .ok (.aload_n 0, 1) := by decide +kernel
theorem dX4_count_73 : decode cX4_count 73 = .ok (.getfield 25, 3) := by decide +kernel
theorem dX4_count_76 : decode cX4_count 76 = .ok (.getfield 156, 3) := by decide +kernel
theorem dX4_count_79 : decode cX4_count 79 = .ok (.ireturn, 1) := by decide +kernel
theorem dX4_count_80 : decode cX4_count 80 = .ok (.aload_n 0, 1) := by decide +kernel
theorem dX4_count_81 : decode cX4_count 81 = .ok (.getfield 25, 3) := by decide +kernel
theorem dX4_count_84 : decode cX4_count 84 = .ok (.getfield 219, 3) := by decide +kernel
theorem dX4_count_87 : decode cX4_count 87 = .ok (.ireturn, 1) := by decide +kernel
theorem dX4_count_88 : decode cX4_count 88 = .ok (.ldc 36, 2) := by decide +kernel
theorem dX4_count_90 : decode cX4_count 90 = .ok (.ireturn, 1) := by decide +kernel
set_option maxRecDepth 20000 in
theorem ggX4_digest_X4_hashRoads : GoodIn wsX4_digest wsX4_hashRoads := goodIn_r _ [7, 8, 9, 10, 11, 6, 12, 13, 14, 15, 16, 17, 18, 19, 20, 21, 22, 23, 24, 25, 26, 27, 28, 29, 30, 31, 32, 33, 34, 35, 36, 37, 38, 39, 40, 41, 42, 43, 44, 45, 46, 47, 48, 49, 50, 51, 52, 53, 54, 55, 56, 57, 58, 59, 60, 61, 62, 63, 64, 65, 66, 67, 68, 69, 70, 71, 72, 73, 74, 75, 76, 77, 78, 79, 80, 81, 82, 83, 84, 85, 86, 87, 88, 89, 90, 91, 92, 93, 94, 95, 96, 97, 98, 99, 100, 101, 102, 103, 104, 105, 106, 107, 108, 109, 110, 111, 112, 113, 114, 115, 116, 117, 118, 119, 120, 121, 122, 123, 124, 125, 126, 127, 128, 129, 231, 232, 233, 234, 235, 236, 237, 238, 239, 240, 241, 242, 243] (by decide +kernel) (by decide +kernel)
set_option maxRecDepth 20000 in
theorem gX4_digest_X4_hashRoads : GoodIn wsX4_digest (wsV RX4 224 RX4 yX4_hashRoads wsX4_hashRoads) := goodIn_app (goodIn_of _ (by decide +kernel)) ggX4_digest_X4_hashRoads
set_option maxRecDepth 20000 in
theorem ggX4_digest_X4_hashCrossings : GoodIn wsX4_digest wsX4_hashCrossings := goodIn_r _ [133, 8, 104, 105, 106, 6, 107, 21, 22, 23, 24, 25, 60, 61, 62, 36, 63, 38, 49, 134, 135, 136, 137, 17, 112, 138, 139, 140, 141, 40, 68, 69, 70, 71, 142, 143, 144, 145, 80, 81, 82, 83, 231, 232, 233, 234, 235, 236, 237, 238, 239, 240, 241, 242, 243] (by decide +kernel) (by decide +kernel)
set_option maxRecDepth 20000 in
theorem gX4_digest_X4_hashCrossings : GoodIn wsX4_digest (wsV RX4 228 RX4 yX4_hashCrossings wsX4_hashCrossings) := goodIn_app (goodIn_of _ (by decide +kernel)) ggX4_digest_X4_hashCrossings
set_option maxRecDepth 20000 in
theorem ggX4_digest_X4_hashForms : GoodIn wsX4_digest wsX4_hashForms := goodIn_r _ [149, 150, 151, 152, 153, 154, 6, 155, 17, 20, 156, 157, 158, 159, 160, 161, 162, 163, 164, 165, 166, 167, 168, 80, 81, 82, 83, 231, 232, 233, 234, 235, 236, 244, 245, 246, 247, 248] (by decide +kernel) (by decide +kernel)
set_option maxRecDepth 20000 in
theorem gX4_digest_X4_hashForms : GoodIn wsX4_digest (wsV RX4 231 RX4 yX4_hashForms wsX4_hashForms) := goodIn_app (goodIn_of _ (by decide +kernel)) ggX4_digest_X4_hashForms
set_option maxRecDepth 20000 in
theorem ggX4_digest_X4_hashCycles : GoodIn wsX4_digest wsX4_hashCycles := goodIn_r _ [172, 150, 173, 174, 175, 176, 6, 177, 17, 20, 178, 179, 180, 159, 181, 182, 183, 184, 185, 186, 187, 167, 188, 80, 81, 82, 83, 189, 190, 191, 192, 193, 194, 195, 196, 197, 126, 123, 127, 198, 199, 163, 164, 165, 166, 168, 157, 158, 160, 161, 231, 232, 233, 234, 235, 236, 244, 245, 246, 247, 248] (by decide +kernel) (by decide +kernel)
set_option maxRecDepth 20000 in
theorem gX4_digest_X4_hashCycles : GoodIn wsX4_digest (wsV RX4 234 RX4 yX4_hashCycles wsX4_hashCycles) := goodIn_app (goodIn_of _ (by decide +kernel)) ggX4_digest_X4_hashCycles
set_option maxRecDepth 20000 in
theorem ggX4_digest_X1_hashed : GoodIn wsX4_digest wsX1_hashed := goodIn_r _ [204, 205, 206, 81, 6, 82, 83, 249, 250, 251, 252, 253, 254] (by decide +kernel) (by decide +kernel)
set_option maxRecDepth 20000 in
theorem gX4_digest_X1_hashed : GoodIn wsX4_digest (wsV RX4 237 RX1 yX1_hashed wsX1_hashed) := goodIn_app (goodIn_of _ (by decide +kernel)) ggX4_digest_X1_hashed
set_option maxRecDepth 20000 in
theorem ggX4_digest_X4_count : GoodIn wsX4_digest wsX4_count := goodIn_r _ [210, 8, 2, 211, 212, 150, 151, 173, 20, 213, 214, 215, 6, 216, 104, 105, 106, 107, 21, 22, 23, 24, 25, 60, 61, 62, 36, 63, 38, 49, 217, 218, 219, 220, 221, 222, 223, 224, 225, 226, 227, 228, 17, 18, 19, 229, 230, 42, 43, 44, 40, 39, 45, 46, 47, 48, 231, 232, 233, 234, 235, 236, 249, 250, 251, 252, 253, 254, 244, 245, 246, 247, 248, 237, 238, 239, 240, 241, 242, 243] (by decide +kernel) (by decide +kernel)
set_option maxRecDepth 20000 in
theorem gX4_digest_X4_count : GoodIn wsX4_digest (wsV RX4 240 RX4 yX4_count wsX4_count) := goodIn_app (goodIn_of _ (by decide +kernel)) ggX4_digest_X4_count
set_option maxRecDepth 20000 in
theorem ggX4_digest_X4_mix : GoodIn wsX4_digest wsX4_mix := goodIn_r _ [82, 83] (by decide +kernel) (by decide +kernel)
set_option maxRecDepth 20000 in
theorem gX4_digest_X4_mix : GoodIn wsX4_digest (va_wsS RX4 243 yX4_mix wsX4_mix) := goodIn_app (goodIn_of _ (by decide +kernel)) ggX4_digest_X4_mix
theorem dX4_digest_0 : decode cX4_digest 0 = .ok (.aload_n 0, 1) := by decide +kernel
theorem dX4_digest_1 : decode cX4_digest 1 = .ok (.ldc2_w 222, 3) := by decide +kernel
theorem dX4_digest_4 : decode cX4_digest 4 = .ok (.invokevirtual 224, 3) := by decide +kernel
theorem dX4_digest_7 : decode cX4_digest 7 = .ok (.lstore_n 1, 1) := by decide +kernel
theorem dX4_digest_8 : decode cX4_digest 8 = .ok (.aload_n 0, 1) := by decide +kernel
theorem dX4_digest_9 : decode cX4_digest 9 = .ok (.lload_n 1, 1) := by decide +kernel
theorem dX4_digest_10 : decode cX4_digest 10 = .ok (.invokevirtual 228, 3) := by decide +kernel
theorem dX4_digest_13 : decode cX4_digest 13 = .ok (.lstore_n 1, 1) := by decide +kernel
theorem dX4_digest_14 : decode cX4_digest 14 = .ok (.aload_n 0, 1) := by decide +kernel
theorem dX4_digest_15 : decode cX4_digest 15 = .ok (.lload_n 1, 1) := by decide +kernel
theorem dX4_digest_16 : decode cX4_digest 16 = .ok (.invokevirtual 231, 3) := by decide +kernel
theorem dX4_digest_19 : decode cX4_digest 19 = .ok (.lstore_n 1, 1) := by decide +kernel
theorem dX4_digest_20 : decode cX4_digest 20 = .ok (.aload_n 0, 1) := by decide +kernel
theorem dX4_digest_21 : decode cX4_digest 21 = .ok (.lload_n 1, 1) := by decide +kernel
theorem dX4_digest_22 : decode cX4_digest 22 = .ok (.invokevirtual 234, 3) := by decide +kernel
theorem dX4_digest_25 : decode cX4_digest 25 = .ok (.lstore_n 1, 1) := by decide +kernel
theorem dX4_digest_26 : decode cX4_digest 26 = .ok (.aload_n 0, 1) := by decide +kernel
theorem dX4_digest_27 : decode cX4_digest 27 = .ok (.getfield 10, 3) := by decide +kernel
theorem dX4_digest_30 : decode cX4_digest 30 = .ok (.lload_n 1, 1) := by decide +kernel
theorem dX4_digest_31 : decode cX4_digest 31 = .ok (.invokevirtual 237, 3) := by decide +kernel
theorem dX4_digest_34 : decode cX4_digest 34 = .ok (.lstore_n 1, 1) := by decide +kernel
theorem dX4_digest_35 : decode cX4_digest 35 = .ok (.iconst 0, 1) := by decide +kernel
theorem dX4_digest_36 : decode cX4_digest 36 = .ok (.istore_n 3, 1) := by decide +kernel
theorem dX4_digest_37 : decode cX4_digest 37 = .ok (.iload_n 3, 1) := by decide +kernel
theorem dX4_digest_38 : decode cX4_digest 38 = .ok (.bipush 7, 2) := by decide +kernel
theorem dX4_digest_40 : decode cX4_digest 40 = .ok (.if_icmp .ge 19, 3) := by decide +kernel
theorem dX4_digest_43 : decode cX4_digest 43 = .ok (.lload_n 1, 1) := by decide +kernel
theorem dX4_digest_44 : decode cX4_digest 44 = .ok (.aload_n 0, 1) := by decide +kernel
theorem dX4_digest_45 : decode cX4_digest 45 = .ok (.iload_n 3, 1) := by decide +kernel
theorem dX4_digest_46 : decode cX4_digest 46 = .ok (.invokevirtual 240, 3) := by decide +kernel
theorem dX4_digest_49 : decode cX4_digest 49 = .ok (.invokestatic 243, 3) := by decide +kernel
theorem dX4_digest_52 : decode cX4_digest 52 = .ok (.lstore_n 1, 1) := by decide +kernel
theorem dX4_digest_53 : decode cX4_digest 53 = .ok (.iinc 3 1, 3) := by decide +kernel
theorem dX4_digest_56 : decode cX4_digest 56 = .ok (.goto (-19), 3) := by decide +kernel
theorem dX4_digest_59 : decode cX4_digest 59 = .ok (.lload_n 1, 1) := by decide +kernel
theorem dX4_digest_60 : decode cX4_digest 60 = .ok (.lreturn, 1) := by decide +kernel
set_option maxRecDepth 20000 in
theorem ggX4_hashRoads_X4_hashRoad : GoodIn wsX4_hashRoads wsX4_hashRoad := goodIn_r _ [6, 7, 8, 9, 5, 10, 11, 12, 13, 14, 15, 16, 17, 18, 1, 19, 20, 21, 22, 23, 24, 25, 26, 27, 28, 29, 30, 31, 32, 33, 34, 35, 36, 37, 38, 39, 40, 41, 42, 43, 44, 45, 46, 47, 48, 49, 50, 51, 52, 53, 54, 55, 56, 57, 58, 59, 60, 61, 62, 63, 64, 65, 66, 67, 68, 69, 70, 71, 72, 73, 74, 75, 76, 77, 78, 79, 80, 81, 82, 83, 84, 85, 86, 87, 88, 89, 90, 91, 92, 93, 94, 95, 96, 97, 98, 99, 100, 101, 102, 103, 104, 105, 106, 107, 108, 109, 110, 111, 112, 113, 114, 115, 116, 117, 118, 119, 120, 121, 122, 123, 130, 131, 132, 133, 134, 135, 136, 124, 125, 126, 127, 128, 129] (by decide +kernel) (by decide +kernel)
set_option maxRecDepth 20000 in
theorem gX4_hashRoads_X4_hashRoad : GoodIn wsX4_hashRoads (wsV RX4 247 RX4 yX4_hashRoad wsX4_hashRoad) := goodIn_app (goodIn_of _ (by decide +kernel)) ggX4_hashRoads_X4_hashRoad
theorem dX4_hashRoads_0 : decode cX4_hashRoads 0 = .ok (.lload_n 1, 1) := by decide +kernel
theorem dX4_hashRoads_1 : decode cX4_hashRoads 1 = .ok (.lstore_n 3, 1) := by decide +kernel
theorem dX4_hashRoads_2 : decode cX4_hashRoads 2 = .ok (.iconst 0, 1) := by decide +kernel
theorem dX4_hashRoads_3 : decode cX4_hashRoads 3 = .ok (.istore 5, 2) := by decide +kernel
theorem dX4_hashRoads_5 : decode cX4_hashRoads 5 = .ok (.iload 5, 2) := by decide +kernel
theorem dX4_hashRoads_7 : decode cX4_hashRoads 7 = .ok (.aload_n 0, 1) := by decide +kernel
theorem dX4_hashRoads_8 : decode cX4_hashRoads 8 = .ok (.getfield 148, 3) := by decide +kernel
theorem dX4_hashRoads_11 : decode cX4_hashRoads 11 = .ok (.if_icmp .ge 17, 3) := by decide +kernel
theorem dX4_hashRoads_14 : decode cX4_hashRoads 14 = .ok (.aload_n 0, 1) := by decide +kernel
theorem dX4_hashRoads_15 : decode cX4_hashRoads 15 = .ok (.lload_n 3, 1) := by decide +kernel
theorem dX4_hashRoads_16 : decode cX4_hashRoads 16 = .ok (.iload 5, 2) := by decide +kernel
theorem dX4_hashRoads_18 : decode cX4_hashRoads 18 = .ok (.invokevirtual 247, 3) := by decide +kernel
theorem dX4_hashRoads_21 : decode cX4_hashRoads 21 = .ok (.lstore_n 3, 1) := by decide +kernel
theorem dX4_hashRoads_22 : decode cX4_hashRoads 22 = .ok (.iinc 5 1, 3) := by decide +kernel
theorem dX4_hashRoads_25 : decode cX4_hashRoads 25 = .ok (.goto (-20), 3) := by decide +kernel
theorem dX4_hashRoads_28 : decode cX4_hashRoads 28 = .ok (.lload_n 3, 1) := by decide +kernel
theorem dX4_hashRoads_29 : decode cX4_hashRoads 29 = .ok (.lreturn, 1) := by decide +kernel
set_option maxRecDepth 20000 in
theorem ggX4_hashRoad_X4_road : GoodIn wsX4_hashRoad wsX4_road := goodIn_r _ [5, 6, 7, 8, 9, 10, 11, 12, 4, 13, 14, 15, 16, 17, 18, 19, 20, 21, 22, 23, 24, 25, 26, 27, 28, 29, 30, 31, 32, 33, 34, 35, 36, 37, 38, 39, 40, 41, 42, 43, 44, 45, 46, 47, 48, 49, 50, 51, 52, 53, 54, 55, 56, 57, 58, 59, 60, 61, 62, 63, 64, 65, 66, 67, 68, 69, 120, 121, 122, 123, 124, 125, 126, 127, 128, 129, 130, 131, 132] (by decide +kernel) (by decide +kernel)
set_option maxRecDepth 20000 in
theorem gX4_hashRoad_X4_road : GoodIn wsX4_hashRoad (wsV RX4 250 RX4 yX4_road wsX4_road) := goodIn_app (goodIn_of _ (by decide +kernel)) ggX4_hashRoad_X4_road
set_option maxRecDepth 20000 in
theorem ggX4_hashRoad_X4_mix : GoodIn wsX4_hashRoad wsX4_mix := goodIn_r _ [72, 73] (by decide +kernel) (by decide +kernel)
set_option maxRecDepth 20000 in
theorem gX4_hashRoad_X4_mix : GoodIn wsX4_hashRoad (va_wsS RX4 243 yX4_mix wsX4_mix) := goodIn_app (goodIn_of _ (by decide +kernel)) ggX4_hashRoad_X4_mix
set_option maxRecDepth 20000 in
theorem ggX4_hashRoad_X4_sign : GoodIn wsX4_hashRoad wsX4_sign := goodIn_r _ [77, 7, 6, 10, 11, 12, 4, 13, 14, 15, 78, 59, 60, 26, 61, 28, 30, 79, 80, 81, 120, 121, 122, 123, 124, 125, 126, 127, 128, 129, 130, 131, 132] (by decide +kernel) (by decide +kernel)
set_option maxRecDepth 20000 in
theorem gX4_hashRoad_X4_sign : GoodIn wsX4_hashRoad (wsV RX4 253 RX4 yX4_sign wsX4_sign) := goodIn_app (goodIn_of _ (by decide +kernel)) ggX4_hashRoad_X4_sign
set_option maxRecDepth 20000 in
theorem ggX4_hashRoad_X4_table : GoodIn wsX4_hashRoad wsX4_table := goodIn_r _ [85, 6, 86, 87, 88, 89, 9, 10, 11, 12, 4, 13, 14, 15, 120, 121, 122, 123, 124, 125, 126, 127, 128, 129, 130, 131, 132] (by decide +kernel) (by decide +kernel)
set_option maxRecDepth 20000 in
theorem gX4_hashRoad_X4_table : GoodIn wsX4_hashRoad (wsV RX4 256 RX4 yX4_table wsX4_table) := goodIn_app (goodIn_of _ (by decide +kernel)) ggX4_hashRoad_X4_table
set_option maxRecDepth 20000 in
theorem ggX4_hashRoad_X4_end : GoodIn wsX4_hashRoad wsX4_end := goodIn_r _ [93, 6, 86, 87, 88, 89, 9, 10, 11, 12, 4, 13, 14, 15, 120, 121, 122, 123, 124, 125, 126, 127, 128, 129, 130, 131, 132] (by decide +kernel) (by decide +kernel)
set_option maxRecDepth 20000 in
theorem gX4_hashRoad_X4_end : GoodIn wsX4_hashRoad (wsV RX4 259 RX4 yX4_end wsX4_end) := goodIn_app (goodIn_of _ (by decide +kernel)) ggX4_hashRoad_X4_end
set_option maxRecDepth 20000 in
theorem ggX4_hashRoad_X4_isClosedRoad : GoodIn wsX4_hashRoad wsX4_isClosedRoad := goodIn_r _ [97, 10, 11, 12, 4, 13, 14, 15, 50, 51, 52, 26, 53, 28, 39, 127, 128, 129, 130, 131, 132, 120, 121, 122, 123, 124, 125, 126] (by decide +kernel) (by decide +kernel)
set_option maxRecDepth 20000 in
theorem gX4_hashRoad_X4_isClosedRoad : GoodIn wsX4_hashRoad (wsV RX4 262 RX4 yX4_isClosedRoad wsX4_isClosedRoad) := goodIn_app (goodIn_of _ (by decide +kernel)) ggX4_hashRoad_X4_isClosedRoad
set_option maxRecDepth 20000 in
theorem ggX4_hashRoad_X4_form : GoodIn wsX4_hashRoad wsX4_form := goodIn_r _ [101, 6, 9, 102, 10, 11, 12, 4, 13, 14, 15, 50, 51, 52, 26, 53, 28, 39, 103, 104, 105, 106, 107, 49, 48, 108, 109, 110, 111, 112, 113, 114, 115, 116, 117, 118, 119, 127, 128, 129, 130, 131, 132, 120, 121, 122, 123, 124, 125, 126] (by decide +kernel) (by decide +kernel)
set_option maxRecDepth 20000 in
theorem gX4_hashRoad_X4_form : GoodIn wsX4_hashRoad (wsV RX4 265 RX4 yX4_form wsX4_form) := goodIn_app (goodIn_of _ (by decide +kernel)) ggX4_hashRoad_X4_form
theorem dX4_hashRoad_0 : decode cX4_hashRoad 0 = .ok (.lload_n 1, 1) := by decide +kernel
theorem dX4_hashRoad_1 : decode cX4_hashRoad 1 = .ok (.lstore 4, 2) := by decide +kernel
theorem dX4_hashRoad_3 : decode cX4_hashRoad 3 = .ok (.iconst 0, 1) := by decide +kernel
theorem dX4_hashRoad_4 : decode cX4_hashRoad 4 = .ok (.istore 6, 2) := by decide +kernel
theorem dX4_hashRoad_6 : decode cX4_hashRoad 6 = .ok (.iload 6, 2) := by decide +kernel
theorem dX4_hashRoad_8 : decode cX4_hashRoad 8 = .ok (.bipush 10, 2) := by decide +kernel
theorem dX4_hashRoad_10 : decode cX4_hashRoad 10 = .ok (.if_icmp .ge 23, 3) := by decide +kernel
theorem dX4_hashRoad_13 : decode cX4_hashRoad 13 = .ok (.lload 4, 2) := by decide +kernel
theorem dX4_hashRoad_15 : decode cX4_hashRoad 15 = .ok (.aload_n 0, 1) := by decide +kernel
theorem dX4_hashRoad_16 : decode cX4_hashRoad 16 = .ok (.iload_n 3, 1) := by decide +kernel
theorem dX4_hashRoad_17 : decode cX4_hashRoad 17 = .ok (.iload 6, 2) := by decide +kernel
theorem dX4_hashRoad_19 : decode cX4_hashRoad 19 = .ok (.invokevirtual 250, 3) := by decide +kernel
theorem dX4_hashRoad_22 : decode cX4_hashRoad 22 = .ok (.invokestatic 243, 3) := by decide +kernel
theorem dX4_hashRoad_25 : decode cX4_hashRoad 25 = .ok (.lstore 4, 2) := by decide +kernel
theorem dX4_hashRoad_27 : decode cX4_hashRoad 27 = .ok (.iinc 6 1, 3) := by decide +kernel
theorem dX4_hashRoad_30 : decode cX4_hashRoad 30 = .ok (.goto (-24), 3) := by decide +kernel
theorem dX4_hashRoad_33 : decode cX4_hashRoad 33 = .ok (.aload_n 0, 1) := by decide +kernel
theorem dX4_hashRoad_34 : decode cX4_hashRoad 34 = .ok (.iload_n 3, 1) := by decide +kernel
theorem dX4_hashRoad_35 : decode cX4_hashRoad 35 = .ok (.iconst 0, 1) := by decide +kernel
theorem dX4_hashRoad_36 : decode cX4_hashRoad 36 = .ok (.invokevirtual 250, 3) := by decide +kernel
theorem dX4_hashRoad_39 : decode cX4_hashRoad 39 = .ok (.istore 6, 2) := by decide +kernel
theorem dX4_hashRoad_41 : decode cX4_hashRoad 41 = .ok (.iconst 0, 1) := by decide +kernel
theorem dX4_hashRoad_42 : decode cX4_hashRoad 42 = .ok (.istore 7, 2) := by decide +kernel
theorem dX4_hashRoad_44 : decode cX4_hashRoad 44 = .ok (.iload 7, 2) := by decide +kernel
theorem dX4_hashRoad_46 : decode cX4_hashRoad 46 = .ok (.iload 6, 2) := by decide +kernel
theorem dX4_hashRoad_48 : decode cX4_hashRoad 48 = .ok (.if_icmp .ge 23, 3) := by decide +kernel
theorem dX4_hashRoad_51 : decode cX4_hashRoad 51 = .ok (.lload 4, 2) := by decide +kernel
theorem dX4_hashRoad_53 : decode cX4_hashRoad 53 = .ok (.aload_n 0, 1) := by decide +kernel
theorem dX4_hashRoad_54 : decode cX4_hashRoad 54 = .ok (.iload_n 3, 1) := by decide +kernel
theorem dX4_hashRoad_55 : decode cX4_hashRoad 55 = .ok (.iload 7, 2) := by decide +kernel
theorem dX4_hashRoad_57 : decode cX4_hashRoad 57 = .ok (.invokevirtual 253, 3) := by decide +kernel
theorem dX4_hashRoad_60 : decode cX4_hashRoad 60 = .ok (.invokestatic 243, 3) := by decide +kernel
theorem dX4_hashRoad_63 : decode cX4_hashRoad 63 = .ok (.lstore 4, 2) := by decide +kernel
theorem dX4_hashRoad_65 : decode cX4_hashRoad 65 = .ok (.iinc 7 1, 3) := by decide +kernel
theorem dX4_hashRoad_68 : decode cX4_hashRoad 68 = .ok (.goto (-24), 3) := by decide +kernel
theorem dX4_hashRoad_71 : decode cX4_hashRoad 71 = .ok (.iconst 0, 1) := by decide +kernel
theorem dX4_hashRoad_72 : decode cX4_hashRoad 72 = .ok (.istore 7, 2) := by decide +kernel
theorem dX4_hashRoad_74 : decode cX4_hashRoad 74 = .ok (.iload 7, 2) := by decide +kernel
theorem dX4_hashRoad_76 : decode cX4_hashRoad 76 = .ok (.iconst 4, 1) := by decide +kernel
theorem dX4_hashRoad_77 : decode cX4_hashRoad 77 = .ok (.if_icmp .ge 23, 3) := by decide +kernel
theorem dX4_hashRoad_80 : decode cX4_hashRoad 80 = .ok (.lload 4, 2) := by decide +kernel
theorem dX4_hashRoad_82 : decode cX4_hashRoad 82 = .ok (.aload_n 0, 1) := by decide +kernel
theorem dX4_hashRoad_83 : decode cX4_hashRoad 83 = .ok (.iload_n 3, 1) := by decide +kernel
theorem dX4_hashRoad_84 : decode cX4_hashRoad 84 = .ok (.iload 7, 2) := by decide +kernel
theorem dX4_hashRoad_86 : decode cX4_hashRoad 86 = .ok (.invokevirtual 256, 3) := by decide +kernel
theorem dX4_hashRoad_89 : decode cX4_hashRoad 89 = .ok (.invokestatic 243, 3) := by decide +kernel
theorem dX4_hashRoad_92 : decode cX4_hashRoad 92 = .ok (.lstore 4, 2) := by decide +kernel
theorem dX4_hashRoad_94 : decode cX4_hashRoad 94 = .ok (.iinc 7 1, 3) := by decide +kernel
theorem dX4_hashRoad_97 : decode cX4_hashRoad 97 = .ok (.goto (-23), 3) := by decide +kernel
theorem dX4_hashRoad_100 : decode cX4_hashRoad 100 = .ok (.iconst 0, 1) := by decide +kernel
theorem dX4_hashRoad_101 : decode cX4_hashRoad 101 = .ok (.istore 7, 2) := by decide +kernel
theorem dX4_hashRoad_103 : decode cX4_hashRoad 103 = .ok (.iload 7, 2) := by decide +kernel
theorem dX4_hashRoad_105 : decode cX4_hashRoad 105 = .ok (.iconst 2, 1) := by decide +kernel
theorem dX4_hashRoad_106 : decode cX4_hashRoad 106 = .ok (.if_icmp .ge 23, 3) := by decide +kernel
theorem dX4_hashRoad_109 : decode cX4_hashRoad 109 = .ok (.lload 4, 2) := by decide +kernel
theorem dX4_hashRoad_111 : decode cX4_hashRoad 111 = .ok (.aload_n 0, 1) := by decide +kernel
theorem dX4_hashRoad_112 : decode cX4_hashRoad 112 = .ok (.iload_n 3, 1) := by decide +kernel
theorem dX4_hashRoad_113 : decode cX4_hashRoad 113 = .ok (.iload 7, 2) := by decide +kernel
theorem dX4_hashRoad_115 : decode cX4_hashRoad 115 = .ok (.invokevirtual 259, 3) := by decide +kernel
theorem dX4_hashRoad_118 : decode cX4_hashRoad 118 = .ok (.invokestatic 243, 3) := by decide +kernel
theorem dX4_hashRoad_121 : decode cX4_hashRoad 121 = .ok (.lstore 4, 2) := by decide +kernel
theorem dX4_hashRoad_123 : decode cX4_hashRoad 123 = .ok (.iinc 7 1, 3) := by decide +kernel
theorem dX4_hashRoad_126 : decode cX4_hashRoad 126 = .ok (.goto (-23), 3) := by decide +kernel
theorem dX4_hashRoad_129 : decode cX4_hashRoad 129 = .ok (.iconst 0, 1) := by decide +kernel
theorem dX4_hashRoad_130 : decode cX4_hashRoad 130 = .ok (.istore 7, 2) := by decide +kernel
theorem dX4_hashRoad_132 : decode cX4_hashRoad 132 = .ok (.iload 7, 2) := by decide +kernel
theorem dX4_hashRoad_134 : decode cX4_hashRoad 134 = .ok (.iconst 5, 1) := by decide +kernel
theorem dX4_hashRoad_135 : decode cX4_hashRoad 135 = .ok (.if_icmp .ge 31, 3) := by decide +kernel
theorem dX4_hashRoad_138 : decode cX4_hashRoad 138 = .ok (.aload_n 0, 1) := by decide +kernel
theorem dX4_hashRoad_139 : decode cX4_hashRoad 139 = .ok (.iload_n 3, 1) := by decide +kernel
theorem dX4_hashRoad_140 : decode cX4_hashRoad 140 = .ok (.invokevirtual 262, 3) := by decide +kernel
theorem dX4_hashRoad_143 : decode cX4_hashRoad 143 = .ok (.ifCond .eq 23, 3) := by decide +kernel
theorem dX4_hashRoad_146 : decode cX4_hashRoad 146 = .ok (.lload 4, 2) := by decide +kernel
theorem dX4_hashRoad_148 : decode cX4_hashRoad 148 = .ok (.aload_n 0, 1) := by decide +kernel
theorem dX4_hashRoad_149 : decode cX4_hashRoad 149 = .ok (.iload_n 3, 1) := by decide +kernel
theorem dX4_hashRoad_150 : decode cX4_hashRoad 150 = .ok (.iload 7, 2) := by decide +kernel
theorem dX4_hashRoad_152 : decode cX4_hashRoad 152 = .ok (.invokevirtual 265, 3) := by decide +kernel
theorem dX4_hashRoad_155 : decode cX4_hashRoad 155 = .ok (.invokestatic 243, 3) := by decide +kernel
theorem dX4_hashRoad_158 : decode cX4_hashRoad 158 = .ok (.lstore 4, 2) := by decide +kernel
theorem dX4_hashRoad_160 : decode cX4_hashRoad 160 = .ok (.iinc 7 1, 3) := by decide +kernel
theorem dX4_hashRoad_163 : decode cX4_hashRoad 163 = .ok (.goto (-31), 3) := by decide +kernel
theorem dX4_hashRoad_166 : decode cX4_hashRoad 166 = .ok (.lload 4, 2) := by decide +kernel
theorem dX4_hashRoad_168 : decode cX4_hashRoad 168 = .ok (.lreturn, 1) := by decide +kernel
set_option maxRecDepth 20000 in
theorem ggX4_hashCrossings_X4_isClosedRoad : GoodIn wsX4_hashCrossings wsX4_isClosedRoad := goodIn_r _ [6, 7, 8, 9, 5, 10, 1, 11, 12, 13, 14, 15, 16, 17, 18, 42, 43, 44, 45, 46, 47, 48, 49, 50, 51, 52, 53, 54] (by decide +kernel) (by decide +kernel)
set_option maxRecDepth 20000 in
theorem gX4_hashCrossings_X4_isClosedRoad : GoodIn wsX4_hashCrossings (wsV RX4 262 RX4 yX4_isClosedRoad wsX4_isClosedRoad) := goodIn_app (goodIn_of _ (by decide +kernel)) ggX4_hashCrossings_X4_isClosedRoad
set_option maxRecDepth 20000 in
theorem ggX4_hashCrossings_X4_cross : GoodIn wsX4_hashCrossings wsX4_cross := goodIn_r _ [22, 23, 24, 7, 8, 9, 5, 10, 1, 11, 12, 13, 14, 15, 16, 17, 18, 25, 26, 27, 28, 29, 30, 31, 32, 33, 34, 35, 36, 37, 42, 43, 44, 45, 46, 47, 48, 49, 50, 51, 52, 53, 54] (by decide +kernel) (by decide +kernel)
set_option maxRecDepth 20000 in
theorem gX4_hashCrossings_X4_cross : GoodIn wsX4_hashCrossings (wsV RX4 268 RX4 yX4_cross wsX4_cross) := goodIn_app (goodIn_of _ (by decide +kernel)) ggX4_hashCrossings_X4_cross
set_option maxRecDepth 20000 in
theorem ggX4_hashCrossings_X4_mix : GoodIn wsX4_hashCrossings wsX4_mix := goodIn_r _ [40, 41] (by decide +kernel) (by decide +kernel)
set_option maxRecDepth 20000 in
theorem gX4_hashCrossings_X4_mix : GoodIn wsX4_hashCrossings (va_wsS RX4 243 yX4_mix wsX4_mix) := goodIn_app (goodIn_of _ (by decide +kernel)) ggX4_hashCrossings_X4_mix
theorem dX4_hashCrossings_0 : decode cX4_hashCrossings 0 = .ok (.lload_n 1, 1) := by decide +kernel
theorem dX4_hashCrossings_1 : decode cX4_hashCrossings 1 = .ok (.lstore_n 3, 1) := by decide +kernel
theorem dX4_hashCrossings_2 : decode cX4_hashCrossings 2 = .ok (.iconst 0, 1) := by decide +kernel
theorem dX4_hashCrossings_3 : decode cX4_hashCrossings 3 = .ok (.istore 5, 2) := by decide +kernel
theorem dX4_hashCrossings_5 : decode cX4_hashCrossings 5 = .ok (.iload 5, 2) := by decide +kernel
theorem dX4_hashCrossings_7 : decode cX4_hashCrossings 7 = .ok (.aload_n 0, 1) := by decide +kernel
theorem dX4_hashCrossings_8 : decode cX4_hashCrossings 8 = .ok (.getfield 148, 3) := by decide +kernel
theorem dX4_hashCrossings_11 : decode cX4_hashCrossings 11 = .ok (.if_icmp .ge 59, 3) := by decide +kernel
theorem dX4_hashCrossings_14 : decode cX4_hashCrossings 14 = .ok (.iload 5, 2) := by decide +kernel
theorem dX4_hashCrossings_16 : decode cX4_hashCrossings 16 = .ok (.istore 6, 2) := by decide +kernel
theorem dX4_hashCrossings_18 : decode cX4_hashCrossings 18 = .ok (.iload 6, 2) := by decide +kernel
theorem dX4_hashCrossings_20 : decode cX4_hashCrossings 20 = .ok (.aload_n 0, 1) := by decide +kernel
theorem dX4_hashCrossings_21 : decode cX4_hashCrossings 21 = .ok (.getfield 148, 3) := by decide +kernel
theorem dX4_hashCrossings_24 : decode cX4_hashCrossings 24 = .ok (.if_icmp .ge 40, 3) := by decide +kernel
theorem dX4_hashCrossings_27 : decode cX4_hashCrossings 27 = .ok (.aload_n 0, 1) := by decide +kernel
theorem dX4_hashCrossings_28 : decode cX4_hashCrossings 28 = .ok (.iload 5, 2) := by decide +kernel
theorem dX4_hashCrossings_30 : decode cX4_hashCrossings 30 = .ok (.invokevirtual 262, 3) := by decide +kernel
theorem dX4_hashCrossings_33 : decode cX4_hashCrossings 33 = .ok (.ifCond .eq 25, 3) := by decide +kernel
theorem dX4_hashCrossings_36 : decode cX4_hashCrossings 36 = .ok (.aload_n 0, 1) := by decide +kernel
theorem dX4_hashCrossings_37 : decode cX4_hashCrossings 37 = .ok (.iload 6, 2) := by decide +kernel
theorem dX4_hashCrossings_39 : decode cX4_hashCrossings 39 = .ok (.invokevirtual 262, 3) := by decide +kernel
theorem dX4_hashCrossings_42 : decode cX4_hashCrossings 42 = .ok (.ifCond .eq 16, 3) := by decide +kernel
theorem dX4_hashCrossings_45 : decode cX4_hashCrossings 45 = .ok (.lload_n 3, 1) := by decide +kernel
theorem dX4_hashCrossings_46 : decode cX4_hashCrossings 46 = .ok (.aload_n 0, 1) := by decide +kernel
theorem dX4_hashCrossings_47 : decode cX4_hashCrossings 47 = .ok (.iload 5, 2) := by decide +kernel
theorem dX4_hashCrossings_49 : decode cX4_hashCrossings 49 = .ok (.iload 6, 2) := by decide +kernel
theorem dX4_hashCrossings_51 : decode cX4_hashCrossings 51 = .ok (.invokevirtual 268, 3) := by decide +kernel
theorem dX4_hashCrossings_54 : decode cX4_hashCrossings 54 = .ok (.invokestatic 243, 3) := by decide +kernel
theorem dX4_hashCrossings_57 : decode cX4_hashCrossings 57 = .ok (.lstore_n 3, 1) := by decide +kernel
theorem dX4_hashCrossings_58 : decode cX4_hashCrossings 58 = .ok (.iinc 6 1, 3) := by decide +kernel
theorem dX4_hashCrossings_61 : decode cX4_hashCrossings 61 = .ok (.goto (-43), 3) := by decide +kernel
theorem dX4_hashCrossings_64 : decode cX4_hashCrossings 64 = .ok (.iinc 5 1, 3) := by decide +kernel
theorem dX4_hashCrossings_67 : decode cX4_hashCrossings 67 = .ok (.goto (-62), 3) := by decide +kernel
theorem dX4_hashCrossings_70 : decode cX4_hashCrossings 70 = .ok (.lload_n 3, 1) := by decide +kernel
theorem dX4_hashCrossings_71 : decode cX4_hashCrossings 71 = .ok (.lreturn, 1) := by decide +kernel
set_option maxRecDepth 20000 in
theorem ggX4_hashForms_X4_simple : GoodIn wsX4_hashForms wsX4_simple := goodIn_r _ [7, 1, 8, 9, 10, 11, 12, 13, 14, 15, 16, 17, 18, 19, 20, 21, 22, 27, 28, 29, 30, 31, 32, 33, 34, 35, 36, 37] (by decide +kernel) (by decide +kernel)
set_option maxRecDepth 20000 in
theorem gX4_hashForms_X4_simple : GoodIn wsX4_hashForms (wsV RX4 271 RX4 yX4_simple wsX4_simple) := goodIn_app (goodIn_of _ (by decide +kernel)) ggX4_hashForms_X4_simple
set_option maxRecDepth 20000 in
theorem ggX4_hashForms_X4_mix : GoodIn wsX4_hashForms wsX4_mix := goodIn_r _ [25, 26] (by decide +kernel) (by decide +kernel)
set_option maxRecDepth 20000 in
theorem gX4_hashForms_X4_mix : GoodIn wsX4_hashForms (va_wsS RX4 243 yX4_mix wsX4_mix) := goodIn_app (goodIn_of _ (by decide +kernel)) ggX4_hashForms_X4_mix
theorem dX4_hashForms_0 : decode cX4_hashForms 0 = .ok (.lload_n 1, 1) := by decide +kernel
theorem dX4_hashForms_1 : decode cX4_hashForms 1 = .ok (.lstore_n 3, 1) := by decide +kernel
theorem dX4_hashForms_2 : decode cX4_hashForms 2 = .ok (.iconst 0, 1) := by decide +kernel
theorem dX4_hashForms_3 : decode cX4_hashForms 3 = .ok (.istore 5, 2) := by decide +kernel
theorem dX4_hashForms_5 : decode cX4_hashForms 5 = .ok (.iload 5, 2) := by decide +kernel
theorem dX4_hashForms_7 : decode cX4_hashForms 7 = .ok (.aload_n 0, 1) := by decide +kernel
theorem dX4_hashForms_8 : decode cX4_hashForms 8 = .ok (.getfield 25, 3) := by decide +kernel
theorem dX4_hashForms_11 : decode cX4_hashForms 11 = .ok (.getfield 156, 3) := by decide +kernel
theorem dX4_hashForms_14 : decode cX4_hashForms 14 = .ok (.if_icmp .ge 38, 3) := by decide +kernel
theorem dX4_hashForms_17 : decode cX4_hashForms 17 = .ok (.iconst 0, 1) := by decide +kernel
theorem dX4_hashForms_18 : decode cX4_hashForms 18 = .ok (.istore 6, 2) := by decide +kernel
theorem dX4_hashForms_20 : decode cX4_hashForms 20 = .ok (.iload 6, 2) := by decide +kernel
theorem dX4_hashForms_22 : decode cX4_hashForms 22 = .ok (.bipush 8, 2) := by decide +kernel
theorem dX4_hashForms_24 : decode cX4_hashForms 24 = .ok (.if_icmp .ge 22, 3) := by decide +kernel
theorem dX4_hashForms_27 : decode cX4_hashForms 27 = .ok (.lload_n 3, 1) := by decide +kernel
theorem dX4_hashForms_28 : decode cX4_hashForms 28 = .ok (.aload_n 0, 1) := by decide +kernel
theorem dX4_hashForms_29 : decode cX4_hashForms 29 = .ok (.iload 5, 2) := by decide +kernel
theorem dX4_hashForms_31 : decode cX4_hashForms 31 = .ok (.iload 6, 2) := by decide +kernel
theorem dX4_hashForms_33 : decode cX4_hashForms 33 = .ok (.invokevirtual 271, 3) := by decide +kernel
theorem dX4_hashForms_36 : decode cX4_hashForms 36 = .ok (.invokestatic 243, 3) := by decide +kernel
theorem dX4_hashForms_39 : decode cX4_hashForms 39 = .ok (.lstore_n 3, 1) := by decide +kernel
theorem dX4_hashForms_40 : decode cX4_hashForms 40 = .ok (.iinc 6 1, 3) := by decide +kernel
theorem dX4_hashForms_43 : decode cX4_hashForms 43 = .ok (.goto (-23), 3) := by decide +kernel
theorem dX4_hashForms_46 : decode cX4_hashForms 46 = .ok (.iinc 5 1, 3) := by decide +kernel
theorem dX4_hashForms_49 : decode cX4_hashForms 49 = .ok (.goto (-44), 3) := by decide +kernel
theorem dX4_hashForms_52 : decode cX4_hashForms 52 = .ok (.lload_n 3, 1) := by decide +kernel
theorem dX4_hashForms_53 : decode cX4_hashForms 53 = .ok (.lreturn, 1) := by decide +kernel
set_option maxRecDepth 20000 in
theorem ggX4_hashCycles_X4_cycle : GoodIn wsX4_hashCycles wsX4_cycle := goodIn_r _ [7, 1, 8, 9, 10, 11, 12, 13, 14, 15, 16, 17, 18, 19, 20, 21, 22, 50, 51, 52, 53, 54, 55, 56, 57, 58, 59, 60] (by decide +kernel) (by decide +kernel)
set_option maxRecDepth 20000 in
theorem gX4_hashCycles_X4_cycle : GoodIn wsX4_hashCycles (wsV RX4 274 RX4 yX4_cycle wsX4_cycle) := goodIn_app (goodIn_of _ (by decide +kernel)) ggX4_hashCycles_X4_cycle
set_option maxRecDepth 20000 in
theorem ggX4_hashCycles_X4_mix : GoodIn wsX4_hashCycles wsX4_mix := goodIn_r _ [25, 26] (by decide +kernel) (by decide +kernel)
set_option maxRecDepth 20000 in
theorem gX4_hashCycles_X4_mix : GoodIn wsX4_hashCycles (va_wsS RX4 243 yX4_mix wsX4_mix) := goodIn_app (goodIn_of _ (by decide +kernel)) ggX4_hashCycles_X4_mix
set_option maxRecDepth 20000 in
theorem ggX4_hashCycles_X4_trace : GoodIn wsX4_hashCycles wsX4_trace := goodIn_r _ [30, 1, 8, 9, 10, 11, 12, 13, 14, 15, 31, 32, 33, 34, 35, 36, 37, 38, 39, 17, 18, 19, 20, 21, 22, 40, 41, 42, 43, 44, 45, 46, 47, 48, 49, 50, 51, 52, 53, 54, 55, 56, 57, 58, 59, 60] (by decide +kernel) (by decide +kernel)
set_option maxRecDepth 20000 in
theorem gX4_hashCycles_X4_trace : GoodIn wsX4_hashCycles (wsV RX4 277 RX4 yX4_trace wsX4_trace) := goodIn_app (goodIn_of _ (by decide +kernel)) ggX4_hashCycles_X4_trace
theorem dX4_hashCycles_0 : decode cX4_hashCycles 0 = .ok (.lload_n 1, 1) := by decide +kernel
theorem dX4_hashCycles_1 : decode cX4_hashCycles 1 = .ok (.lstore_n 3, 1) := by decide +kernel
theorem dX4_hashCycles_2 : decode cX4_hashCycles 2 = .ok (.iconst 0, 1) := by decide +kernel
theorem dX4_hashCycles_3 : decode cX4_hashCycles 3 = .ok (.istore 5, 2) := by decide +kernel
theorem dX4_hashCycles_5 : decode cX4_hashCycles 5 = .ok (.iload 5, 2) := by decide +kernel
theorem dX4_hashCycles_7 : decode cX4_hashCycles 7 = .ok (.aload_n 0, 1) := by decide +kernel
theorem dX4_hashCycles_8 : decode cX4_hashCycles 8 = .ok (.getfield 25, 3) := by decide +kernel
theorem dX4_hashCycles_11 : decode cX4_hashCycles 11 = .ok (.getfield 219, 3) := by decide +kernel
theorem dX4_hashCycles_14 : decode cX4_hashCycles 14 = .ok (.if_icmp .ge 51, 3) := by decide +kernel
theorem dX4_hashCycles_17 : decode cX4_hashCycles 17 = .ok (.iconst 0, 1) := by decide +kernel
theorem dX4_hashCycles_18 : decode cX4_hashCycles 18 = .ok (.istore 6, 2) := by decide +kernel
theorem dX4_hashCycles_20 : decode cX4_hashCycles 20 = .ok (.iload 6, 2) := by decide +kernel
theorem dX4_hashCycles_22 : decode cX4_hashCycles 22 = .ok (.iconst 5, 1) := by decide +kernel
theorem dX4_hashCycles_23 : decode cX4_hashCycles 23 = .ok (.if_icmp .ge 22, 3) := by decide +kernel
theorem dX4_hashCycles_26 : decode cX4_hashCycles 26 = .ok (.lload_n 3, 1) := by decide +kernel
theorem dX4_hashCycles_27 : decode cX4_hashCycles 27 = .ok (.aload_n 0, 1) := by decide +kernel
theorem dX4_hashCycles_28 : decode cX4_hashCycles 28 = .ok (.iload 5, 2) := by decide +kernel
theorem dX4_hashCycles_30 : decode cX4_hashCycles 30 = .ok (.iload 6, 2) := by decide +kernel
theorem dX4_hashCycles_32 : decode cX4_hashCycles 32 = .ok (.invokevirtual 274, 3) := by decide +kernel
theorem dX4_hashCycles_35 : decode cX4_hashCycles 35 = .ok (.invokestatic 243, 3) := by decide +kernel
theorem dX4_hashCycles_38 : decode cX4_hashCycles 38 = .ok (.lstore_n 3, 1) := by decide +kernel
theorem dX4_hashCycles_39 : decode cX4_hashCycles 39 = .ok (.iinc 6 1, 3) := by decide +kernel
theorem dX4_hashCycles_42 : decode cX4_hashCycles 42 = .ok (.goto (-22), 3) := by decide +kernel
theorem dX4_hashCycles_45 : decode cX4_hashCycles 45 = .ok (.lload_n 3, 1) := by decide +kernel
theorem dX4_hashCycles_46 : decode cX4_hashCycles 46 = .ok (.aload_n 0, 1) := by decide +kernel
theorem dX4_hashCycles_47 : decode cX4_hashCycles 47 = .ok (.iload 5, 2) := by decide +kernel
theorem dX4_hashCycles_49 : decode cX4_hashCycles 49 = .ok (.sipush 997, 3) := by decide +kernel
theorem dX4_hashCycles_52 : decode cX4_hashCycles 52 = .ok (.invokevirtual 277, 3) := by decide +kernel
theorem dX4_hashCycles_55 : decode cX4_hashCycles 55 = .ok (.invokestatic 243, 3) := by decide +kernel
theorem dX4_hashCycles_58 : decode cX4_hashCycles 58 = .ok (.lstore_n 3, 1) := by decide +kernel
theorem dX4_hashCycles_59 : decode cX4_hashCycles 59 = .ok (.iinc 5 1, 3) := by decide +kernel
theorem dX4_hashCycles_62 : decode cX4_hashCycles 62 = .ok (.goto (-57), 3) := by decide +kernel
theorem dX4_hashCycles_65 : decode cX4_hashCycles 65 = .ok (.lload_n 3, 1) := by decide +kernel
theorem dX4_hashCycles_66 : decode cX4_hashCycles 66 = .ok (.lreturn, 1) := by decide +kernel
theorem dX4_mix_0 : decode cX4_mix 0 = .ok (.ldc2_w 280, 3) := by decide +kernel
theorem dX4_mix_3 : decode cX4_mix 3 = .ok (.lload_n 0, 1) := by decide +kernel
theorem dX4_mix_4 : decode cX4_mix 4 = .ok (.lmul, 1) := by decide +kernel
theorem dX4_mix_5 : decode cX4_mix 5 = .ok (.iload_n 2, 1) := by decide +kernel
theorem dX4_mix_6 : decode cX4_mix 6 = .ok (.i2l, 1) := by decide +kernel
theorem dX4_mix_7 : decode cX4_mix 7 = .ok (.ladd, 1) := by decide +kernel
theorem dX4_mix_8 : decode cX4_mix 8 = .ok (.lreturn, 1) := by decide +kernel
theorem dX4_roadAt_0 : decode cX4_roadAt 0 = .ok (.iload_n 1, 1) := by decide +kernel
theorem dX4_roadAt_1 : decode cX4_roadAt 1 = .ok (.ifCond .lt 29, 3) := by decide +kernel
theorem dX4_roadAt_4 : decode cX4_roadAt 4 = .ok (.iload_n 1, 1) := by decide +kernel
theorem dX4_roadAt_5 : decode cX4_roadAt 5 = .ok (.aload_n 0, 1) := by decide +kernel
theorem dX4_roadAt_6 : decode cX4_roadAt 6 = .ok (.getfield 148, 3) := by decide +kernel
theorem dX4_roadAt_9 : decode cX4_roadAt 9 = .ok (.if_icmp .ge 21, 3) := by decide +kernel
theorem dX4_roadAt_12 : decode cX4_roadAt 12 = .ok (.iload_n 1, 1) := by decide +kernel
theorem dX4_roadAt_13 : decode cX4_roadAt 13 = .ok (.aload_n 0, 1) := by decide +kernel
theorem dX4_roadAt_14 : decode cX4_roadAt 14 = .ok (.getfield 18, 3) := by decide +kernel
theorem dX4_roadAt_17 : decode cX4_roadAt 17 = .ok (.arraylength, 1) := by decide +kernel
theorem dX4_roadAt_18 : decode cX4_roadAt 18 = .ok (.if_icmp .ge 12, 3) := by decide +kernel
theorem dX4_roadAt_21 : decode cX4_roadAt 21 = .ok (.aload_n 0, 1) := by decide +kernel
theorem dX4_roadAt_22 : decode cX4_roadAt 22 = .ok (.getfield 18, 3) := by decide +kernel
theorem dX4_roadAt_25 : decode cX4_roadAt 25 = .ok (.iload_n 1, 1) := by decide +kernel
theorem dX4_roadAt_26 : decode cX4_roadAt 26 = .ok (.aaload, 1) := by decide +kernel
theorem dX4_roadAt_27 : decode cX4_roadAt 27 = .ok (.goto 4, 3) := by decide +kernel
theorem dX4_roadAt_30 : decode cX4_roadAt 30 = .ok (.aconst_null, 1) := by decide +kernel
theorem dX4_roadAt_31 : decode cX4_roadAt 31 = .ok (.areturn, 1) := by decide +kernel
set_option maxRecDepth 20000 in
theorem ggX4_addRoad_X3_init : GoodIn wsX4_addRoad wsX3_init := goodIn_r _ [10, 11, 12, 13, 14, 15, 16, 7, 17, 18, 19, 20, 21, 22, 23, 24, 25, 26, 27, 28, 35, 36, 37, 38, 39, 40, 41] (by decide +kernel) (by decide +kernel)
set_option maxRecDepth 20000 in
theorem gX4_addRoad_X3_init : GoodIn wsX4_addRoad (wsX3_init) := ggX4_addRoad_X3_init
theorem dX4_addRoad_0 : decode cX4_addRoad 0 = .ok (.iload_n 2, 1) := by decide +kernel
theorem dX4_addRoad_1 : decode cX4_addRoad 1 = .ok (.bipush 20, 2) := by decide +kernel
theorem dX4_addRoad_3 : decode cX4_addRoad 3 = .ok (.if_icmp .le 6, 3) := by decide +kernel
theorem dX4_addRoad_6 : decode cX4_addRoad 6 = .ok (.ldc 56, 2) := by decide +kernel
theorem dX4_addRoad_8 : decode cX4_addRoad 8 = .ok (.ireturn, 1) := by decide +kernel
theorem dX4_addRoad_9 : decode cX4_addRoad 9 = .ok (.aload_n 0, 1) := by decide +kernel
theorem dX4_addRoad_10 : decode cX4_addRoad 10 = .ok (.getfield 148, 3) := by decide +kernel
theorem dX4_addRoad_13 : decode cX4_addRoad 13 = .ok (.ifCond .lt 15, 3) := by decide +kernel
theorem dX4_addRoad_16 : decode cX4_addRoad 16 = .ok (.aload_n 0, 1) := by decide +kernel
theorem dX4_addRoad_17 : decode cX4_addRoad 17 = .ok (.getfield 148, 3) := by decide +kernel
theorem dX4_addRoad_20 : decode cX4_addRoad 20 = .ok (.aload_n 0, 1) := by decide +kernel
theorem dX4_addRoad_21 : decode cX4_addRoad 21 = .ok (.getfield 18, 3) := by decide +kernel
theorem dX4_addRoad_24 : decode cX4_addRoad 24 = .ok (.arraylength, 1) := by decide +kernel
theorem dX4_addRoad_25 : decode cX4_addRoad 25 = .ok (.if_icmp .lt 6, 3) := by decide +kernel
theorem dX4_addRoad_28 : decode cX4_addRoad 28 = .ok (.ldc 41, 2) := by decide +kernel
theorem dX4_addRoad_30 : decode cX4_addRoad 30 = .ok (.ireturn, 1) := by decide +kernel
theorem dX4_addRoad_31 : decode cX4_addRoad 31 = .ok (.aload_n 0, 1) := by decide +kernel
theorem dX4_addRoad_32 : decode cX4_addRoad 32 = .ok (.getfield 148, 3) := by decide +kernel
theorem dX4_addRoad_35 : decode cX4_addRoad 35 = .ok (.istore_n 3, 1) := by decide +kernel
theorem dX4_addRoad_36 : decode cX4_addRoad 36 = .ok (.aload_n 0, 1) := by decide +kernel
theorem dX4_addRoad_37 : decode cX4_addRoad 37 = .ok (.getfield 18, 3) := by decide +kernel
theorem dX4_addRoad_40 : decode cX4_addRoad 40 = .ok (.iload_n 3, 1) := by decide +kernel
theorem dX4_addRoad_41 : decode cX4_addRoad 41 = .ok (.new 16, 3) := by decide +kernel
theorem dX4_addRoad_44 : decode cX4_addRoad 44 = .ok (.dup, 1) := by decide +kernel
theorem dX4_addRoad_45 : decode cX4_addRoad 45 = .ok (.iload_n 1, 1) := by decide +kernel
theorem dX4_addRoad_46 : decode cX4_addRoad 46 = .ok (.iload_n 2, 1) := by decide +kernel
theorem dX4_addRoad_47 : decode cX4_addRoad 47 = .ok (.invokespecial 282, 3) := by decide +kernel
theorem dX4_addRoad_50 : decode cX4_addRoad 50 = .ok (.aastore, 1) := by decide +kernel
theorem dX4_addRoad_51 : decode cX4_addRoad 51 = .ok (.aload_n 0, 1) := by decide +kernel
theorem dX4_addRoad_52 : decode cX4_addRoad 52 = .ok (.dup, 1) := by decide +kernel
theorem dX4_addRoad_53 : decode cX4_addRoad 53 = .ok (.getfield 148, 3) := by decide +kernel
theorem dX4_addRoad_56 : decode cX4_addRoad 56 = .ok (.iconst 1, 1) := by decide +kernel
theorem dX4_addRoad_57 : decode cX4_addRoad 57 = .ok (.iadd, 1) := by decide +kernel
theorem dX4_addRoad_58 : decode cX4_addRoad 58 = .ok (.putfield 148, 3) := by decide +kernel
theorem dX4_addRoad_61 : decode cX4_addRoad 61 = .ok (.iload_n 3, 1) := by decide +kernel
theorem dX4_addRoad_62 : decode cX4_addRoad 62 = .ok (.ireturn, 1) := by decide +kernel
set_option maxRecDepth 20000 in
theorem ggX4_isClosedRoad_X4_roadAt : GoodIn wsX4_isClosedRoad wsX4_roadAt := goodIn_r _ [5, 6, 7, 15, 16, 17, 18, 19, 20] (by decide +kernel) (by decide +kernel)
set_option maxRecDepth 20000 in
theorem gX4_isClosedRoad_X4_roadAt : GoodIn wsX4_isClosedRoad (wsV RX4 70 RX4 yX4_roadAt wsX4_roadAt) := goodIn_app (goodIn_of _ (by decide +kernel)) ggX4_isClosedRoad_X4_roadAt
set_option maxRecDepth 20000 in
theorem ggX4_isClosedRoad_X3_isClosed : GoodIn wsX4_isClosedRoad wsX3_isClosed := goodIn_r _ [12, 13, 14, 21, 22, 23, 24, 25, 26, 27] (by decide +kernel) (by decide +kernel)
set_option maxRecDepth 20000 in
theorem gX4_isClosedRoad_X3_isClosed : GoodIn wsX4_isClosedRoad (wsV RX4 93 RX3 yX3_isClosed wsX3_isClosed) := goodIn_app (goodIn_of _ (by decide +kernel)) ggX4_isClosedRoad_X3_isClosed
theorem dX4_isClosedRoad_0 : decode cX4_isClosedRoad 0 = .ok (.aload_n 0, 1) := by decide +kernel
theorem dX4_isClosedRoad_1 : decode cX4_isClosedRoad 1 = .ok (.iload_n 1, 1) := by decide +kernel
theorem dX4_isClosedRoad_2 : decode cX4_isClosedRoad 2 = .ok (.invokevirtual 70, 3) := by decide +kernel
theorem dX4_isClosedRoad_5 : decode cX4_isClosedRoad 5 = .ok (.astore_n 2, 1) := by decide +kernel
theorem dX4_isClosedRoad_6 : decode cX4_isClosedRoad 6 = .ok (.aload_n 2, 1) := by decide +kernel
theorem dX4_isClosedRoad_7 : decode cX4_isClosedRoad 7 = .ok (.ifnull 14, 3) := by decide +kernel
theorem dX4_isClosedRoad_10 : decode cX4_isClosedRoad 10 = .ok (.aload_n 2, 1) := by decide +kernel
theorem dX4_isClosedRoad_11 : decode cX4_isClosedRoad 11 = .ok (.invokevirtual 93, 3) := by decide +kernel
theorem dX4_isClosedRoad_14 : decode cX4_isClosedRoad 14 = .ok (.ifCond .eq 7, 3) := by decide +kernel
theorem dX4_isClosedRoad_17 : decode cX4_isClosedRoad 17 = .ok (.iconst 1, 1) := by decide +kernel
theorem dX4_isClosedRoad_18 : decode cX4_isClosedRoad 18 = .ok (.goto 4, 3) := by decide +kernel
theorem dX4_isClosedRoad_21 : decode cX4_isClosedRoad 21 = .ok (.iconst 0, 1) := by decide +kernel
theorem dX4_isClosedRoad_22 : decode cX4_isClosedRoad 22 = .ok (.ireturn, 1) := by decide +kernel
set_option maxRecDepth 20000 in
theorem ggX4_closedRoads_X4_isClosedRoad : GoodIn wsX4_closedRoads wsX4_isClosedRoad := goodIn_r _ [6, 7, 8, 9, 5, 10, 1, 11, 12, 13, 14, 15, 16, 17, 18, 19, 20, 21, 22, 23, 24, 25, 26, 27, 28, 29, 30, 31] (by decide +kernel) (by decide +kernel)
set_option maxRecDepth 20000 in
theorem gX4_closedRoads_X4_isClosedRoad : GoodIn wsX4_closedRoads (wsV RX4 262 RX4 yX4_isClosedRoad wsX4_isClosedRoad) := goodIn_app (goodIn_of _ (by decide +kernel)) ggX4_closedRoads_X4_isClosedRoad
theorem dX4_closedRoads_0 : decode cX4_closedRoads 0 = .ok (.iconst 0, 1) := by decide +kernel
theorem dX4_closedRoads_1 : decode cX4_closedRoads 1 = .ok (.istore_n 1, 1) := by decide +kernel
theorem dX4_closedRoads_2 : decode cX4_closedRoads 2 = .ok (.iconst 0, 1) := by decide +kernel
theorem dX4_closedRoads_3 : decode cX4_closedRoads 3 = .ok (.istore_n 2, 1) := by decide +kernel
theorem dX4_closedRoads_4 : decode cX4_closedRoads 4 = .ok (.iload_n 2, 1) := by decide +kernel
theorem dX4_closedRoads_5 : decode cX4_closedRoads 5 = .ok (.aload_n 0, 1) := by decide +kernel
theorem dX4_closedRoads_6 : decode cX4_closedRoads 6 = .ok (.getfield 148, 3) := by decide +kernel
theorem dX4_closedRoads_9 : decode cX4_closedRoads 9 = .ok (.if_icmp .ge 20, 3) := by decide +kernel
theorem dX4_closedRoads_12 : decode cX4_closedRoads 12 = .ok (.aload_n 0, 1) := by decide +kernel
theorem dX4_closedRoads_13 : decode cX4_closedRoads 13 = .ok (.iload_n 2, 1) := by decide +kernel
theorem dX4_closedRoads_14 : decode cX4_closedRoads 14 = .ok (.invokevirtual 262, 3) := by decide +kernel
theorem dX4_closedRoads_17 : decode cX4_closedRoads 17 = .ok (.ifCond .eq 6, 3) := by decide +kernel
theorem dX4_closedRoads_20 : decode cX4_closedRoads 20 = .ok (.iinc 1 1, 3) := by decide +kernel
theorem dX4_closedRoads_23 : decode cX4_closedRoads 23 = .ok (.iinc 2 1, 3) := by decide +kernel
theorem dX4_closedRoads_26 : decode cX4_closedRoads 26 = .ok (.goto (-22), 3) := by decide +kernel
theorem dX4_closedRoads_29 : decode cX4_closedRoads 29 = .ok (.iload_n 1, 1) := by decide +kernel
theorem dX4_closedRoads_30 : decode cX4_closedRoads 30 = .ok (.ireturn, 1) := by decide +kernel
set_option maxRecDepth 20000 in
theorem ggX4_roadClasses_X4_isFirstOfClass : GoodIn wsX4_roadClasses wsX4_isFirstOfClass := goodIn_r _ [6, 7, 8, 9, 5, 10, 11, 12, 13, 14, 15, 16, 17, 18, 1, 19, 20, 21, 22, 23, 24, 25, 26, 27, 28, 29, 30, 31, 32, 39, 40, 41, 42, 43, 44, 45, 33, 34, 35, 36, 37, 38] (by decide +kernel) (by decide +kernel)
set_option maxRecDepth 20000 in
theorem gX4_roadClasses_X4_isFirstOfClass : GoodIn wsX4_roadClasses (wsV RX4 284 RX4 yX4_isFirstOfClass wsX4_isFirstOfClass) := goodIn_app (goodIn_of _ (by decide +kernel)) ggX4_roadClasses_X4_isFirstOfClass
theorem dX4_roadClasses_0 : decode cX4_roadClasses 0 = .ok (.iconst 0, 1) := by decide +kernel
theorem dX4_roadClasses_1 : decode cX4_roadClasses 1 = .ok (.istore_n 1, 1) := by decide +kernel
theorem dX4_roadClasses_2 : decode cX4_roadClasses 2 = .ok (.iconst 0, 1) := by decide +kernel
theorem dX4_roadClasses_3 : decode cX4_roadClasses 3 = .ok (.istore_n 2, 1) := by decide +kernel
theorem dX4_roadClasses_4 : decode cX4_roadClasses 4 = .ok (.iload_n 2, 1) := by decide +kernel
theorem dX4_roadClasses_5 : decode cX4_roadClasses 5 = .ok (.aload_n 0, 1) := by decide +kernel
theorem dX4_roadClasses_6 : decode cX4_roadClasses 6 = .ok (.getfield 148, 3) := by decide +kernel
theorem dX4_roadClasses_9 : decode cX4_roadClasses 9 = .ok (.if_icmp .ge 20, 3) := by decide +kernel
theorem dX4_roadClasses_12 : decode cX4_roadClasses 12 = .ok (.aload_n 0, 1) := by decide +kernel
theorem dX4_roadClasses_13 : decode cX4_roadClasses 13 = .ok (.iload_n 2, 1) := by decide +kernel
theorem dX4_roadClasses_14 : decode cX4_roadClasses 14 = .ok (.invokevirtual 284, 3) := by decide +kernel
theorem dX4_roadClasses_17 : decode cX4_roadClasses 17 = .ok (.ifCond .eq 6, 3) := by decide +kernel
theorem dX4_roadClasses_20 : decode cX4_roadClasses 20 = .ok (.iinc 1 1, 3) := by decide +kernel
theorem dX4_roadClasses_23 : decode cX4_roadClasses 23 = .ok (.iinc 2 1, 3) := by decide +kernel
theorem dX4_roadClasses_26 : decode cX4_roadClasses 26 = .ok (.goto (-22), 3) := by decide +kernel
theorem dX4_roadClasses_29 : decode cX4_roadClasses 29 = .ok (.iload_n 1, 1) := by decide +kernel
theorem dX4_roadClasses_30 : decode cX4_roadClasses 30 = .ok (.ireturn, 1) := by decide +kernel
set_option maxRecDepth 20000 in
theorem ggX4_isFirstOfClass_X4_alike : GoodIn wsX4_isFirstOfClass wsX4_alike := goodIn_r _ [5, 6, 7, 8, 9, 10, 11, 12, 4, 13, 14, 15, 16, 17, 18, 19, 20, 21, 22, 23, 24, 25, 26, 27, 28, 29, 30, 31, 32, 33, 34, 35, 36, 37, 38, 39, 40, 41] (by decide +kernel) (by decide +kernel)
set_option maxRecDepth 20000 in
theorem gX4_isFirstOfClass_X4_alike : GoodIn wsX4_isFirstOfClass (wsV RX4 287 RX4 yX4_alike wsX4_alike) := goodIn_app (goodIn_of _ (by decide +kernel)) ggX4_isFirstOfClass_X4_alike
theorem dX4_isFirstOfClass_0 : decode cX4_isFirstOfClass 0 = .ok (.iconst 0, 1) := by decide +kernel
theorem dX4_isFirstOfClass_1 : decode cX4_isFirstOfClass 1 = .ok (.istore_n 2, 1) := by decide +kernel
theorem dX4_isFirstOfClass_2 : decode cX4_isFirstOfClass 2 = .ok (.iload_n 2, 1) := by decide +kernel
theorem dX4_isFirstOfClass_3 : decode cX4_isFirstOfClass 3 = .ok (.iload_n 1, 1) := by decide +kernel
theorem dX4_isFirstOfClass_4 : decode cX4_isFirstOfClass 4 = .ok (.if_icmp .ge 20, 3) := by decide +kernel
