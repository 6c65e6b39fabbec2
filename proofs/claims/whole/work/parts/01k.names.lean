set_option maxRecDepth 20000 in
theorem gX5_mixRiver_X5_mix : GoodIn wsX5_mixRiver (wsV RX5 311 RX5 yX5_mix wsX5_mix) := goodIn_app (goodIn_of _ (by decide +kernel)) ggX5_mixRiver_X5_mix
set_option maxRecDepth 20000 in
theorem ggX5_mixRiver_X5_cycleNow : GoodIn wsX5_mixRiver wsX5_cycleNow := goodIn_r _ [34, 35, 11, 36, 37, 38, 6, 39, 1, 40, 41, 42, 43, 13, 14, 15, 16, 8, 9, 10, 3, 4, 5, 7, 12, 17, 18, 19, 20, 21, 22, 23, 24, 48, 49, 50, 51, 52, 53, 54, 55, 56, 57, 58, 59, 60, 61, 62, 63, 64, 65, 66, 67, 68, 69, 70, 71, 72, 73, 74, 75, 76, 77, 78, 79, 80, 81, 82] (by decide +kernel) (by decide +kernel)
set_option maxRecDepth 20000 in
theorem gX5_mixRiver_X5_cycleNow : GoodIn wsX5_mixRiver (wsV RX5 248 RX5 yX5_cycleNow wsX5_cycleNow) := goodIn_app (goodIn_of _ (by decide +kernel)) ggX5_mixRiver_X5_cycleNow
set_option maxRecDepth 20000 in
theorem ggX5_mixRiver_X5_traceOf : GoodIn wsX5_mixRiver wsX5_traceOf := goodIn_r _ [47, 35, 12, 13, 14, 15, 6, 16, 8, 9, 10, 48, 49, 50, 51, 52, 53, 54, 55, 56, 57, 58, 59, 60, 61, 62, 63, 64, 65, 66, 67, 68, 69, 70, 71, 72, 73, 74, 75, 76, 77, 78, 79, 80, 81, 82] (by decide +kernel) (by decide +kernel)
set_option maxRecDepth 20000 in
theorem gX5_mixRiver_X5_traceOf : GoodIn wsX5_mixRiver (wsV RX5 254 RX5 yX5_traceOf wsX5_traceOf) := goodIn_app (goodIn_of _ (by decide +kernel)) ggX5_mixRiver_X5_traceOf
theorem dX5_mixRiver_0 : decode cX5_mixRiver 0 = .ok (.iconst 0, 1) := by decide +kernel
theorem dX5_mixRiver_1 : decode cX5_mixRiver 1 = .ok (.istore_n 1, 1) := by decide +kernel
theorem dX5_mixRiver_2 : decode cX5_mixRiver 2 = .ok (.iload_n 1, 1) := by decide +kernel
theorem dX5_mixRiver_3 : decode cX5_mixRiver 3 = .ok (.bipush 8, 2) := by decide +kernel
theorem dX5_mixRiver_5 : decode cX5_mixRiver 5 = .ok (.aload_n 0, 1) := by decide +kernel
theorem dX5_mixRiver_6 : decode cX5_mixRiver 6 = .ok (.getfield 212, 3) := by decide +kernel
theorem dX5_mixRiver_9 : decode cX5_mixRiver 9 = .ok (.imul, 1) := by decide +kernel
theorem dX5_mixRiver_10 : decode cX5_mixRiver 10 = .ok (.if_icmp .ge 26, 3) := by decide +kernel
theorem dX5_mixRiver_13 : decode cX5_mixRiver 13 = .ok (.aload_n 0, 1) := by decide +kernel
theorem dX5_mixRiver_14 : decode cX5_mixRiver 14 = .ok (.aload_n 0, 1) := by decide +kernel
theorem dX5_mixRiver_15 : decode cX5_mixRiver 15 = .ok (.iload_n 1, 1) := by decide +kernel
theorem dX5_mixRiver_16 : decode cX5_mixRiver 16 = .ok (.bipush 8, 2) := by decide +kernel
theorem dX5_mixRiver_18 : decode cX5_mixRiver 18 = .ok (.idiv, 1) := by decide +kernel
theorem dX5_mixRiver_19 : decode cX5_mixRiver 19 = .ok (.iload_n 1, 1) := by decide +kernel
theorem dX5_mixRiver_20 : decode cX5_mixRiver 20 = .ok (.bipush 8, 2) := by decide +kernel
theorem dX5_mixRiver_22 : decode cX5_mixRiver 22 = .ok (.irem, 1) := by decide +kernel
theorem dX5_mixRiver_23 : decode cX5_mixRiver 23 = .ok (.invokevirtual 236, 3) := by decide +kernel
theorem dX5_mixRiver_26 : decode cX5_mixRiver 26 = .ok (.i2l, 1) := by decide +kernel
theorem dX5_mixRiver_27 : decode cX5_mixRiver 27 = .ok (.invokevirtual 311, 3) := by decide +kernel
theorem dX5_mixRiver_30 : decode cX5_mixRiver 30 = .ok (.iinc 1 1, 3) := by decide +kernel
theorem dX5_mixRiver_33 : decode cX5_mixRiver 33 = .ok (.goto (-31), 3) := by decide +kernel
theorem dX5_mixRiver_36 : decode cX5_mixRiver 36 = .ok (.iconst 0, 1) := by decide +kernel
theorem dX5_mixRiver_37 : decode cX5_mixRiver 37 = .ok (.istore_n 1, 1) := by decide +kernel
theorem dX5_mixRiver_38 : decode cX5_mixRiver 38 = .ok (.iload_n 1, 1) := by decide +kernel
theorem dX5_mixRiver_39 : decode cX5_mixRiver 39 = .ok (.aload_n 0, 1) := by decide +kernel
theorem dX5_mixRiver_40 : decode cX5_mixRiver 40 = .ok (.getfield 224, 3) := by decide +kernel
theorem dX5_mixRiver_43 : decode cX5_mixRiver 43 = .ok (.if_icmp .ge 46, 3) := by decide +kernel
theorem dX5_mixRiver_46 : decode cX5_mixRiver 46 = .ok (.iconst 0, 1) := by decide +kernel
theorem dX5_mixRiver_47 : decode cX5_mixRiver 47 = .ok (.istore_n 2, 1) := by decide +kernel
theorem dX5_mixRiver_48 : decode cX5_mixRiver 48 = .ok (.iload_n 2, 1) := by decide +kernel
theorem dX5_mixRiver_49 : decode cX5_mixRiver 49 = .ok (.iconst 5, 1) := by decide +kernel
theorem dX5_mixRiver_50 : decode cX5_mixRiver 50 = .ok (.if_icmp .ge 20, 3) := by decide +kernel
theorem dX5_mixRiver_53 : decode cX5_mixRiver 53 = .ok (.aload_n 0, 1) := by decide +kernel
theorem dX5_mixRiver_54 : decode cX5_mixRiver 54 = .ok (.aload_n 0, 1) := by decide +kernel
theorem dX5_mixRiver_55 : decode cX5_mixRiver 55 = .ok (.iload_n 1, 1) := by decide +kernel
theorem dX5_mixRiver_56 : decode cX5_mixRiver 56 = .ok (.iload_n 2, 1) := by decide +kernel
theorem dX5_mixRiver_57 : decode cX5_mixRiver 57 = .ok (.invokevirtual 248, 3) := by decide +kernel
theorem dX5_mixRiver_60 : decode cX5_mixRiver 60 = .ok (.i2l, 1) := by decide +kernel
theorem dX5_mixRiver_61 : decode cX5_mixRiver 61 = .ok (.invokevirtual 311, 3) := by decide +kernel
theorem dX5_mixRiver_64 : decode cX5_mixRiver 64 = .ok (.iinc 2 1, 3) := by decide +kernel
theorem dX5_mixRiver_67 : decode cX5_mixRiver 67 = .ok (.goto (-19), 3) := by decide +kernel
theorem dX5_mixRiver_70 : decode cX5_mixRiver 70 = .ok (.aload_n 0, 1) := by decide +kernel
theorem dX5_mixRiver_71 : decode cX5_mixRiver 71 = .ok (.aload_n 0, 1) := by decide +kernel
theorem dX5_mixRiver_72 : decode cX5_mixRiver 72 = .ok (.iload_n 1, 1) := by decide +kernel
theorem dX5_mixRiver_73 : decode cX5_mixRiver 73 = .ok (.sipush 997, 3) := by decide +kernel
theorem dX5_mixRiver_76 : decode cX5_mixRiver 76 = .ok (.invokevirtual 254, 3) := by decide +kernel
theorem dX5_mixRiver_79 : decode cX5_mixRiver 79 = .ok (.i2l, 1) := by decide +kernel
theorem dX5_mixRiver_80 : decode cX5_mixRiver 80 = .ok (.invokevirtual 311, 3) := by decide +kernel
theorem dX5_mixRiver_83 : decode cX5_mixRiver 83 = .ok (.iinc 1 1, 3) := by decide +kernel
theorem dX5_mixRiver_86 : decode cX5_mixRiver 86 = .ok (.goto (-48), 3) := by decide +kernel
theorem dX5_mixRiver_89 : decode cX5_mixRiver 89 = .ok (.return_, 1) := by decide +kernel
set_option maxRecDepth 20000 in
theorem ggX5_digest_X5_mixRoad : GoodIn wsX5_digest wsX5_mixRoad := goodIn_r _ [10, 11, 12, 13, 14, 15, 9, 16, 17, 18, 19, 20, 21, 22, 23, 24, 25, 26, 27, 28, 29, 30, 31, 32, 33, 34, 35, 36, 37, 38, 39, 40, 41, 42, 43, 44, 45, 46, 47, 48, 49, 50, 51, 52, 53, 54, 55, 56, 57, 58, 59, 60, 61, 62, 63, 64, 65, 66, 67, 68, 69, 70, 71, 72, 73, 74, 2, 75, 76, 77, 78, 79, 80, 81, 82, 83, 84, 85, 86, 87, 88, 89, 90, 91, 92, 93, 94, 95, 96, 97, 98, 99, 100, 101, 102, 103, 104, 105, 106, 107, 108, 109, 110, 185, 186, 187, 188, 189, 190, 191, 192, 193, 194, 195, 196, 197, 198, 199, 200, 201, 202, 203, 204, 205, 206, 207, 208, 209, 210, 211, 212, 213, 214, 215, 216, 217, 218, 219] (by decide +kernel) (by decide +kernel)
set_option maxRecDepth 20000 in
theorem gX5_digest_X5_mixRoad : GoodIn wsX5_digest (wsV RX5 317 RX5 yX5_mixRoad wsX5_mixRoad) := goodIn_app (goodIn_of _ (by decide +kernel)) ggX5_digest_X5_mixRoad
set_option maxRecDepth 20000 in
theorem ggX5_digest_X5_mixCrossings : GoodIn wsX5_digest wsX5_mixCrossings := goodIn_r _ [114, 3, 86, 87, 88, 9, 89, 18, 19, 20, 21, 11, 17, 22, 12, 51, 52, 53, 54, 23, 24, 25, 26, 115, 116, 117, 118, 60, 61, 62, 63, 64, 65, 119, 120, 121, 122, 123, 124, 125, 126, 70, 71, 72, 73, 74, 2, 185, 186, 187, 188, 189, 190, 191, 192, 193, 194, 195, 196, 197, 198, 199, 200, 201, 202, 203, 204, 205, 206, 207, 208, 209, 210, 211, 212, 213, 214, 215, 216, 217, 218, 219] (by decide +kernel) (by decide +kernel)
set_option maxRecDepth 20000 in
theorem gX5_digest_X5_mixCrossings : GoodIn wsX5_digest (wsV RX5 320 RX5 yX5_mixCrossings wsX5_mixCrossings) := goodIn_app (goodIn_of _ (by decide +kernel)) ggX5_digest_X5_mixCrossings
set_option maxRecDepth 20000 in
theorem ggX5_digest_X5_mixRiver : GoodIn wsX5_digest wsX5_mixRiver := goodIn_r _ [130, 131, 132, 133, 134, 135, 9, 136, 137, 138, 139, 140, 141, 142, 143, 144, 145, 75, 76, 77, 146, 147, 148, 149, 59, 70, 71, 72, 73, 74, 2, 150, 151, 152, 153, 154, 155, 156, 157, 158, 159, 160, 161, 162, 163, 164, 165, 166, 185, 186, 187, 188, 189, 190, 191, 192, 193, 194, 195, 196, 197, 198, 199, 200, 201, 202, 203, 204, 205, 206, 207, 208, 209, 210, 211, 212, 213, 214, 215, 216, 217, 218, 219] (by decide +kernel) (by decide +kernel)
set_option maxRecDepth 20000 in
theorem gX5_digest_X5_mixRiver : GoodIn wsX5_digest (wsV RX5 323 RX5 yX5_mixRiver wsX5_mixRiver) := goodIn_app (goodIn_of _ (by decide +kernel)) ggX5_digest_X5_mixRiver
set_option maxRecDepth 20000 in
theorem ggX5_digest_X5_mix : GoodIn wsX5_digest wsX5_mix := goodIn_r _ [73, 74, 2, 185, 186, 187, 188, 189, 190, 191, 192, 193, 194, 195, 196, 197, 198, 199, 200, 201, 202, 203, 204, 205, 206, 207, 208, 209, 210, 211, 212, 213, 214, 215, 216, 217, 218, 219] (by decide +kernel) (by decide +kernel)
set_option maxRecDepth 20000 in
theorem gX5_digest_X5_mix : GoodIn wsX5_digest (wsV RX5 311 RX5 yX5_mix wsX5_mix) := goodIn_app (goodIn_of _ (by decide +kernel)) ggX5_digest_X5_mix
set_option maxRecDepth 20000 in
theorem ggX5_digest_X5_howMany : GoodIn wsX5_digest wsX5_howMany := goodIn_r _ [170, 3, 4, 171, 131, 132, 172, 173, 174, 175, 9, 176, 86, 87, 88, 89, 18, 19, 20, 21, 11, 17, 22, 12, 51, 52, 53, 54, 23, 24, 25, 26, 177, 178, 179, 180, 59, 181, 182, 183, 184, 60, 61, 62, 63, 64, 65, 66, 67, 68, 69, 185, 186, 187, 188, 189, 190, 191, 192, 193, 194, 195, 196, 197, 198, 199, 200, 201, 202, 203, 204, 205, 206, 207, 208, 209, 210, 211, 212, 213, 214, 215, 216, 217, 218, 219] (by decide +kernel) (by decide +kernel)
set_option maxRecDepth 20000 in
theorem gX5_digest_X5_howMany : GoodIn wsX5_digest (wsV RX5 303 RX5 yX5_howMany wsX5_howMany) := goodIn_app (goodIn_of _ (by decide +kernel)) ggX5_digest_X5_howMany
theorem dX5_digest_0 : decode cX5_digest 0 = .ok (.aload_n 0, 1) := by decide +kernel
theorem dX5_digest_1 : decode cX5_digest 1 = .ok (.ldc2_w 315, 3) := by decide +kernel
theorem dX5_digest_4 : decode cX5_digest 4 = .ok (.putfield 308, 3) := by decide +kernel
theorem dX5_digest_7 : decode cX5_digest 7 = .ok (.iconst 0, 1) := by decide +kernel
theorem dX5_digest_8 : decode cX5_digest 8 = .ok (.istore_n 1, 1) := by decide +kernel
theorem dX5_digest_9 : decode cX5_digest 9 = .ok (.iload_n 1, 1) := by decide +kernel
theorem dX5_digest_10 : decode cX5_digest 10 = .ok (.aload_n 0, 1) := by decide +kernel
theorem dX5_digest_11 : decode cX5_digest 11 = .ok (.getfield 75, 3) := by decide +kernel
theorem dX5_digest_14 : decode cX5_digest 14 = .ok (.if_icmp .ge 14, 3) := by decide +kernel
theorem dX5_digest_17 : decode cX5_digest 17 = .ok (.aload_n 0, 1) := by decide +kernel
theorem dX5_digest_18 : decode cX5_digest 18 = .ok (.iload_n 1, 1) := by decide +kernel
theorem dX5_digest_19 : decode cX5_digest 19 = .ok (.invokevirtual 317, 3) := by decide +kernel
theorem dX5_digest_22 : decode cX5_digest 22 = .ok (.iinc 1 1, 3) := by decide +kernel
theorem dX5_digest_25 : decode cX5_digest 25 = .ok (.goto (-16), 3) := by decide +kernel
theorem dX5_digest_28 : decode cX5_digest 28 = .ok (.aload_n 0, 1) := by decide +kernel
theorem dX5_digest_29 : decode cX5_digest 29 = .ok (.invokevirtual 320, 3) := by decide +kernel
theorem dX5_digest_32 : decode cX5_digest 32 = .ok (.aload_n 0, 1) := by decide +kernel
theorem dX5_digest_33 : decode cX5_digest 33 = .ok (.invokevirtual 323, 3) := by decide +kernel
theorem dX5_digest_36 : decode cX5_digest 36 = .ok (.iconst 0, 1) := by decide +kernel
theorem dX5_digest_37 : decode cX5_digest 37 = .ok (.istore_n 1, 1) := by decide +kernel
theorem dX5_digest_38 : decode cX5_digest 38 = .ok (.iload_n 1, 1) := by decide +kernel
theorem dX5_digest_39 : decode cX5_digest 39 = .ok (.aload_n 0, 1) := by decide +kernel
theorem dX5_digest_40 : decode cX5_digest 40 = .ok (.getfield 55, 3) := by decide +kernel
theorem dX5_digest_43 : decode cX5_digest 43 = .ok (.if_icmp .ge 20, 3) := by decide +kernel
theorem dX5_digest_46 : decode cX5_digest 46 = .ok (.aload_n 0, 1) := by decide +kernel
theorem dX5_digest_47 : decode cX5_digest 47 = .ok (.aload_n 0, 1) := by decide +kernel
theorem dX5_digest_48 : decode cX5_digest 48 = .ok (.getfield 7, 3) := by decide +kernel
theorem dX5_digest_51 : decode cX5_digest 51 = .ok (.iload_n 1, 1) := by decide +kernel
theorem dX5_digest_52 : decode cX5_digest 52 = .ok (.iaload, 1) := by decide +kernel
theorem dX5_digest_53 : decode cX5_digest 53 = .ok (.i2l, 1) := by decide +kernel
theorem dX5_digest_54 : decode cX5_digest 54 = .ok (.invokevirtual 311, 3) := by decide +kernel
theorem dX5_digest_57 : decode cX5_digest 57 = .ok (.iinc 1 1, 3) := by decide +kernel
theorem dX5_digest_60 : decode cX5_digest 60 = .ok (.goto (-22), 3) := by decide +kernel
theorem dX5_digest_63 : decode cX5_digest 63 = .ok (.iconst 0, 1) := by decide +kernel
theorem dX5_digest_64 : decode cX5_digest 64 = .ok (.istore_n 1, 1) := by decide +kernel
theorem dX5_digest_65 : decode cX5_digest 65 = .ok (.iload_n 1, 1) := by decide +kernel
theorem dX5_digest_66 : decode cX5_digest 66 = .ok (.bipush 7, 2) := by decide +kernel
theorem dX5_digest_68 : decode cX5_digest 68 = .ok (.if_icmp .ge 19, 3) := by decide +kernel
theorem dX5_digest_71 : decode cX5_digest 71 = .ok (.aload_n 0, 1) := by decide +kernel
theorem dX5_digest_72 : decode cX5_digest 72 = .ok (.aload_n 0, 1) := by decide +kernel
theorem dX5_digest_73 : decode cX5_digest 73 = .ok (.iload_n 1, 1) := by decide +kernel
theorem dX5_digest_74 : decode cX5_digest 74 = .ok (.invokevirtual 303, 3) := by decide +kernel
theorem dX5_digest_77 : decode cX5_digest 77 = .ok (.i2l, 1) := by decide +kernel
theorem dX5_digest_78 : decode cX5_digest 78 = .ok (.invokevirtual 311, 3) := by decide +kernel
theorem dX5_digest_81 : decode cX5_digest 81 = .ok (.iinc 1 1, 3) := by decide +kernel
theorem dX5_digest_84 : decode cX5_digest 84 = .ok (.goto (-19), 3) := by decide +kernel
theorem dX5_digest_87 : decode cX5_digest 87 = .ok (.aload_n 0, 1) := by decide +kernel
theorem dX5_digest_88 : decode cX5_digest 88 = .ok (.getfield 308, 3) := by decide +kernel
theorem dX5_digest_91 : decode cX5_digest 91 = .ok (.lreturn, 1) := by decide +kernel
theorem dJ6_bitCount_0f7a4_0 : decode cJ6_bitCount_0f7a4 0 = .ok (.iload_n 0, 1) := by decide +kernel
theorem dJ6_bitCount_0f7a4_1 : decode cJ6_bitCount_0f7a4 1 = .ok (.iload_n 0, 1) := by decide +kernel
theorem dJ6_bitCount_0f7a4_2 : decode cJ6_bitCount_0f7a4 2 = .ok (.iconst 1, 1) := by decide +kernel
theorem dJ6_bitCount_0f7a4_3 : decode cJ6_bitCount_0f7a4 3 = .ok (.iushr, 1) := by decide +kernel
theorem dJ6_bitCount_0f7a4_4 : decode cJ6_bitCount_0f7a4 4 = .ok (.ldc_w 265, 3) := by decide +kernel
theorem dJ6_bitCount_0f7a4_7 : decode cJ6_bitCount_0f7a4 7 = .ok (.iand, 1) := by decide +kernel
theorem dJ6_bitCount_0f7a4_8 : decode cJ6_bitCount_0f7a4 8 = .ok (.isub, 1) := by decide +kernel
theorem dJ6_bitCount_0f7a4_9 : decode cJ6_bitCount_0f7a4 9 = .ok (.istore_n 0, 1) := by decide +kernel
theorem dJ6_bitCount_0f7a4_10 : decode cJ6_bitCount_0f7a4 10 = .ok (.iload_n 0, 1) := by decide +kernel
theorem dJ6_bitCount_0f7a4_11 : decode cJ6_bitCount_0f7a4 11 = .ok (.ldc_w 266, 3) := by decide +kernel
theorem dJ6_bitCount_0f7a4_14 : decode cJ6_bitCount_0f7a4 14 = .ok (.iand, 1) := by decide +kernel
theorem dJ6_bitCount_0f7a4_15 : decode cJ6_bitCount_0f7a4 15 = .ok (.iload_n 0, 1) := by decide +kernel
theorem dJ6_bitCount_0f7a4_16 : decode cJ6_bitCount_0f7a4 16 = .ok (.iconst 2, 1) := by decide +kernel
theorem dJ6_bitCount_0f7a4_17 : decode cJ6_bitCount_0f7a4 17 = .ok (.iushr, 1) := by decide +kernel
theorem dJ6_bitCount_0f7a4_18 : decode cJ6_bitCount_0f7a4 18 = .ok (.ldc_w 266, 3) := by decide +kernel
theorem dJ6_bitCount_0f7a4_21 : decode cJ6_bitCount_0f7a4 21 = .ok (.iand, 1) := by decide +kernel
theorem dJ6_bitCount_0f7a4_22 : decode cJ6_bitCount_0f7a4 22 = .ok (.iadd, 1) := by decide +kernel
theorem dJ6_bitCount_0f7a4_23 : decode cJ6_bitCount_0f7a4 23 = .ok (.istore_n 0, 1) := by decide +kernel
theorem dJ6_bitCount_0f7a4_24 : decode cJ6_bitCount_0f7a4 24 = .ok (.iload_n 0, 1) := by decide +kernel
theorem dJ6_bitCount_0f7a4_25 : decode cJ6_bitCount_0f7a4 25 = .ok (.iload_n 0, 1) := by decide +kernel
theorem dJ6_bitCount_0f7a4_26 : decode cJ6_bitCount_0f7a4 26 = .ok (.iconst 4, 1) := by decide +kernel
theorem dJ6_bitCount_0f7a4_27 : decode cJ6_bitCount_0f7a4 27 = .ok (.iushr, 1) := by decide +kernel
theorem dJ6_bitCount_0f7a4_28 : decode cJ6_bitCount_0f7a4 28 = .ok (.iadd, 1) := by decide +kernel
theorem dJ6_bitCount_0f7a4_29 : decode cJ6_bitCount_0f7a4 29 = .ok (.ldc_w 267, 3) := by decide +kernel
theorem dJ6_bitCount_0f7a4_32 : decode cJ6_bitCount_0f7a4 32 = .ok (.iand, 1) := by decide +kernel
theorem dJ6_bitCount_0f7a4_33 : decode cJ6_bitCount_0f7a4 33 = .ok (.istore_n 0, 1) := by decide +kernel
theorem dJ6_bitCount_0f7a4_34 : decode cJ6_bitCount_0f7a4 34 = .ok (.iload_n 0, 1) := by decide +kernel
theorem dJ6_bitCount_0f7a4_35 : decode cJ6_bitCount_0f7a4 35 = .ok (.iload_n 0, 1) := by decide +kernel
theorem dJ6_bitCount_0f7a4_36 : decode cJ6_bitCount_0f7a4 36 = .ok (.bipush 8, 2) := by decide +kernel
theorem dJ6_bitCount_0f7a4_38 : decode cJ6_bitCount_0f7a4 38 = .ok (.iushr, 1) := by decide +kernel
theorem dJ6_bitCount_0f7a4_39 : decode cJ6_bitCount_0f7a4 39 = .ok (.iadd, 1) := by decide +kernel
theorem dJ6_bitCount_0f7a4_40 : decode cJ6_bitCount_0f7a4 40 = .ok (.istore_n 0, 1) := by decide +kernel
theorem dJ6_bitCount_0f7a4_41 : decode cJ6_bitCount_0f7a4 41 = .ok (.iload_n 0, 1) := by decide +kernel
theorem dJ6_bitCount_0f7a4_42 : decode cJ6_bitCount_0f7a4 42 = .ok (.iload_n 0, 1) := by decide +kernel
theorem dJ6_bitCount_0f7a4_43 : decode cJ6_bitCount_0f7a4 43 = .ok (.bipush 16, 2) := by decide +kernel
theorem dJ6_bitCount_0f7a4_45 : decode cJ6_bitCount_0f7a4 45 = .ok (.iushr, 1) := by decide +kernel
theorem dJ6_bitCount_0f7a4_46 : decode cJ6_bitCount_0f7a4 46 = .ok (.iadd, 1) := by decide +kernel
theorem dJ6_bitCount_0f7a4_47 : decode cJ6_bitCount_0f7a4 47 = .ok (.istore_n 0, 1) := by decide +kernel
theorem dJ6_bitCount_0f7a4_48 : decode cJ6_bitCount_0f7a4 48 = .ok (.iload_n 0, 1) := by decide +kernel
theorem dJ6_bitCount_0f7a4_49 : decode cJ6_bitCount_0f7a4 49 = .ok (.bipush 63, 2) := by decide +kernel
theorem dJ6_bitCount_0f7a4_51 : decode cJ6_bitCount_0f7a4 51 = .ok (.iand, 1) := by decide +kernel
theorem dJ6_bitCount_0f7a4_52 : decode cJ6_bitCount_0f7a4 52 = .ok (.ireturn, 1) := by decide +kernel
theorem dJ9_abs_0f7a4_0 : decode cJ9_abs_0f7a4 0 = .ok (.iload_n 0, 1) := by decide +kernel
theorem dJ9_abs_0f7a4_1 : decode cJ9_abs_0f7a4 1 = .ok (.ifCond .ge 8, 3) := by decide +kernel
theorem dJ9_abs_0f7a4_4 : decode cJ9_abs_0f7a4 4 = .ok (.iload_n 0, 1) := by decide +kernel
theorem dJ9_abs_0f7a4_5 : decode cJ9_abs_0f7a4 5 = .ok (.ineg, 1) := by decide +kernel
theorem dJ9_abs_0f7a4_6 : decode cJ9_abs_0f7a4 6 = .ok (.goto 4, 3) := by decide +kernel
theorem dJ9_abs_0f7a4_9 : decode cJ9_abs_0f7a4 9 = .ok (.iload_n 0, 1) := by decide +kernel
theorem dJ9_abs_0f7a4_10 : decode cJ9_abs_0f7a4 10 = .ok (.ireturn, 1) := by decide +kernel
theorem dJ9_max_7cf53_0 : decode cJ9_max_7cf53 0 = .ok (.iload_n 0, 1) := by decide +kernel
theorem dJ9_max_7cf53_1 : decode cJ9_max_7cf53 1 = .ok (.iload_n 1, 1) := by decide +kernel
theorem dJ9_max_7cf53_2 : decode cJ9_max_7cf53 2 = .ok (.if_icmp .lt 7, 3) := by decide +kernel
theorem dJ9_max_7cf53_5 : decode cJ9_max_7cf53 5 = .ok (.iload_n 0, 1) := by decide +kernel
theorem dJ9_max_7cf53_6 : decode cJ9_max_7cf53 6 = .ok (.goto 4, 3) := by decide +kernel
theorem dJ9_max_7cf53_9 : decode cJ9_max_7cf53 9 = .ok (.iload_n 1, 1) := by decide +kernel
theorem dJ9_max_7cf53_10 : decode cJ9_max_7cf53 10 = .ok (.ireturn, 1) := by decide +kernel
set_option maxRecDepth 20000 in
theorem ggL_law_X4_init : GoodIn wsL_law wsX4_init := goodIn_r _ [8, 9, 10, 11, 12, 13, 14, 15, 16, 17, 18, 19, 20, 21, 22, 23, 24, 25, 26, 27, 28, 29, 30, 31, 32, 33, 34, 35, 36, 37, 38, 39, 40, 41, 42, 43, 44, 45, 46, 47, 48, 49, 50, 51, 52, 53, 54, 55, 56, 57, 58, 59, 60, 61, 62, 63, 925, 926, 927, 928, 929, 930, 884, 885, 886, 887, 888, 889, 931, 932, 933, 934, 935, 936, 937, 938, 939, 940, 941, 942, 943, 944, 945, 946, 947, 948] (by decide +kernel) (by decide +kernel)
set_option maxRecDepth 20000 in
theorem gL_law_X4_init : GoodIn wsL_law (wsX4_init) := ggL_law_X4_init
