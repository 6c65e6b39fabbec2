set_option maxRecDepth 20000 in
theorem ggX2_addForms_X2_addForm : GoodIn wsX2_addForms wsX2_addForm := goodIn_r _ [15, 16, 17, 18, 19, 20, 14, 21, 22, 23, 24, 25, 26, 27, 28, 29, 30, 31] (by decide +kernel) (by decide +kernel)
set_option maxRecDepth 20000 in
theorem gX2_addForms_X2_addForm : GoodIn wsX2_addForms (wsV RX2 54 RX2 yX2_addForm wsX2_addForm) := goodIn_app (goodIn_of _ (by decide +kernel)) ggX2_addForms_X2_addForm
theorem dX2_addForms_0 : decode cX2_addForms 0 = .ok (.iconst 1, 1) := by decide +kernel
theorem dX2_addForms_1 : decode cX2_addForms 1 = .ok (.istore_n 3, 1) := by decide +kernel
theorem dX2_addForms_2 : decode cX2_addForms 2 = .ok (.iload_n 3, 1) := by decide +kernel
theorem dX2_addForms_3 : decode cX2_addForms 3 = .ok (.iload_n 2, 1) := by decide +kernel
theorem dX2_addForms_4 : decode cX2_addForms 4 = .ok (.if_icmp .gt 40, 3) := by decide +kernel
theorem dX2_addForms_7 : decode cX2_addForms 7 = .ok (.iload_n 2, 1) := by decide +kernel
theorem dX2_addForms_8 : decode cX2_addForms 8 = .ok (.iload_n 3, 1) := by decide +kernel
theorem dX2_addForms_9 : decode cX2_addForms 9 = .ok (.irem, 1) := by decide +kernel
theorem dX2_addForms_10 : decode cX2_addForms 10 = .ok (.ifCond .ne 28, 3) := by decide +kernel
theorem dX2_addForms_13 : decode cX2_addForms 13 = .ok (.iload_n 3, 1) := by decide +kernel
theorem dX2_addForms_14 : decode cX2_addForms 14 = .ok (.iload_n 1, 1) := by decide +kernel
theorem dX2_addForms_15 : decode cX2_addForms 15 = .ok (.invokestatic 50, 3) := by decide +kernel
theorem dX2_addForms_18 : decode cX2_addForms 18 = .ok (.iload_n 2, 1) := by decide +kernel
theorem dX2_addForms_19 : decode cX2_addForms 19 = .ok (.iload_n 3, 1) := by decide +kernel
theorem dX2_addForms_20 : decode cX2_addForms 20 = .ok (.idiv, 1) := by decide +kernel
theorem dX2_addForms_21 : decode cX2_addForms 21 = .ok (.invokestatic 50, 3) := by decide +kernel
theorem dX2_addForms_24 : decode cX2_addForms 24 = .ok (.iconst 1, 1) := by decide +kernel
theorem dX2_addForms_25 : decode cX2_addForms 25 = .ok (.if_icmp .ne 13, 3) := by decide +kernel
theorem dX2_addForms_28 : decode cX2_addForms 28 = .ok (.aload_n 0, 1) := by decide +kernel
theorem dX2_addForms_29 : decode cX2_addForms 29 = .ok (.iload_n 3, 1) := by decide +kernel
theorem dX2_addForms_30 : decode cX2_addForms 30 = .ok (.iload_n 1, 1) := by decide +kernel
theorem dX2_addForms_31 : decode cX2_addForms 31 = .ok (.iload_n 2, 1) := by decide +kernel
theorem dX2_addForms_32 : decode cX2_addForms 32 = .ok (.iload_n 3, 1) := by decide +kernel
theorem dX2_addForms_33 : decode cX2_addForms 33 = .ok (.idiv, 1) := by decide +kernel
theorem dX2_addForms_34 : decode cX2_addForms 34 = .ok (.ineg, 1) := by decide +kernel
theorem dX2_addForms_35 : decode cX2_addForms 35 = .ok (.invokevirtual 54, 3) := by decide +kernel
theorem dX2_addForms_38 : decode cX2_addForms 38 = .ok (.iinc 3 1, 3) := by decide +kernel
theorem dX2_addForms_41 : decode cX2_addForms 41 = .ok (.goto (-39), 3) := by decide +kernel
theorem dX2_addForms_44 : decode cX2_addForms 44 = .ok (.return_, 1) := by decide +kernel
set_option maxRecDepth 20000 in
theorem ggX2_addForm_X2_setForm : GoodIn wsX2_addForm wsX2_setForm := goodIn_r _ [7, 8, 9, 10, 11, 6, 12, 1, 13, 14, 15, 16, 17] (by decide +kernel) (by decide +kernel)
set_option maxRecDepth 20000 in
theorem gX2_addForm_X2_setForm : GoodIn wsX2_addForm (wsV RX2 58 RX2 yX2_setForm wsX2_setForm) := goodIn_app (goodIn_of _ (by decide +kernel)) ggX2_addForm_X2_setForm
theorem dX2_addForm_0 : decode cX2_addForm 0 = .ok (.aload_n 0, 1) := by decide +kernel
theorem dX2_addForm_1 : decode cX2_addForm 1 = .ok (.getfield 19, 3) := by decide +kernel
theorem dX2_addForm_4 : decode cX2_addForm 4 = .ok (.sipush 320, 3) := by decide +kernel
theorem dX2_addForm_7 : decode cX2_addForm 7 = .ok (.if_icmp .lt 4, 3) := by decide +kernel
theorem dX2_addForm_10 : decode cX2_addForm 10 = .ok (.return_, 1) := by decide +kernel
theorem dX2_addForm_11 : decode cX2_addForm 11 = .ok (.aload_n 0, 1) := by decide +kernel
theorem dX2_addForm_12 : decode cX2_addForm 12 = .ok (.getfield 19, 3) := by decide +kernel
theorem dX2_addForm_15 : decode cX2_addForm 15 = .ok (.istore 4, 2) := by decide +kernel
theorem dX2_addForm_17 : decode cX2_addForm 17 = .ok (.aload_n 0, 1) := by decide +kernel
theorem dX2_addForm_18 : decode cX2_addForm 18 = .ok (.dup, 1) := by decide +kernel
theorem dX2_addForm_19 : decode cX2_addForm 19 = .ok (.getfield 19, 3) := by decide +kernel
theorem dX2_addForm_22 : decode cX2_addForm 22 = .ok (.iconst 1, 1) := by decide +kernel
theorem dX2_addForm_23 : decode cX2_addForm 23 = .ok (.iadd, 1) := by decide +kernel
theorem dX2_addForm_24 : decode cX2_addForm 24 = .ok (.putfield 19, 3) := by decide +kernel
theorem dX2_addForm_27 : decode cX2_addForm 27 = .ok (.aload_n 0, 1) := by decide +kernel
theorem dX2_addForm_28 : decode cX2_addForm 28 = .ok (.iload 4, 2) := by decide +kernel
theorem dX2_addForm_30 : decode cX2_addForm 30 = .ok (.iconst 0, 1) := by decide +kernel
theorem dX2_addForm_31 : decode cX2_addForm 31 = .ok (.iload_n 1, 1) := by decide +kernel
theorem dX2_addForm_32 : decode cX2_addForm 32 = .ok (.invokevirtual 58, 3) := by decide +kernel
theorem dX2_addForm_35 : decode cX2_addForm 35 = .ok (.aload_n 0, 1) := by decide +kernel
theorem dX2_addForm_36 : decode cX2_addForm 36 = .ok (.iload 4, 2) := by decide +kernel
theorem dX2_addForm_38 : decode cX2_addForm 38 = .ok (.iconst 1, 1) := by decide +kernel
theorem dX2_addForm_39 : decode cX2_addForm 39 = .ok (.iload_n 2, 1) := by decide +kernel
theorem dX2_addForm_40 : decode cX2_addForm 40 = .ok (.invokevirtual 58, 3) := by decide +kernel
theorem dX2_addForm_43 : decode cX2_addForm 43 = .ok (.aload_n 0, 1) := by decide +kernel
theorem dX2_addForm_44 : decode cX2_addForm 44 = .ok (.iload 4, 2) := by decide +kernel
theorem dX2_addForm_46 : decode cX2_addForm 46 = .ok (.iconst 2, 1) := by decide +kernel
theorem dX2_addForm_47 : decode cX2_addForm 47 = .ok (.iload_n 3, 1) := by decide +kernel
theorem dX2_addForm_48 : decode cX2_addForm 48 = .ok (.invokevirtual 58, 3) := by decide +kernel
theorem dX2_addForm_51 : decode cX2_addForm 51 = .ok (.aload_n 0, 1) := by decide +kernel
theorem dX2_addForm_52 : decode cX2_addForm 52 = .ok (.iload 4, 2) := by decide +kernel
theorem dX2_addForm_54 : decode cX2_addForm 54 = .ok (.iconst 3, 1) := by decide +kernel
theorem dX2_addForm_55 : decode cX2_addForm 55 = .ok (.ldc 30, 2) := by decide +kernel
theorem dX2_addForm_57 : decode cX2_addForm 57 = .ok (.invokevirtual 58, 3) := by decide +kernel
theorem dX2_addForm_60 : decode cX2_addForm 60 = .ok (.return_, 1) := by decide +kernel
set_option maxRecDepth 20000 in
theorem ggX2_linkForms_X2_ofForm : GoodIn wsX2_linkForms wsX2_ofForm := goodIn_r _ [6, 7, 8, 9, 10, 11, 5, 12, 1, 25, 26, 27, 28, 29] (by decide +kernel) (by decide +kernel)
set_option maxRecDepth 20000 in
theorem gX2_linkForms_X2_ofForm : GoodIn wsX2_linkForms (wsV RX2 61 RX2 yX2_ofForm wsX2_ofForm) := goodIn_app (goodIn_of _ (by decide +kernel)) ggX2_linkForms_X2_ofForm
set_option maxRecDepth 20000 in
theorem ggX2_linkForms_X2_setForm : GoodIn wsX2_linkForms wsX2_setForm := goodIn_r _ [16, 7, 9, 10, 11, 5, 12, 1, 25, 26, 27, 28, 29] (by decide +kernel) (by decide +kernel)
set_option maxRecDepth 20000 in
theorem gX2_linkForms_X2_setForm : GoodIn wsX2_linkForms (wsV RX2 58 RX2 yX2_setForm wsX2_setForm) := goodIn_app (goodIn_of _ (by decide +kernel)) ggX2_linkForms_X2_setForm
set_option maxRecDepth 20000 in
theorem ggX2_linkForms_X2_find : GoodIn wsX2_linkForms wsX2_find := goodIn_r _ [20, 1, 8, 21, 22, 23, 5, 24, 2, 3, 4, 6, 7, 9, 10, 11, 12, 25, 26, 27, 28, 29] (by decide +kernel) (by decide +kernel)
set_option maxRecDepth 20000 in
theorem gX2_linkForms_X2_find : GoodIn wsX2_linkForms (wsV RX2 64 RX2 yX2_find wsX2_find) := goodIn_app (goodIn_of _ (by decide +kernel)) ggX2_linkForms_X2_find
theorem dX2_linkForms_0 : decode cX2_linkForms 0 = .ok (.iconst 0, 1) := by decide +kernel
theorem dX2_linkForms_1 : decode cX2_linkForms 1 = .ok (.istore_n 1, 1) := by decide +kernel
theorem dX2_linkForms_2 : decode cX2_linkForms 2 = .ok (.iload_n 1, 1) := by decide +kernel
theorem dX2_linkForms_3 : decode cX2_linkForms 3 = .ok (.aload_n 0, 1) := by decide +kernel
theorem dX2_linkForms_4 : decode cX2_linkForms 4 = .ok (.getfield 19, 3) := by decide +kernel
theorem dX2_linkForms_7 : decode cX2_linkForms 7 = .ok (.if_icmp .ge 135, 3) := by decide +kernel
theorem dX2_linkForms_10 : decode cX2_linkForms 10 = .ok (.aload_n 0, 1) := by decide +kernel
theorem dX2_linkForms_11 : decode cX2_linkForms 11 = .ok (.iload_n 1, 1) := by decide +kernel
theorem dX2_linkForms_12 : decode cX2_linkForms 12 = .ok (.iconst 0, 1) := by decide +kernel
theorem dX2_linkForms_13 : decode cX2_linkForms 13 = .ok (.invokevirtual 61, 3) := by decide +kernel
theorem dX2_linkForms_16 : decode cX2_linkForms 16 = .ok (.istore_n 2, 1) := by decide +kernel
theorem dX2_linkForms_17 : decode cX2_linkForms 17 = .ok (.aload_n 0, 1) := by decide +kernel
theorem dX2_linkForms_18 : decode cX2_linkForms 18 = .ok (.iload_n 1, 1) := by decide +kernel
theorem dX2_linkForms_19 : decode cX2_linkForms 19 = .ok (.iconst 1, 1) := by decide +kernel
theorem dX2_linkForms_20 : decode cX2_linkForms 20 = .ok (.invokevirtual 61, 3) := by decide +kernel
theorem dX2_linkForms_23 : decode cX2_linkForms 23 = .ok (.istore_n 3, 1) := by decide +kernel
theorem dX2_linkForms_24 : decode cX2_linkForms 24 = .ok (.aload_n 0, 1) := by decide +kernel
theorem dX2_linkForms_25 : decode cX2_linkForms 25 = .ok (.iload_n 1, 1) := by decide +kernel
theorem dX2_linkForms_26 : decode cX2_linkForms 26 = .ok (.iconst 2, 1) := by decide +kernel
theorem dX2_linkForms_27 : decode cX2_linkForms 27 = .ok (.invokevirtual 61, 3) := by decide +kernel
theorem dX2_linkForms_30 : decode cX2_linkForms 30 = .ok (.istore 4, 2) := by decide +kernel
theorem dX2_linkForms_32 : decode cX2_linkForms 32 = .ok (.iload_n 2, 1) := by decide +kernel
theorem dX2_linkForms_33 : decode cX2_linkForms 33 = .ok (.iload_n 3, 1) := by decide +kernel
theorem dX2_linkForms_34 : decode cX2_linkForms 34 = .ok (.iadd, 1) := by decide +kernel
theorem dX2_linkForms_35 : decode cX2_linkForms 35 = .ok (.iload 4, 2) := by decide +kernel
theorem dX2_linkForms_37 : decode cX2_linkForms 37 = .ok (.iadd, 1) := by decide +kernel
theorem dX2_linkForms_38 : decode cX2_linkForms 38 = .ok (.istore 5, 2) := by decide +kernel
theorem dX2_linkForms_40 : decode cX2_linkForms 40 = .ok (.iload 5, 2) := by decide +kernel
theorem dX2_linkForms_42 : decode cX2_linkForms 42 = .ok (.ifCond .le 34, 3) := by decide +kernel
theorem dX2_linkForms_45 : decode cX2_linkForms 45 = .ok (.aload_n 0, 1) := by decide +kernel
theorem dX2_linkForms_46 : decode cX2_linkForms 46 = .ok (.iload_n 1, 1) := by decide +kernel
theorem dX2_linkForms_47 : decode cX2_linkForms 47 = .ok (.iconst 5, 1) := by decide +kernel
theorem dX2_linkForms_48 : decode cX2_linkForms 48 = .ok (.bipush 76, 2) := by decide +kernel
theorem dX2_linkForms_50 : decode cX2_linkForms 50 = .ok (.invokevirtual 58, 3) := by decide +kernel
theorem dX2_linkForms_53 : decode cX2_linkForms 53 = .ok (.aload_n 0, 1) := by decide +kernel
theorem dX2_linkForms_54 : decode cX2_linkForms 54 = .ok (.iload_n 1, 1) := by decide +kernel
theorem dX2_linkForms_55 : decode cX2_linkForms 55 = .ok (.iconst 4, 1) := by decide +kernel
theorem dX2_linkForms_56 : decode cX2_linkForms 56 = .ok (.aload_n 0, 1) := by decide +kernel
theorem dX2_linkForms_57 : decode cX2_linkForms 57 = .ok (.iload 5, 2) := by decide +kernel
theorem dX2_linkForms_59 : decode cX2_linkForms 59 = .ok (.iload_n 3, 1) := by decide +kernel
theorem dX2_linkForms_60 : decode cX2_linkForms 60 = .ok (.iconst 2, 1) := by decide +kernel
theorem dX2_linkForms_61 : decode cX2_linkForms 61 = .ok (.iload 4, 2) := by decide +kernel
theorem dX2_linkForms_63 : decode cX2_linkForms 63 = .ok (.imul, 1) := by decide +kernel
theorem dX2_linkForms_64 : decode cX2_linkForms 64 = .ok (.iadd, 1) := by decide +kernel
theorem dX2_linkForms_65 : decode cX2_linkForms 65 = .ok (.iload 4, 2) := by decide +kernel
theorem dX2_linkForms_67 : decode cX2_linkForms 67 = .ok (.invokevirtual 64, 3) := by decide +kernel
theorem dX2_linkForms_70 : decode cX2_linkForms 70 = .ok (.invokevirtual 58, 3) := by decide +kernel
theorem dX2_linkForms_73 : decode cX2_linkForms 73 = .ok (.goto 29, 3) := by decide +kernel
theorem dX2_linkForms_76 : decode cX2_linkForms 76 = .ok (.aload_n 0, 1) := by decide +kernel
theorem dX2_linkForms_77 : decode cX2_linkForms 77 = .ok (.iload_n 1, 1) := by decide +kernel
theorem dX2_linkForms_78 : decode cX2_linkForms 78 = .ok (.iconst 5, 1) := by decide +kernel
theorem dX2_linkForms_79 : decode cX2_linkForms 79 = .ok (.bipush 82, 2) := by decide +kernel
theorem dX2_linkForms_81 : decode cX2_linkForms 81 = .ok (.invokevirtual 58, 3) := by decide +kernel
theorem dX2_linkForms_84 : decode cX2_linkForms 84 = .ok (.aload_n 0, 1) := by decide +kernel
theorem dX2_linkForms_85 : decode cX2_linkForms 85 = .ok (.iload_n 1, 1) := by decide +kernel
theorem dX2_linkForms_86 : decode cX2_linkForms 86 = .ok (.iconst 4, 1) := by decide +kernel
theorem dX2_linkForms_87 : decode cX2_linkForms 87 = .ok (.aload_n 0, 1) := by decide +kernel
theorem dX2_linkForms_88 : decode cX2_linkForms 88 = .ok (.iload_n 2, 1) := by decide +kernel
theorem dX2_linkForms_89 : decode cX2_linkForms 89 = .ok (.iload_n 3, 1) := by decide +kernel
theorem dX2_linkForms_90 : decode cX2_linkForms 90 = .ok (.iconst 2, 1) := by decide +kernel
theorem dX2_linkForms_91 : decode cX2_linkForms 91 = .ok (.iload_n 2, 1) := by decide +kernel
theorem dX2_linkForms_92 : decode cX2_linkForms 92 = .ok (.imul, 1) := by decide +kernel
theorem dX2_linkForms_93 : decode cX2_linkForms 93 = .ok (.iadd, 1) := by decide +kernel
theorem dX2_linkForms_94 : decode cX2_linkForms 94 = .ok (.iload 5, 2) := by decide +kernel
theorem dX2_linkForms_96 : decode cX2_linkForms 96 = .ok (.invokevirtual 64, 3) := by decide +kernel
theorem dX2_linkForms_99 : decode cX2_linkForms 99 = .ok (.invokevirtual 58, 3) := by decide +kernel
theorem dX2_linkForms_102 : decode cX2_linkForms 102 = .ok (.aload_n 0, 1) := by decide +kernel
theorem dX2_linkForms_103 : decode cX2_linkForms 103 = .ok (.iload_n 1, 1) := by decide +kernel
theorem dX2_linkForms_104 : decode cX2_linkForms 104 = .ok (.bipush 6, 2) := by decide +kernel
theorem dX2_linkForms_106 : decode cX2_linkForms 106 = .ok (.aload_n 0, 1) := by decide +kernel
theorem dX2_linkForms_107 : decode cX2_linkForms 107 = .ok (.iload_n 2, 1) := by decide +kernel
theorem dX2_linkForms_108 : decode cX2_linkForms 108 = .ok (.iload_n 3, 1) := by decide +kernel
theorem dX2_linkForms_109 : decode cX2_linkForms 109 = .ok (.ineg, 1) := by decide +kernel
theorem dX2_linkForms_110 : decode cX2_linkForms 110 = .ok (.iload 4, 2) := by decide +kernel
theorem dX2_linkForms_112 : decode cX2_linkForms 112 = .ok (.invokevirtual 64, 3) := by decide +kernel
theorem dX2_linkForms_115 : decode cX2_linkForms 115 = .ok (.invokevirtual 58, 3) := by decide +kernel
theorem dX2_linkForms_118 : decode cX2_linkForms 118 = .ok (.aload_n 0, 1) := by decide +kernel
theorem dX2_linkForms_119 : decode cX2_linkForms 119 = .ok (.iload_n 1, 1) := by decide +kernel
theorem dX2_linkForms_120 : decode cX2_linkForms 120 = .ok (.bipush 7, 2) := by decide +kernel
theorem dX2_linkForms_122 : decode cX2_linkForms 122 = .ok (.aload_n 0, 1) := by decide +kernel
theorem dX2_linkForms_123 : decode cX2_linkForms 123 = .ok (.iload 4, 2) := by decide +kernel
theorem dX2_linkForms_125 : decode cX2_linkForms 125 = .ok (.ineg, 1) := by decide +kernel
theorem dX2_linkForms_126 : decode cX2_linkForms 126 = .ok (.iload_n 3, 1) := by decide +kernel
theorem dX2_linkForms_127 : decode cX2_linkForms 127 = .ok (.ineg, 1) := by decide +kernel
theorem dX2_linkForms_128 : decode cX2_linkForms 128 = .ok (.iload_n 2, 1) := by decide +kernel
theorem dX2_linkForms_129 : decode cX2_linkForms 129 = .ok (.ineg, 1) := by decide +kernel
theorem dX2_linkForms_130 : decode cX2_linkForms 130 = .ok (.invokevirtual 64, 3) := by decide +kernel
theorem dX2_linkForms_133 : decode cX2_linkForms 133 = .ok (.invokevirtual 58, 3) := by decide +kernel
theorem dX2_linkForms_136 : decode cX2_linkForms 136 = .ok (.iinc 1 1, 3) := by decide +kernel
theorem dX2_linkForms_139 : decode cX2_linkForms 139 = .ok (.goto (-137), 3) := by decide +kernel
theorem dX2_linkForms_142 : decode cX2_linkForms 142 = .ok (.return_, 1) := by decide +kernel
set_option maxRecDepth 20000 in
theorem ggX2_addCycles_X2_ofForm : GoodIn wsX2_addCycles wsX2_ofForm := goodIn_r _ [8, 9, 2, 10, 11, 12, 7, 13, 1, 31, 32, 33, 34, 35] (by decide +kernel) (by decide +kernel)
set_option maxRecDepth 20000 in
theorem gX2_addCycles_X2_ofForm : GoodIn wsX2_addCycles (wsV RX2 61 RX2 yX2_ofForm wsX2_ofForm) := goodIn_app (goodIn_of _ (by decide +kernel)) ggX2_addCycles_X2_ofForm
set_option maxRecDepth 20000 in
theorem ggX2_addCycles_X2_addCycle : GoodIn wsX2_addCycles wsX2_addCycle := goodIn_r _ [17, 3, 1, 2, 4, 5, 6, 7, 8, 9, 10, 11, 12, 13, 18, 19, 20, 21, 22, 23, 24, 25, 26, 27, 28, 29, 30, 31, 32, 33, 34, 35] (by decide +kernel) (by decide +kernel)
set_option maxRecDepth 20000 in
theorem gX2_addCycles_X2_addCycle : GoodIn wsX2_addCycles (wsV RX2 68 RX2 yX2_addCycle wsX2_addCycle) := goodIn_app (goodIn_of _ (by decide +kernel)) ggX2_addCycles_X2_addCycle
theorem dX2_addCycles_0 : decode cX2_addCycles 0 = .ok (.iconst 0, 1) := by decide +kernel
theorem dX2_addCycles_1 : decode cX2_addCycles 1 = .ok (.istore_n 1, 1) := by decide +kernel
theorem dX2_addCycles_2 : decode cX2_addCycles 2 = .ok (.iload_n 1, 1) := by decide +kernel
theorem dX2_addCycles_3 : decode cX2_addCycles 3 = .ok (.aload_n 0, 1) := by decide +kernel
theorem dX2_addCycles_4 : decode cX2_addCycles 4 = .ok (.getfield 19, 3) := by decide +kernel
theorem dX2_addCycles_7 : decode cX2_addCycles 7 = .ok (.if_icmp .ge 34, 3) := by decide +kernel
theorem dX2_addCycles_10 : decode cX2_addCycles 10 = .ok (.aload_n 0, 1) := by decide +kernel
theorem dX2_addCycles_11 : decode cX2_addCycles 11 = .ok (.iload_n 1, 1) := by decide +kernel
theorem dX2_addCycles_12 : decode cX2_addCycles 12 = .ok (.iconst 3, 1) := by decide +kernel
theorem dX2_addCycles_13 : decode cX2_addCycles 13 = .ok (.invokevirtual 61, 3) := by decide +kernel
theorem dX2_addCycles_16 : decode cX2_addCycles 16 = .ok (.ldc 30, 2) := by decide +kernel
theorem dX2_addCycles_18 : decode cX2_addCycles 18 = .ok (.if_icmp .ne 17, 3) := by decide +kernel
theorem dX2_addCycles_21 : decode cX2_addCycles 21 = .ok (.aload_n 0, 1) := by decide +kernel
theorem dX2_addCycles_22 : decode cX2_addCycles 22 = .ok (.getfield 23, 3) := by decide +kernel
theorem dX2_addCycles_25 : decode cX2_addCycles 25 = .ok (.bipush 10, 2) := by decide +kernel
theorem dX2_addCycles_27 : decode cX2_addCycles 27 = .ok (.if_icmp .ge 8, 3) := by decide +kernel
theorem dX2_addCycles_30 : decode cX2_addCycles 30 = .ok (.aload_n 0, 1) := by decide +kernel
theorem dX2_addCycles_31 : decode cX2_addCycles 31 = .ok (.iload_n 1, 1) := by decide +kernel
theorem dX2_addCycles_32 : decode cX2_addCycles 32 = .ok (.invokevirtual 68, 3) := by decide +kernel
theorem dX2_addCycles_35 : decode cX2_addCycles 35 = .ok (.iinc 1 1, 3) := by decide +kernel
theorem dX2_addCycles_38 : decode cX2_addCycles 38 = .ok (.goto (-36), 3) := by decide +kernel
theorem dX2_addCycles_41 : decode cX2_addCycles 41 = .ok (.return_, 1) := by decide +kernel
set_option maxRecDepth 20000 in
theorem ggX2_addCycle_X2_ofForm : GoodIn wsX2_addCycle wsX2_ofForm := goodIn_r _ [8, 9, 3, 10, 11, 12, 7, 13, 2, 27, 28, 29, 30, 31] (by decide +kernel) (by decide +kernel)
set_option maxRecDepth 20000 in
theorem gX2_addCycle_X2_ofForm : GoodIn wsX2_addCycle (wsV RX2 61 RX2 yX2_ofForm wsX2_ofForm) := goodIn_app (goodIn_of _ (by decide +kernel)) ggX2_addCycle_X2_ofForm
set_option maxRecDepth 20000 in
theorem ggX2_addCycle_X2_setForm : GoodIn wsX2_addCycle wsX2_setForm := goodIn_r _ [17, 9, 10, 11, 12, 7, 13, 2, 27, 28, 29, 30, 31] (by decide +kernel) (by decide +kernel)
set_option maxRecDepth 20000 in
theorem gX2_addCycle_X2_setForm : GoodIn wsX2_addCycle (wsV RX2 58 RX2 yX2_setForm wsX2_setForm) := goodIn_app (goodIn_of _ (by decide +kernel)) ggX2_addCycle_X2_setForm
set_option maxRecDepth 20000 in
theorem ggX2_addCycle_X2_setCycle : GoodIn wsX2_addCycle wsX2_setCycle := goodIn_r _ [21, 22, 23, 24, 25, 7, 26, 1, 27, 28, 29, 30, 31] (by decide +kernel) (by decide +kernel)
set_option maxRecDepth 20000 in
theorem gX2_addCycle_X2_setCycle : GoodIn wsX2_addCycle (wsV RX2 72 RX2 yX2_setCycle wsX2_setCycle) := goodIn_app (goodIn_of _ (by decide +kernel)) ggX2_addCycle_X2_setCycle
theorem dX2_addCycle_0 : decode cX2_addCycle 0 = .ok (.aload_n 0, 1) := by decide +kernel
theorem dX2_addCycle_1 : decode cX2_addCycle 1 = .ok (.getfield 23, 3) := by decide +kernel
theorem dX2_addCycle_4 : decode cX2_addCycle 4 = .ok (.istore_n 2, 1) := by decide +kernel
theorem dX2_addCycle_5 : decode cX2_addCycle 5 = .ok (.aload_n 0, 1) := by decide +kernel
theorem dX2_addCycle_6 : decode cX2_addCycle 6 = .ok (.dup, 1) := by decide +kernel
theorem dX2_addCycle_7 : decode cX2_addCycle 7 = .ok (.getfield 23, 3) := by decide +kernel
theorem dX2_addCycle_10 : decode cX2_addCycle 10 = .ok (.iconst 1, 1) := by decide +kernel
theorem dX2_addCycle_11 : decode cX2_addCycle 11 = .ok (.iadd, 1) := by decide +kernel
theorem dX2_addCycle_12 : decode cX2_addCycle 12 = .ok (.putfield 23, 3) := by decide +kernel
theorem dX2_addCycle_15 : decode cX2_addCycle 15 = .ok (.iload_n 1, 1) := by decide +kernel
theorem dX2_addCycle_16 : decode cX2_addCycle 16 = .ok (.istore_n 3, 1) := by decide +kernel
theorem dX2_addCycle_17 : decode cX2_addCycle 17 = .ok (.iconst 0, 1) := by decide +kernel
theorem dX2_addCycle_18 : decode cX2_addCycle 18 = .ok (.istore 4, 2) := by decide +kernel
theorem dX2_addCycle_20 : decode cX2_addCycle 20 = .ok (.iconst 0, 1) := by decide +kernel
theorem dX2_addCycle_21 : decode cX2_addCycle 21 = .ok (.istore 5, 2) := by decide +kernel
theorem dX2_addCycle_23 : decode cX2_addCycle 23 = .ok (.iload 4, 2) := by decide +kernel
theorem dX2_addCycle_25 : decode cX2_addCycle 25 = .ok (.aload_n 0, 1) := by decide +kernel
theorem dX2_addCycle_26 : decode cX2_addCycle 26 = .ok (.getfield 19, 3) := by decide +kernel
theorem dX2_addCycle_29 : decode cX2_addCycle 29 = .ok (.if_icmp .ge 48, 3) := by decide +kernel
theorem dX2_addCycle_32 : decode cX2_addCycle 32 = .ok (.aload_n 0, 1) := by decide +kernel
theorem dX2_addCycle_33 : decode cX2_addCycle 33 = .ok (.iload_n 3, 1) := by decide +kernel
theorem dX2_addCycle_34 : decode cX2_addCycle 34 = .ok (.iconst 3, 1) := by decide +kernel
theorem dX2_addCycle_35 : decode cX2_addCycle 35 = .ok (.invokevirtual 61, 3) := by decide +kernel
theorem dX2_addCycle_38 : decode cX2_addCycle 38 = .ok (.ldc 30, 2) := by decide +kernel
theorem dX2_addCycle_40 : decode cX2_addCycle 40 = .ok (.if_icmp .ne 37, 3) := by decide +kernel
theorem dX2_addCycle_43 : decode cX2_addCycle 43 = .ok (.aload_n 0, 1) := by decide +kernel
theorem dX2_addCycle_44 : decode cX2_addCycle 44 = .ok (.iload_n 3, 1) := by decide +kernel
theorem dX2_addCycle_45 : decode cX2_addCycle 45 = .ok (.iconst 3, 1) := by decide +kernel
theorem dX2_addCycle_46 : decode cX2_addCycle 46 = .ok (.iload_n 2, 1) := by decide +kernel
theorem dX2_addCycle_47 : decode cX2_addCycle 47 = .ok (.invokevirtual 58, 3) := by decide +kernel
theorem dX2_addCycle_50 : decode cX2_addCycle 50 = .ok (.aload_n 0, 1) := by decide +kernel
theorem dX2_addCycle_51 : decode cX2_addCycle 51 = .ok (.iload_n 3, 1) := by decide +kernel
theorem dX2_addCycle_52 : decode cX2_addCycle 52 = .ok (.iconst 5, 1) := by decide +kernel
theorem dX2_addCycle_53 : decode cX2_addCycle 53 = .ok (.invokevirtual 61, 3) := by decide +kernel
theorem dX2_addCycle_56 : decode cX2_addCycle 56 = .ok (.bipush 76, 2) := by decide +kernel
theorem dX2_addCycle_58 : decode cX2_addCycle 58 = .ok (.if_icmp .ne 6, 3) := by decide +kernel
theorem dX2_addCycle_61 : decode cX2_addCycle 61 = .ok (.iinc 5 1, 3) := by decide +kernel
theorem dX2_addCycle_64 : decode cX2_addCycle 64 = .ok (.aload_n 0, 1) := by decide +kernel
theorem dX2_addCycle_65 : decode cX2_addCycle 65 = .ok (.iload_n 3, 1) := by decide +kernel
theorem dX2_addCycle_66 : decode cX2_addCycle 66 = .ok (.iconst 4, 1) := by decide +kernel
theorem dX2_addCycle_67 : decode cX2_addCycle 67 = .ok (.invokevirtual 61, 3) := by decide +kernel
theorem dX2_addCycle_70 : decode cX2_addCycle 70 = .ok (.istore_n 3, 1) := by decide +kernel
theorem dX2_addCycle_71 : decode cX2_addCycle 71 = .ok (.iinc 4 1, 3) := by decide +kernel
theorem dX2_addCycle_74 : decode cX2_addCycle 74 = .ok (.goto (-51), 3) := by decide +kernel
theorem dX2_addCycle_77 : decode cX2_addCycle 77 = .ok (.aload_n 0, 1) := by decide +kernel
theorem dX2_addCycle_78 : decode cX2_addCycle 78 = .ok (.iload_n 2, 1) := by decide +kernel
theorem dX2_addCycle_79 : decode cX2_addCycle 79 = .ok (.iconst 0, 1) := by decide +kernel
theorem dX2_addCycle_80 : decode cX2_addCycle 80 = .ok (.iload_n 1, 1) := by decide +kernel
theorem dX2_addCycle_81 : decode cX2_addCycle 81 = .ok (.invokevirtual 72, 3) := by decide +kernel
theorem dX2_addCycle_84 : decode cX2_addCycle 84 = .ok (.aload_n 0, 1) := by decide +kernel
theorem dX2_addCycle_85 : decode cX2_addCycle 85 = .ok (.iload_n 2, 1) := by decide +kernel
theorem dX2_addCycle_86 : decode cX2_addCycle 86 = .ok (.iconst 1, 1) := by decide +kernel
theorem dX2_addCycle_87 : decode cX2_addCycle 87 = .ok (.iload 4, 2) := by decide +kernel
theorem dX2_addCycle_89 : decode cX2_addCycle 89 = .ok (.invokevirtual 72, 3) := by decide +kernel
theorem dX2_addCycle_92 : decode cX2_addCycle 92 = .ok (.aload_n 0, 1) := by decide +kernel
theorem dX2_addCycle_93 : decode cX2_addCycle 93 = .ok (.iload_n 2, 1) := by decide +kernel
theorem dX2_addCycle_94 : decode cX2_addCycle 94 = .ok (.iconst 2, 1) := by decide +kernel
theorem dX2_addCycle_95 : decode cX2_addCycle 95 = .ok (.iload 5, 2) := by decide +kernel
theorem dX2_addCycle_97 : decode cX2_addCycle 97 = .ok (.invokevirtual 72, 3) := by decide +kernel
theorem dX2_addCycle_100 : decode cX2_addCycle 100 = .ok (.return_, 1) := by decide +kernel
set_option maxRecDepth 20000 in
theorem ggX2_linkCycles_X2_ofCycle : GoodIn wsX2_linkCycles wsX2_ofCycle := goodIn_r _ [6, 7, 8, 9, 10, 11, 5, 12, 1, 27, 28, 29, 30, 31] (by decide +kernel) (by decide +kernel)
set_option maxRecDepth 20000 in
theorem gX2_linkCycles_X2_ofCycle : GoodIn wsX2_linkCycles (wsV RX2 75 RX2 yX2_ofCycle wsX2_ofCycle) := goodIn_app (goodIn_of _ (by decide +kernel)) ggX2_linkCycles_X2_ofCycle
set_option maxRecDepth 20000 in
theorem ggX2_linkCycles_X2_ofForm : GoodIn wsX2_linkCycles wsX2_ofForm := goodIn_r _ [16, 17, 8, 18, 19, 20, 5, 21, 22, 27, 28, 29, 30, 31] (by decide +kernel) (by decide +kernel)
set_option maxRecDepth 20000 in
theorem gX2_linkCycles_X2_ofForm : GoodIn wsX2_linkCycles (wsV RX2 61 RX2 yX2_ofForm wsX2_ofForm) := goodIn_app (goodIn_of _ (by decide +kernel)) ggX2_linkCycles_X2_ofForm
set_option maxRecDepth 20000 in
theorem ggX2_linkCycles_X2_setCycle : GoodIn wsX2_linkCycles wsX2_setCycle := goodIn_r _ [26, 7, 9, 10, 11, 5, 12, 1, 27, 28, 29, 30, 31] (by decide +kernel) (by decide +kernel)
set_option maxRecDepth 20000 in
theorem gX2_linkCycles_X2_setCycle : GoodIn wsX2_linkCycles (wsV RX2 72 RX2 yX2_setCycle wsX2_setCycle) := goodIn_app (goodIn_of _ (by decide +kernel)) ggX2_linkCycles_X2_setCycle
theorem dX2_linkCycles_0 : decode cX2_linkCycles 0 = .ok (.iconst 0, 1) := by decide +kernel
theorem dX2_linkCycles_1 : decode cX2_linkCycles 1 = .ok (.istore_n 1, 1) := by decide +kernel
theorem dX2_linkCycles_2 : decode cX2_linkCycles 2 = .ok (.iload_n 1, 1) := by decide +kernel
theorem dX2_linkCycles_3 : decode cX2_linkCycles 3 = .ok (.aload_n 0, 1) := by decide +kernel
theorem dX2_linkCycles_4 : decode cX2_linkCycles 4 = .ok (.getfield 23, 3) := by decide +kernel
theorem dX2_linkCycles_7 : decode cX2_linkCycles 7 = .ok (.if_icmp .ge 52, 3) := by decide +kernel
theorem dX2_linkCycles_10 : decode cX2_linkCycles 10 = .ok (.aload_n 0, 1) := by decide +kernel
theorem dX2_linkCycles_11 : decode cX2_linkCycles 11 = .ok (.iload_n 1, 1) := by decide +kernel
theorem dX2_linkCycles_12 : decode cX2_linkCycles 12 = .ok (.iconst 0, 1) := by decide +kernel
theorem dX2_linkCycles_13 : decode cX2_linkCycles 13 = .ok (.invokevirtual 75, 3) := by decide +kernel
theorem dX2_linkCycles_16 : decode cX2_linkCycles 16 = .ok (.istore_n 2, 1) := by decide +kernel
theorem dX2_linkCycles_17 : decode cX2_linkCycles 17 = .ok (.aload_n 0, 1) := by decide +kernel
theorem dX2_linkCycles_18 : decode cX2_linkCycles 18 = .ok (.iload_n 1, 1) := by decide +kernel
theorem dX2_linkCycles_19 : decode cX2_linkCycles 19 = .ok (.iconst 3, 1) := by decide +kernel
theorem dX2_linkCycles_20 : decode cX2_linkCycles 20 = .ok (.aload_n 0, 1) := by decide +kernel
theorem dX2_linkCycles_21 : decode cX2_linkCycles 21 = .ok (.aload_n 0, 1) := by decide +kernel
theorem dX2_linkCycles_22 : decode cX2_linkCycles 22 = .ok (.iload_n 2, 1) := by decide +kernel
theorem dX2_linkCycles_23 : decode cX2_linkCycles 23 = .ok (.bipush 6, 2) := by decide +kernel
theorem dX2_linkCycles_25 : decode cX2_linkCycles 25 = .ok (.invokevirtual 61, 3) := by decide +kernel
theorem dX2_linkCycles_28 : decode cX2_linkCycles 28 = .ok (.iconst 3, 1) := by decide +kernel
theorem dX2_linkCycles_29 : decode cX2_linkCycles 29 = .ok (.invokevirtual 61, 3) := by decide +kernel
theorem dX2_linkCycles_32 : decode cX2_linkCycles 32 = .ok (.invokevirtual 72, 3) := by decide +kernel
theorem dX2_linkCycles_35 : decode cX2_linkCycles 35 = .ok (.aload_n 0, 1) := by decide +kernel
theorem dX2_linkCycles_36 : decode cX2_linkCycles 36 = .ok (.iload_n 1, 1) := by decide +kernel
theorem dX2_linkCycles_37 : decode cX2_linkCycles 37 = .ok (.iconst 4, 1) := by decide +kernel
theorem dX2_linkCycles_38 : decode cX2_linkCycles 38 = .ok (.aload_n 0, 1) := by decide +kernel
theorem dX2_linkCycles_39 : decode cX2_linkCycles 39 = .ok (.aload_n 0, 1) := by decide +kernel
theorem dX2_linkCycles_40 : decode cX2_linkCycles 40 = .ok (.iload_n 2, 1) := by decide +kernel
theorem dX2_linkCycles_41 : decode cX2_linkCycles 41 = .ok (.bipush 7, 2) := by decide +kernel
theorem dX2_linkCycles_43 : decode cX2_linkCycles 43 = .ok (.invokevirtual 61, 3) := by decide +kernel
theorem dX2_linkCycles_46 : decode cX2_linkCycles 46 = .ok (.iconst 3, 1) := by decide +kernel
theorem dX2_linkCycles_47 : decode cX2_linkCycles 47 = .ok (.invokevirtual 61, 3) := by decide +kernel
theorem dX2_linkCycles_50 : decode cX2_linkCycles 50 = .ok (.invokevirtual 72, 3) := by decide +kernel
theorem dX2_linkCycles_53 : decode cX2_linkCycles 53 = .ok (.iinc 1 1, 3) := by decide +kernel
theorem dX2_linkCycles_56 : decode cX2_linkCycles 56 = .ok (.goto (-54), 3) := by decide +kernel
theorem dX2_linkCycles_59 : decode cX2_linkCycles 59 = .ok (.return_, 1) := by decide +kernel
set_option maxRecDepth 20000 in
theorem ggX2_find_X2_isAfter : GoodIn wsX2_find wsX2_isAfter := goodIn_r _ [7, 8, 9, 10, 6, 11, 12, 2, 13, 14, 15, 16, 1, 17, 18, 19, 20, 21] (by decide +kernel) (by decide +kernel)
set_option maxRecDepth 20000 in
theorem gX2_find_X2_isAfter : GoodIn wsX2_find (wsV RX2 78 RX2 yX2_isAfter wsX2_isAfter) := goodIn_app (goodIn_of _ (by decide +kernel)) ggX2_find_X2_isAfter
set_option maxRecDepth 20000 in
theorem ggX2_find_X2_ofForm : GoodIn wsX2_find wsX2_ofForm := goodIn_r _ [11, 12, 2, 13, 14, 15, 6, 16, 1, 17, 18, 19, 20, 21] (by decide +kernel) (by decide +kernel)
set_option maxRecDepth 20000 in
theorem gX2_find_X2_ofForm : GoodIn wsX2_find (wsV RX2 61 RX2 yX2_ofForm wsX2_ofForm) := goodIn_app (goodIn_of _ (by decide +kernel)) ggX2_find_X2_ofForm
theorem dX2_find_0 : decode cX2_find 0 = .ok (.iconst 0, 1) := by decide +kernel
theorem dX2_find_1 : decode cX2_find 1 = .ok (.istore 4, 2) := by decide +kernel
theorem dX2_find_3 : decode cX2_find 3 = .ok (.sipush 256, 3) := by decide +kernel
theorem dX2_find_6 : decode cX2_find 6 = .ok (.istore 5, 2) := by decide +kernel
theorem dX2_find_8 : decode cX2_find 8 = .ok (.iload 5, 2) := by decide +kernel
theorem dX2_find_10 : decode cX2_find 10 = .ok (.ifCond .le 45, 3) := by decide +kernel
theorem dX2_find_13 : decode cX2_find 13 = .ok (.iload 4, 2) := by decide +kernel
theorem dX2_find_15 : decode cX2_find 15 = .ok (.iload 5, 2) := by decide +kernel
theorem dX2_find_17 : decode cX2_find 17 = .ok (.iadd, 1) := by decide +kernel
theorem dX2_find_18 : decode cX2_find 18 = .ok (.aload_n 0, 1) := by decide +kernel
theorem dX2_find_19 : decode cX2_find 19 = .ok (.getfield 19, 3) := by decide +kernel
theorem dX2_find_22 : decode cX2_find 22 = .ok (.if_icmp .ge 24, 3) := by decide +kernel
theorem dX2_find_25 : decode cX2_find 25 = .ok (.aload_n 0, 1) := by decide +kernel
theorem dX2_find_26 : decode cX2_find 26 = .ok (.iload 4, 2) := by decide +kernel
theorem dX2_find_28 : decode cX2_find 28 = .ok (.iload 5, 2) := by decide +kernel
theorem dX2_find_30 : decode cX2_find 30 = .ok (.iadd, 1) := by decide +kernel
theorem dX2_find_31 : decode cX2_find 31 = .ok (.iload_n 1, 1) := by decide +kernel
theorem dX2_find_32 : decode cX2_find 32 = .ok (.iload_n 2, 1) := by decide +kernel
theorem dX2_find_33 : decode cX2_find 33 = .ok (.invokevirtual 78, 3) := by decide +kernel
theorem dX2_find_36 : decode cX2_find 36 = .ok (.ifCond .ne 10, 3) := by decide +kernel
theorem dX2_find_39 : decode cX2_find 39 = .ok (.iload 4, 2) := by decide +kernel
theorem dX2_find_41 : decode cX2_find 41 = .ok (.iload 5, 2) := by decide +kernel
theorem dX2_find_43 : decode cX2_find 43 = .ok (.iadd, 1) := by decide +kernel
theorem dX2_find_44 : decode cX2_find 44 = .ok (.istore 4, 2) := by decide +kernel
theorem dX2_find_46 : decode cX2_find 46 = .ok (.iload 5, 2) := by decide +kernel
theorem dX2_find_48 : decode cX2_find 48 = .ok (.iconst 2, 1) := by decide +kernel
theorem dX2_find_49 : decode cX2_find 49 = .ok (.idiv, 1) := by decide +kernel
theorem dX2_find_50 : decode cX2_find 50 = .ok (.istore 5, 2) := by decide +kernel
theorem dX2_find_52 : decode cX2_find 52 = .ok (.goto (-44), 3) := by decide +kernel
theorem dX2_find_55 : decode cX2_find 55 = .ok (.aload_n 0, 1) := by decide +kernel
theorem dX2_find_56 : decode cX2_find 56 = .ok (.iload 4, 2) := by decide +kernel
theorem dX2_find_58 : decode cX2_find 58 = .ok (.iconst 0, 1) := by decide +kernel
theorem dX2_find_59 : decode cX2_find 59 = .ok (.invokevirtual 61, 3) := by decide +kernel
theorem dX2_find_62 : decode cX2_find 62 = .ok (.iload_n 1, 1) := by decide +kernel
theorem dX2_find_63 : decode cX2_find 63 = .ok (.if_icmp .ne 29, 3) := by decide +kernel
theorem dX2_find_66 : decode cX2_find 66 = .ok (.aload_n 0, 1) := by decide +kernel
theorem dX2_find_67 : decode cX2_find 67 = .ok (.iload 4, 2) := by decide +kernel
theorem dX2_find_69 : decode cX2_find 69 = .ok (.iconst 1, 1) := by decide +kernel
theorem dX2_find_70 : decode cX2_find 70 = .ok (.invokevirtual 61, 3) := by decide +kernel
theorem dX2_find_73 : decode cX2_find 73 = .ok (.iload_n 2, 1) := by decide +kernel
theorem dX2_find_74 : decode cX2_find 74 = .ok (.if_icmp .ne 18, 3) := by decide +kernel
theorem dX2_find_77 : decode cX2_find 77 = .ok (.aload_n 0, 1) := by decide +kernel
theorem dX2_find_78 : decode cX2_find 78 = .ok (.iload 4, 2) := by decide +kernel
theorem dX2_find_80 : decode cX2_find 80 = .ok (.iconst 2, 1) := by decide +kernel
theorem dX2_find_81 : decode cX2_find 81 = .ok (.invokevirtual 61, 3) := by decide +kernel
theorem dX2_find_84 : decode cX2_find 84 = .ok (.iload_n 3, 1) := by decide +kernel
theorem dX2_find_85 : decode cX2_find 85 = .ok (.if_icmp .ne 7, 3) := by decide +kernel
theorem dX2_find_88 : decode cX2_find 88 = .ok (.iconst 1, 1) := by decide +kernel
theorem dX2_find_89 : decode cX2_find 89 = .ok (.goto 4, 3) := by decide +kernel
theorem dX2_find_92 : decode cX2_find 92 = .ok (.iconst 0, 1) := by decide +kernel
theorem dX2_find_93 : decode cX2_find 93 = .ok (.istore 5, 2) := by decide +kernel
theorem dX2_find_95 : decode cX2_find 95 = .ok (.iload 5, 2) := by decide +kernel
theorem dX2_find_97 : decode cX2_find 97 = .ok (.ifCond .eq 8, 3) := by decide +kernel
theorem dX2_find_100 : decode cX2_find 100 = .ok (.iload 4, 2) := by decide +kernel
theorem dX2_find_102 : decode cX2_find 102 = .ok (.goto 5, 3) := by decide +kernel
theorem dX2_find_105 : decode cX2_find 105 = .ok (.ldc 30, 2) := by decide +kernel
theorem dX2_find_107 : decode cX2_find 107 = .ok (.ireturn, 1) := by decide +kernel
set_option maxRecDepth 20000 in
theorem ggX2_isAfter_X2_ofForm : GoodIn wsX2_isAfter wsX2_ofForm := goodIn_r _ [5, 6, 7, 8, 9, 10, 4, 11, 12, 13, 14, 15, 16, 17] (by decide +kernel) (by decide +kernel)
set_option maxRecDepth 20000 in
theorem gX2_isAfter_X2_ofForm : GoodIn wsX2_isAfter (wsV RX2 61 RX2 yX2_ofForm wsX2_ofForm) := goodIn_app (goodIn_of _ (by decide +kernel)) ggX2_isAfter_X2_ofForm
theorem dX2_isAfter_0 : decode cX2_isAfter 0 = .ok (.aload_n 0, 1) := by decide +kernel
theorem dX2_isAfter_1 : decode cX2_isAfter 1 = .ok (.iload_n 1, 1) := by decide +kernel
theorem dX2_isAfter_2 : decode cX2_isAfter 2 = .ok (.iconst 1, 1) := by decide +kernel
theorem dX2_isAfter_3 : decode cX2_isAfter 3 = .ok (.invokevirtual 61, 3) := by decide +kernel
theorem dX2_isAfter_6 : decode cX2_isAfter 6 = .ok (.istore 4, 2) := by decide +kernel
theorem dX2_isAfter_8 : decode cX2_isAfter 8 = .ok (.iload 4, 2) := by decide +kernel
theorem dX2_isAfter_10 : decode cX2_isAfter 10 = .ok (.iload_n 3, 1) := by decide +kernel
theorem dX2_isAfter_11 : decode cX2_isAfter 11 = .ok (.if_icmp .gt 19, 3) := by decide +kernel
theorem dX2_isAfter_14 : decode cX2_isAfter 14 = .ok (.iload 4, 2) := by decide +kernel
theorem dX2_isAfter_16 : decode cX2_isAfter 16 = .ok (.iload_n 3, 1) := by decide +kernel
theorem dX2_isAfter_17 : decode cX2_isAfter 17 = .ok (.if_icmp .ne 17, 3) := by decide +kernel
theorem dX2_isAfter_20 : decode cX2_isAfter 20 = .ok (.aload_n 0, 1) := by decide +kernel
theorem dX2_isAfter_21 : decode cX2_isAfter 21 = .ok (.iload_n 1, 1) := by decide +kernel
theorem dX2_isAfter_22 : decode cX2_isAfter 22 = .ok (.iconst 0, 1) := by decide +kernel
theorem dX2_isAfter_23 : decode cX2_isAfter 23 = .ok (.invokevirtual 61, 3) := by decide +kernel
theorem dX2_isAfter_26 : decode cX2_isAfter 26 = .ok (.iload_n 2, 1) := by decide +kernel
theorem dX2_isAfter_27 : decode cX2_isAfter 27 = .ok (.if_icmp .le 7, 3) := by decide +kernel
theorem dX2_isAfter_30 : decode cX2_isAfter 30 = .ok (.iconst 1, 1) := by decide +kernel
theorem dX2_isAfter_31 : decode cX2_isAfter 31 = .ok (.goto 4, 3) := by decide +kernel
theorem dX2_isAfter_34 : decode cX2_isAfter 34 = .ok (.iconst 0, 1) := by decide +kernel
theorem dX2_isAfter_35 : decode cX2_isAfter 35 = .ok (.ireturn, 1) := by decide +kernel
set_option maxRecDepth 20000 in
theorem ggX2_letterAt_X2_ofCycle : GoodIn wsX2_letterAt wsX2_ofCycle := goodIn_r _ [5, 6, 7, 8, 9, 10, 4, 11, 12, 23, 24, 25, 26, 27] (by decide +kernel) (by decide +kernel)
set_option maxRecDepth 20000 in
theorem gX2_letterAt_X2_ofCycle : GoodIn wsX2_letterAt (wsV RX2 75 RX2 yX2_ofCycle wsX2_ofCycle) := goodIn_app (goodIn_of _ (by decide +kernel)) ggX2_letterAt_X2_ofCycle
set_option maxRecDepth 20000 in
theorem ggX2_letterAt_X2_ofForm : GoodIn wsX2_letterAt wsX2_ofForm := goodIn_r _ [16, 17, 7, 18, 19, 20, 4, 21, 22, 23, 24, 25, 26, 27] (by decide +kernel) (by decide +kernel)
set_option maxRecDepth 20000 in
theorem gX2_letterAt_X2_ofForm : GoodIn wsX2_letterAt (wsV RX2 61 RX2 yX2_ofForm wsX2_ofForm) := goodIn_app (goodIn_of _ (by decide +kernel)) ggX2_letterAt_X2_ofForm
theorem dX2_letterAt_0 : decode cX2_letterAt 0 = .ok (.aload_n 0, 1) := by decide +kernel
theorem dX2_letterAt_1 : decode cX2_letterAt 1 = .ok (.iload_n 1, 1) := by decide +kernel
theorem dX2_letterAt_2 : decode cX2_letterAt 2 = .ok (.iconst 0, 1) := by decide +kernel
theorem dX2_letterAt_3 : decode cX2_letterAt 3 = .ok (.invokevirtual 75, 3) := by decide +kernel
theorem dX2_letterAt_6 : decode cX2_letterAt 6 = .ok (.istore_n 3, 1) := by decide +kernel
theorem dX2_letterAt_7 : decode cX2_letterAt 7 = .ok (.iconst 0, 1) := by decide +kernel
theorem dX2_letterAt_8 : decode cX2_letterAt 8 = .ok (.istore 4, 2) := by decide +kernel
theorem dX2_letterAt_10 : decode cX2_letterAt 10 = .ok (.iload 4, 2) := by decide +kernel
theorem dX2_letterAt_12 : decode cX2_letterAt 12 = .ok (.iload_n 2, 1) := by decide +kernel
theorem dX2_letterAt_13 : decode cX2_letterAt 13 = .ok (.if_icmp .ge 16, 3) := by decide +kernel
theorem dX2_letterAt_16 : decode cX2_letterAt 16 = .ok (.aload_n 0, 1) := by decide +kernel
theorem dX2_letterAt_17 : decode cX2_letterAt 17 = .ok (.iload_n 3, 1) := by decide +kernel
theorem dX2_letterAt_18 : decode cX2_letterAt 18 = .ok (.iconst 4, 1) := by decide +kernel
theorem dX2_letterAt_19 : decode cX2_letterAt 19 = .ok (.invokevirtual 61, 3) := by decide +kernel
theorem dX2_letterAt_22 : decode cX2_letterAt 22 = .ok (.istore_n 3, 1) := by decide +kernel
theorem dX2_letterAt_23 : decode cX2_letterAt 23 = .ok (.iinc 4 1, 3) := by decide +kernel
theorem dX2_letterAt_26 : decode cX2_letterAt 26 = .ok (.goto (-16), 3) := by decide +kernel
theorem dX2_letterAt_29 : decode cX2_letterAt 29 = .ok (.aload_n 0, 1) := by decide +kernel
theorem dX2_letterAt_30 : decode cX2_letterAt 30 = .ok (.iload_n 3, 1) := by decide +kernel
theorem dX2_letterAt_31 : decode cX2_letterAt 31 = .ok (.iconst 5, 1) := by decide +kernel
theorem dX2_letterAt_32 : decode cX2_letterAt 32 = .ok (.invokevirtual 61, 3) := by decide +kernel
theorem dX2_letterAt_35 : decode cX2_letterAt 35 = .ok (.ireturn, 1) := by decide +kernel
set_option maxRecDepth 20000 in
theorem ggX2_wordBits_X2_ofCycle : GoodIn wsX2_wordBits wsX2_ofCycle := goodIn_r _ [5, 6, 7, 8, 9, 10, 4, 11, 12, 23, 24, 25, 26, 27] (by decide +kernel) (by decide +kernel)
set_option maxRecDepth 20000 in
theorem gX2_wordBits_X2_ofCycle : GoodIn wsX2_wordBits (wsV RX2 75 RX2 yX2_ofCycle wsX2_ofCycle) := goodIn_app (goodIn_of _ (by decide +kernel)) ggX2_wordBits_X2_ofCycle
set_option maxRecDepth 20000 in
theorem ggX2_wordBits_X2_ofForm : GoodIn wsX2_wordBits wsX2_ofForm := goodIn_r _ [16, 17, 7, 18, 19, 20, 4, 21, 22, 23, 24, 25, 26, 27] (by decide +kernel) (by decide +kernel)
set_option maxRecDepth 20000 in
theorem gX2_wordBits_X2_ofForm : GoodIn wsX2_wordBits (wsV RX2 61 RX2 yX2_ofForm wsX2_ofForm) := goodIn_app (goodIn_of _ (by decide +kernel)) ggX2_wordBits_X2_ofForm
theorem dX2_wordBits_0 : decode cX2_wordBits 0 = .ok (.aload_n 0, 1) := by decide +kernel
theorem dX2_wordBits_1 : decode cX2_wordBits 1 = .ok (.iload_n 1, 1) := by decide +kernel
theorem dX2_wordBits_2 : decode cX2_wordBits 2 = .ok (.iconst 1, 1) := by decide +kernel
theorem dX2_wordBits_3 : decode cX2_wordBits 3 = .ok (.invokevirtual 75, 3) := by decide +kernel
theorem dX2_wordBits_6 : decode cX2_wordBits 6 = .ok (.istore_n 2, 1) := by decide +kernel
theorem dX2_wordBits_7 : decode cX2_wordBits 7 = .ok (.aload_n 0, 1) := by decide +kernel
theorem dX2_wordBits_8 : decode cX2_wordBits 8 = .ok (.iload_n 1, 1) := by decide +kernel
theorem dX2_wordBits_9 : decode cX2_wordBits 9 = .ok (.iconst 0, 1) := by decide +kernel
theorem dX2_wordBits_10 : decode cX2_wordBits 10 = .ok (.invokevirtual 75, 3) := by decide +kernel
theorem dX2_wordBits_13 : decode cX2_wordBits 13 = .ok (.istore_n 3, 1) := by decide +kernel
theorem dX2_wordBits_14 : decode cX2_wordBits 14 = .ok (.iconst 0, 1) := by decide +kernel
theorem dX2_wordBits_15 : decode cX2_wordBits 15 = .ok (.istore 4, 2) := by decide +kernel
theorem dX2_wordBits_17 : decode cX2_wordBits 17 = .ok (.iconst 0, 1) := by decide +kernel
theorem dX2_wordBits_18 : decode cX2_wordBits 18 = .ok (.istore 5, 2) := by decide +kernel
theorem dX2_wordBits_20 : decode cX2_wordBits 20 = .ok (.iload 5, 2) := by decide +kernel
theorem dX2_wordBits_22 : decode cX2_wordBits 22 = .ok (.iload_n 2, 1) := by decide +kernel
theorem dX2_wordBits_23 : decode cX2_wordBits 23 = .ok (.if_icmp .ge 39, 3) := by decide +kernel
theorem dX2_wordBits_26 : decode cX2_wordBits 26 = .ok (.iload 4, 2) := by decide +kernel
theorem dX2_wordBits_28 : decode cX2_wordBits 28 = .ok (.iconst 1, 1) := by decide +kernel
theorem dX2_wordBits_29 : decode cX2_wordBits 29 = .ok (.ishl, 1) := by decide +kernel
theorem dX2_wordBits_30 : decode cX2_wordBits 30 = .ok (.aload_n 0, 1) := by decide +kernel
theorem dX2_wordBits_31 : decode cX2_wordBits 31 = .ok (.iload_n 3, 1) := by decide +kernel
theorem dX2_wordBits_32 : decode cX2_wordBits 32 = .ok (.iconst 5, 1) := by decide +kernel
theorem dX2_wordBits_33 : decode cX2_wordBits 33 = .ok (.invokevirtual 61, 3) := by decide +kernel
theorem dX2_wordBits_36 : decode cX2_wordBits 36 = .ok (.bipush 82, 2) := by decide +kernel
theorem dX2_wordBits_38 : decode cX2_wordBits 38 = .ok (.if_icmp .ne 7, 3) := by decide +kernel
theorem dX2_wordBits_41 : decode cX2_wordBits 41 = .ok (.iconst 1, 1) := by decide +kernel
theorem dX2_wordBits_42 : decode cX2_wordBits 42 = .ok (.goto 4, 3) := by decide +kernel
theorem dX2_wordBits_45 : decode cX2_wordBits 45 = .ok (.iconst 0, 1) := by decide +kernel
theorem dX2_wordBits_46 : decode cX2_wordBits 46 = .ok (.ior, 1) := by decide +kernel
theorem dX2_wordBits_47 : decode cX2_wordBits 47 = .ok (.istore 4, 2) := by decide +kernel
theorem dX2_wordBits_49 : decode cX2_wordBits 49 = .ok (.aload_n 0, 1) := by decide +kernel
theorem dX2_wordBits_50 : decode cX2_wordBits 50 = .ok (.iload_n 3, 1) := by decide +kernel
theorem dX2_wordBits_51 : decode cX2_wordBits 51 = .ok (.iconst 4, 1) := by decide +kernel
theorem dX2_wordBits_52 : decode cX2_wordBits 52 = .ok (.invokevirtual 61, 3) := by decide +kernel
theorem dX2_wordBits_55 : decode cX2_wordBits 55 = .ok (.istore_n 3, 1) := by decide +kernel
theorem dX2_wordBits_56 : decode cX2_wordBits 56 = .ok (.iinc 5 1, 3) := by decide +kernel
theorem dX2_wordBits_59 : decode cX2_wordBits 59 = .ok (.goto (-39), 3) := by decide +kernel
theorem dX2_wordBits_62 : decode cX2_wordBits 62 = .ok (.iload 4, 2) := by decide +kernel
theorem dX2_wordBits_64 : decode cX2_wordBits 64 = .ok (.ireturn, 1) := by decide +kernel
set_option maxRecDepth 20000 in
theorem ggX2_traceRemainder_X2_ofCycle : GoodIn wsX2_traceRemainder wsX2_ofCycle := goodIn_r _ [9, 10, 11, 12, 13, 14, 8, 15, 16, 27, 28, 29, 30, 31] (by decide +kernel) (by decide +kernel)
set_option maxRecDepth 20000 in
theorem gX2_traceRemainder_X2_ofCycle : GoodIn wsX2_traceRemainder (wsV RX2 75 RX2 yX2_ofCycle wsX2_ofCycle) := goodIn_app (goodIn_of _ (by decide +kernel)) ggX2_traceRemainder_X2_ofCycle
set_option maxRecDepth 20000 in
theorem ggX2_traceRemainder_X2_ofForm : GoodIn wsX2_traceRemainder wsX2_ofForm := goodIn_r _ [20, 21, 11, 22, 23, 24, 8, 25, 26, 27, 28, 29, 30, 31] (by decide +kernel) (by decide +kernel)
set_option maxRecDepth 20000 in
theorem gX2_traceRemainder_X2_ofForm : GoodIn wsX2_traceRemainder (wsV RX2 61 RX2 yX2_ofForm wsX2_ofForm) := goodIn_app (goodIn_of _ (by decide +kernel)) ggX2_traceRemainder_X2_ofForm
theorem dX2_traceRemainder_0 : decode cX2_traceRemainder 0 = .ok (.iconst 1, 1) := by decide +kernel
theorem dX2_traceRemainder_1 : decode cX2_traceRemainder 1 = .ok (.iload_n 2, 1) := by decide +kernel
theorem dX2_traceRemainder_2 : decode cX2_traceRemainder 2 = .ok (.invokestatic 82, 3) := by decide +kernel
theorem dX2_traceRemainder_5 : decode cX2_traceRemainder 5 = .ok (.istore_n 3, 1) := by decide +kernel
theorem dX2_traceRemainder_6 : decode cX2_traceRemainder 6 = .ok (.aload_n 0, 1) := by decide +kernel
theorem dX2_traceRemainder_7 : decode cX2_traceRemainder 7 = .ok (.iload_n 1, 1) := by decide +kernel
theorem dX2_traceRemainder_8 : decode cX2_traceRemainder 8 = .ok (.iconst 1, 1) := by decide +kernel
theorem dX2_traceRemainder_9 : decode cX2_traceRemainder 9 = .ok (.invokevirtual 75, 3) := by decide +kernel
theorem dX2_traceRemainder_12 : decode cX2_traceRemainder 12 = .ok (.istore 4, 2) := by decide +kernel
theorem dX2_traceRemainder_14 : decode cX2_traceRemainder 14 = .ok (.aload_n 0, 1) := by decide +kernel
theorem dX2_traceRemainder_15 : decode cX2_traceRemainder 15 = .ok (.iload_n 1, 1) := by decide +kernel
theorem dX2_traceRemainder_16 : decode cX2_traceRemainder 16 = .ok (.iconst 0, 1) := by decide +kernel
theorem dX2_traceRemainder_17 : decode cX2_traceRemainder 17 = .ok (.invokevirtual 75, 3) := by decide +kernel
theorem dX2_traceRemainder_20 : decode cX2_traceRemainder 20 = .ok (.istore 5, 2) := by decide +kernel
theorem dX2_traceRemainder_22 : decode cX2_traceRemainder 22 = .ok (.iconst 1, 1) := by decide +kernel
theorem dX2_traceRemainder_23 : decode cX2_traceRemainder 23 = .ok (.istore 6, 2) := by decide +kernel
theorem dX2_traceRemainder_25 : decode cX2_traceRemainder 25 = .ok (.iconst 0, 1) := by decide +kernel
theorem dX2_traceRemainder_26 : decode cX2_traceRemainder 26 = .ok (.istore 7, 2) := by decide +kernel
theorem dX2_traceRemainder_28 : decode cX2_traceRemainder 28 = .ok (.iconst 0, 1) := by decide +kernel
theorem dX2_traceRemainder_29 : decode cX2_traceRemainder 29 = .ok (.istore 8, 2) := by decide +kernel
theorem dX2_traceRemainder_31 : decode cX2_traceRemainder 31 = .ok (.iconst 1, 1) := by decide +kernel
theorem dX2_traceRemainder_32 : decode cX2_traceRemainder 32 = .ok (.istore 9, 2) := by decide +kernel
theorem dX2_traceRemainder_34 : decode cX2_traceRemainder 34 = .ok (.iconst 0, 1) := by decide +kernel
theorem dX2_traceRemainder_35 : decode cX2_traceRemainder 35 = .ok (.istore 10, 2) := by decide +kernel
theorem dX2_traceRemainder_37 : decode cX2_traceRemainder 37 = .ok (.iload 10, 2) := by decide +kernel
theorem dX2_traceRemainder_39 : decode cX2_traceRemainder 39 = .ok (.iload 4, 2) := by decide +kernel
theorem dX2_traceRemainder_41 : decode cX2_traceRemainder 41 = .ok (.if_icmp .ge 69, 3) := by decide +kernel
theorem dX2_traceRemainder_44 : decode cX2_traceRemainder 44 = .ok (.aload_n 0, 1) := by decide +kernel
theorem dX2_traceRemainder_45 : decode cX2_traceRemainder 45 = .ok (.iload 5, 2) := by decide +kernel
theorem dX2_traceRemainder_47 : decode cX2_traceRemainder 47 = .ok (.iconst 5, 1) := by decide +kernel
theorem dX2_traceRemainder_48 : decode cX2_traceRemainder 48 = .ok (.invokevirtual 61, 3) := by decide +kernel
theorem dX2_traceRemainder_51 : decode cX2_traceRemainder 51 = .ok (.bipush 82, 2) := by decide +kernel
theorem dX2_traceRemainder_53 : decode cX2_traceRemainder 53 = .ok (.if_icmp .ne 24, 3) := by decide +kernel
theorem dX2_traceRemainder_56 : decode cX2_traceRemainder 56 = .ok (.iload 6, 2) := by decide +kernel
theorem dX2_traceRemainder_58 : decode cX2_traceRemainder 58 = .ok (.iload 7, 2) := by decide +kernel
theorem dX2_traceRemainder_60 : decode cX2_traceRemainder 60 = .ok (.iadd, 1) := by decide +kernel
theorem dX2_traceRemainder_61 : decode cX2_traceRemainder 61 = .ok (.iload_n 3, 1) := by decide +kernel
theorem dX2_traceRemainder_62 : decode cX2_traceRemainder 62 = .ok (.irem, 1) := by decide +kernel
theorem dX2_traceRemainder_63 : decode cX2_traceRemainder 63 = .ok (.istore 7, 2) := by decide +kernel
theorem dX2_traceRemainder_65 : decode cX2_traceRemainder 65 = .ok (.iload 8, 2) := by decide +kernel
theorem dX2_traceRemainder_67 : decode cX2_traceRemainder 67 = .ok (.iload 9, 2) := by decide +kernel
theorem dX2_traceRemainder_69 : decode cX2_traceRemainder 69 = .ok (.iadd, 1) := by decide +kernel
theorem dX2_traceRemainder_70 : decode cX2_traceRemainder 70 = .ok (.iload_n 3, 1) := by decide +kernel
theorem dX2_traceRemainder_71 : decode cX2_traceRemainder 71 = .ok (.irem, 1) := by decide +kernel
theorem dX2_traceRemainder_72 : decode cX2_traceRemainder 72 = .ok (.istore 9, 2) := by decide +kernel
theorem dX2_traceRemainder_74 : decode cX2_traceRemainder 74 = .ok (.goto 21, 3) := by decide +kernel
theorem dX2_traceRemainder_77 : decode cX2_traceRemainder 77 = .ok (.iload 6, 2) := by decide +kernel
theorem dX2_traceRemainder_79 : decode cX2_traceRemainder 79 = .ok (.iload 7, 2) := by decide +kernel
theorem dX2_traceRemainder_81 : decode cX2_traceRemainder 81 = .ok (.iadd, 1) := by decide +kernel
theorem dX2_traceRemainder_82 : decode cX2_traceRemainder 82 = .ok (.iload_n 3, 1) := by decide +kernel
theorem dX2_traceRemainder_83 : decode cX2_traceRemainder 83 = .ok (.irem, 1) := by decide +kernel
theorem dX2_traceRemainder_84 : decode cX2_traceRemainder 84 = .ok (.istore 6, 2) := by decide +kernel
theorem dX2_traceRemainder_86 : decode cX2_traceRemainder 86 = .ok (.iload 8, 2) := by decide +kernel
theorem dX2_traceRemainder_88 : decode cX2_traceRemainder 88 = .ok (.iload 9, 2) := by decide +kernel
theorem dX2_traceRemainder_90 : decode cX2_traceRemainder 90 = .ok (.iadd, 1) := by decide +kernel
theorem dX2_traceRemainder_91 : decode cX2_traceRemainder 91 = .ok (.iload_n 3, 1) := by decide +kernel
theorem dX2_traceRemainder_92 : decode cX2_traceRemainder 92 = .ok (.irem, 1) := by decide +kernel
theorem dX2_traceRemainder_93 : decode cX2_traceRemainder 93 = .ok (.istore 8, 2) := by decide +kernel
theorem dX2_traceRemainder_95 : decode cX2_traceRemainder 95 = .ok (.aload_n 0, 1) := by decide +kernel
theorem dX2_traceRemainder_96 : decode cX2_traceRemainder 96 = .ok (.iload 5, 2) := by decide +kernel
theorem dX2_traceRemainder_98 : decode cX2_traceRemainder 98 = .ok (.iconst 4, 1) := by decide +kernel
theorem dX2_traceRemainder_99 : decode cX2_traceRemainder 99 = .ok (.invokevirtual 61, 3) := by decide +kernel
theorem dX2_traceRemainder_102 : decode cX2_traceRemainder 102 = .ok (.istore 5, 2) := by decide +kernel
theorem dX2_traceRemainder_104 : decode cX2_traceRemainder 104 = .ok (.iinc 10 1, 3) := by decide +kernel
theorem dX2_traceRemainder_107 : decode cX2_traceRemainder 107 = .ok (.goto (-70), 3) := by decide +kernel
theorem dX2_traceRemainder_110 : decode cX2_traceRemainder 110 = .ok (.iload 6, 2) := by decide +kernel
theorem dX2_traceRemainder_112 : decode cX2_traceRemainder 112 = .ok (.iload 9, 2) := by decide +kernel
theorem dX2_traceRemainder_114 : decode cX2_traceRemainder 114 = .ok (.iadd, 1) := by decide +kernel
theorem dX2_traceRemainder_115 : decode cX2_traceRemainder 115 = .ok (.iload_n 3, 1) := by decide +kernel
theorem dX2_traceRemainder_116 : decode cX2_traceRemainder 116 = .ok (.irem, 1) := by decide +kernel
theorem dX2_traceRemainder_117 : decode cX2_traceRemainder 117 = .ok (.ireturn, 1) := by decide +kernel
set_option maxRecDepth 20000 in
theorem ggX2_follow_X2_find : GoodIn wsX2_follow wsX2_find := goodIn_r _ [9, 10, 11, 12, 13, 14, 8, 15, 16, 17, 18, 19, 20, 21, 22, 23, 24, 25, 26, 27, 28, 29] (by decide +kernel) (by decide +kernel)
set_option maxRecDepth 20000 in
theorem gX2_follow_X2_find : GoodIn wsX2_follow (wsV RX2 64 RX2 yX2_find wsX2_find) := goodIn_app (goodIn_of _ (by decide +kernel)) ggX2_follow_X2_find
theorem dX2_follow_0 : decode cX2_follow 0 = .ok (.iload_n 1, 1) := by decide +kernel
theorem dX2_follow_1 : decode cX2_follow 1 = .ok (.istore 5, 2) := by decide +kernel
theorem dX2_follow_3 : decode cX2_follow 3 = .ok (.iload_n 2, 1) := by decide +kernel
theorem dX2_follow_4 : decode cX2_follow 4 = .ok (.istore 6, 2) := by decide +kernel
theorem dX2_follow_6 : decode cX2_follow 6 = .ok (.iload_n 3, 1) := by decide +kernel
theorem dX2_follow_7 : decode cX2_follow 7 = .ok (.istore 7, 2) := by decide +kernel
theorem dX2_follow_9 : decode cX2_follow 9 = .ok (.iconst 0, 1) := by decide +kernel
theorem dX2_follow_10 : decode cX2_follow 10 = .ok (.istore 8, 2) := by decide +kernel
theorem dX2_follow_12 : decode cX2_follow 12 = .ok (.iload 8, 2) := by decide +kernel
theorem dX2_follow_14 : decode cX2_follow 14 = .ok (.sipush 2000, 3) := by decide +kernel
theorem dX2_follow_17 : decode cX2_follow 17 = .ok (.if_icmp .ge 123, 3) := by decide +kernel
theorem dX2_follow_20 : decode cX2_follow 20 = .ok (.iload 5, 2) := by decide +kernel
theorem dX2_follow_22 : decode cX2_follow 22 = .ok (.ifCond .le 7, 3) := by decide +kernel
theorem dX2_follow_25 : decode cX2_follow 25 = .ok (.iconst 1, 1) := by decide +kernel
theorem dX2_follow_26 : decode cX2_follow 26 = .ok (.goto 4, 3) := by decide +kernel
theorem dX2_follow_29 : decode cX2_follow 29 = .ok (.iconst 0, 1) := by decide +kernel
theorem dX2_follow_30 : decode cX2_follow 30 = .ok (.iload 7, 2) := by decide +kernel
theorem dX2_follow_32 : decode cX2_follow 32 = .ok (.ifCond .le 7, 3) := by decide +kernel
theorem dX2_follow_35 : decode cX2_follow 35 = .ok (.iconst 1, 1) := by decide +kernel
theorem dX2_follow_36 : decode cX2_follow 36 = .ok (.goto 4, 3) := by decide +kernel
theorem dX2_follow_39 : decode cX2_follow 39 = .ok (.iconst 0, 1) := by decide +kernel
theorem dX2_follow_40 : decode cX2_follow 40 = .ok (.if_icmp .ne 100, 3) := by decide +kernel
theorem dX2_follow_43 : decode cX2_follow 43 = .ok (.iload 5, 2) := by decide +kernel
theorem dX2_follow_45 : decode cX2_follow 45 = .ok (.ifCond .le 7, 3) := by decide +kernel
theorem dX2_follow_48 : decode cX2_follow 48 = .ok (.iconst 1, 1) := by decide +kernel
theorem dX2_follow_49 : decode cX2_follow 49 = .ok (.goto 4, 3) := by decide +kernel
theorem dX2_follow_52 : decode cX2_follow 52 = .ok (.iconst 0, 1) := by decide +kernel
theorem dX2_follow_53 : decode cX2_follow 53 = .ok (.iload 6, 2) := by decide +kernel
theorem dX2_follow_55 : decode cX2_follow 55 = .ok (.ifCond .le 7, 3) := by decide +kernel
theorem dX2_follow_58 : decode cX2_follow 58 = .ok (.iconst 1, 1) := by decide +kernel
theorem dX2_follow_59 : decode cX2_follow 59 = .ok (.goto 4, 3) := by decide +kernel
theorem dX2_follow_62 : decode cX2_follow 62 = .ok (.iconst 0, 1) := by decide +kernel
theorem dX2_follow_63 : decode cX2_follow 63 = .ok (.if_icmp .ne 7, 3) := by decide +kernel
theorem dX2_follow_66 : decode cX2_follow 66 = .ok (.iconst (-1), 1) := by decide +kernel
theorem dX2_follow_67 : decode cX2_follow 67 = .ok (.goto 4, 3) := by decide +kernel
theorem dX2_follow_70 : decode cX2_follow 70 = .ok (.iconst 1, 1) := by decide +kernel
theorem dX2_follow_71 : decode cX2_follow 71 = .ok (.istore 9, 2) := by decide +kernel
theorem dX2_follow_73 : decode cX2_follow 73 = .ok (.iload 5, 2) := by decide +kernel
theorem dX2_follow_75 : decode cX2_follow 75 = .ok (.iload 7, 2) := by decide +kernel
theorem dX2_follow_77 : decode cX2_follow 77 = .ok (.iadd, 1) := by decide +kernel
theorem dX2_follow_78 : decode cX2_follow 78 = .ok (.iload 9, 2) := by decide +kernel
theorem dX2_follow_80 : decode cX2_follow 80 = .ok (.iload 6, 2) := by decide +kernel
theorem dX2_follow_82 : decode cX2_follow 82 = .ok (.imul, 1) := by decide +kernel
theorem dX2_follow_83 : decode cX2_follow 83 = .ok (.iadd, 1) := by decide +kernel
theorem dX2_follow_84 : decode cX2_follow 84 = .ok (.istore 10, 2) := by decide +kernel
theorem dX2_follow_86 : decode cX2_follow 86 = .ok (.iload 5, 2) := by decide +kernel
theorem dX2_follow_88 : decode cX2_follow 88 = .ok (.invokestatic 87, 3) := by decide +kernel
theorem dX2_follow_91 : decode cX2_follow 91 = .ok (.iload 7, 2) := by decide +kernel
theorem dX2_follow_93 : decode cX2_follow 93 = .ok (.invokestatic 87, 3) := by decide +kernel
theorem dX2_follow_96 : decode cX2_follow 96 = .ok (.if_icmp .lt 22, 3) := by decide +kernel
theorem dX2_follow_99 : decode cX2_follow 99 = .ok (.iload 6, 2) := by decide +kernel
theorem dX2_follow_101 : decode cX2_follow 101 = .ok (.iconst 2, 1) := by decide +kernel
theorem dX2_follow_102 : decode cX2_follow 102 = .ok (.iload 9, 2) := by decide +kernel
theorem dX2_follow_104 : decode cX2_follow 104 = .ok (.imul, 1) := by decide +kernel
theorem dX2_follow_105 : decode cX2_follow 105 = .ok (.iload 7, 2) := by decide +kernel
theorem dX2_follow_107 : decode cX2_follow 107 = .ok (.imul, 1) := by decide +kernel
theorem dX2_follow_108 : decode cX2_follow 108 = .ok (.iadd, 1) := by decide +kernel
theorem dX2_follow_109 : decode cX2_follow 109 = .ok (.istore 6, 2) := by decide +kernel
theorem dX2_follow_111 : decode cX2_follow 111 = .ok (.iload 10, 2) := by decide +kernel
theorem dX2_follow_113 : decode cX2_follow 113 = .ok (.istore 5, 2) := by decide +kernel
theorem dX2_follow_115 : decode cX2_follow 115 = .ok (.goto 19, 3) := by decide +kernel
theorem dX2_follow_118 : decode cX2_follow 118 = .ok (.iload 6, 2) := by decide +kernel
theorem dX2_follow_120 : decode cX2_follow 120 = .ok (.iconst 2, 1) := by decide +kernel
theorem dX2_follow_121 : decode cX2_follow 121 = .ok (.iload 9, 2) := by decide +kernel
theorem dX2_follow_123 : decode cX2_follow 123 = .ok (.imul, 1) := by decide +kernel
theorem dX2_follow_124 : decode cX2_follow 124 = .ok (.iload 5, 2) := by decide +kernel
theorem dX2_follow_126 : decode cX2_follow 126 = .ok (.imul, 1) := by decide +kernel
theorem dX2_follow_127 : decode cX2_follow 127 = .ok (.iadd, 1) := by decide +kernel
theorem dX2_follow_128 : decode cX2_follow 128 = .ok (.istore 6, 2) := by decide +kernel
theorem dX2_follow_130 : decode cX2_follow 130 = .ok (.iload 10, 2) := by decide +kernel
theorem dX2_follow_132 : decode cX2_follow 132 = .ok (.istore 7, 2) := by decide +kernel
theorem dX2_follow_134 : decode cX2_follow 134 = .ok (.iinc 8 1, 3) := by decide +kernel
theorem dX2_follow_137 : decode cX2_follow 137 = .ok (.goto (-125), 3) := by decide +kernel
theorem dX2_follow_140 : decode cX2_follow 140 = .ok (.iload 4, 2) := by decide +kernel
theorem dX2_follow_142 : decode cX2_follow 142 = .ok (.ifCond .eq 6, 3) := by decide +kernel
theorem dX2_follow_145 : decode cX2_follow 145 = .ok (.iload 8, 2) := by decide +kernel
theorem dX2_follow_147 : decode cX2_follow 147 = .ok (.ireturn, 1) := by decide +kernel
theorem dX2_follow_148 : decode cX2_follow 148 = .ok (.iload 5, 2) := by decide +kernel
theorem dX2_follow_150 : decode cX2_follow 150 = .ok (.ifCond .ge 17, 3) := by decide +kernel
theorem dX2_follow_153 : decode cX2_follow 153 = .ok (.aload_n 0, 1) := by decide +kernel
theorem dX2_follow_154 : decode cX2_follow 154 = .ok (.iload 7, 2) := by decide +kernel
theorem dX2_follow_156 : decode cX2_follow 156 = .ok (.iload 6, 2) := by decide +kernel
theorem dX2_follow_158 : decode cX2_follow 158 = .ok (.ineg, 1) := by decide +kernel
theorem dX2_follow_159 : decode cX2_follow 159 = .ok (.iload 5, 2) := by decide +kernel
theorem dX2_follow_161 : decode cX2_follow 161 = .ok (.invokevirtual 64, 3) := by decide +kernel
theorem dX2_follow_164 : decode cX2_follow 164 = .ok (.goto 13, 3) := by decide +kernel
theorem dX2_follow_167 : decode cX2_follow 167 = .ok (.aload_n 0, 1) := by decide +kernel
theorem dX2_follow_168 : decode cX2_follow 168 = .ok (.iload 5, 2) := by decide +kernel
theorem dX2_follow_170 : decode cX2_follow 170 = .ok (.iload 6, 2) := by decide +kernel
theorem dX2_follow_172 : decode cX2_follow 172 = .ok (.iload 7, 2) := by decide +kernel
theorem dX2_follow_174 : decode cX2_follow 174 = .ok (.invokevirtual 64, 3) := by decide +kernel
theorem dX2_follow_177 : decode cX2_follow 177 = .ok (.ireturn, 1) := by decide +kernel
set_option maxRecDepth 20000 in
theorem ggX3_init_X3_become : GoodIn wsX3_init wsX3_become := goodIn_r _ [8, 9, 10, 11, 12, 13, 14, 15, 16, 17, 18, 7, 19, 20, 21, 22, 23, 24, 25, 26] (by decide +kernel) (by decide +kernel)
set_option maxRecDepth 20000 in
theorem gX3_init_X3_become : GoodIn wsX3_init (wsV RX3 9 RX3 yX3_become wsX3_become) := goodIn_app (goodIn_of _ (by decide +kernel)) ggX3_init_X3_become
theorem dX3_init_0 : decode cX3_init 0 = .ok (.aload_n 0, 1) := by decide +kernel
theorem dX3_init_1 : decode cX3_init 1 = .ok (.invokespecial 3, 3) := by decide +kernel
theorem dX3_init_4 : decode cX3_init 4 = .ok (.aload_n 0, 1) := by decide +kernel
theorem dX3_init_5 : decode cX3_init 5 = .ok (.iload_n 1, 1) := by decide +kernel
theorem dX3_init_6 : decode cX3_init 6 = .ok (.iload_n 2, 1) := by decide +kernel
theorem dX3_init_7 : decode cX3_init 7 = .ok (.invokevirtual 9, 3) := by decide +kernel
theorem dX3_init_10 : decode cX3_init 10 = .ok (.return_, 1) := by decide +kernel
set_option maxRecDepth 20000 in
theorem ggX3_become_X3_bitAt : GoodIn wsX3_become wsX3_bitAt := goodIn_r _ [12, 1, 2, 13, 14, 15, 16, 17, 18, 19] (by decide +kernel) (by decide +kernel)
set_option maxRecDepth 20000 in
theorem gX3_become_X3_bitAt : GoodIn wsX3_become (wsV RX3 37 RX3 yX3_bitAt wsX3_bitAt) := goodIn_app (goodIn_of _ (by decide +kernel)) ggX3_become_X3_bitAt
theorem dX3_become_0 : decode cX3_become 0 = .ok (.aload_n 0, 1) := by decide +kernel
theorem dX3_become_1 : decode cX3_become 1 = .ok (.iload_n 1, 1) := by decide +kernel
theorem dX3_become_2 : decode cX3_become 2 = .ok (.putfield 15, 3) := by decide +kernel
theorem dX3_become_5 : decode cX3_become 5 = .ok (.aload_n 0, 1) := by decide +kernel
theorem dX3_become_6 : decode cX3_become 6 = .ok (.iload_n 2, 1) := by decide +kernel
theorem dX3_become_7 : decode cX3_become 7 = .ok (.putfield 19, 3) := by decide +kernel
theorem dX3_become_10 : decode cX3_become 10 = .ok (.aload_n 0, 1) := by decide +kernel
theorem dX3_become_11 : decode cX3_become 11 = .ok (.iconst 1, 1) := by decide +kernel
theorem dX3_become_12 : decode cX3_become 12 = .ok (.iload_n 2, 1) := by decide +kernel
theorem dX3_become_13 : decode cX3_become 13 = .ok (.ishl, 1) := by decide +kernel
theorem dX3_become_14 : decode cX3_become 14 = .ok (.iconst 1, 1) := by decide +kernel
theorem dX3_become_15 : decode cX3_become 15 = .ok (.isub, 1) := by decide +kernel
theorem dX3_become_16 : decode cX3_become 16 = .ok (.putfield 22, 3) := by decide +kernel
theorem dX3_become_19 : decode cX3_become 19 = .ok (.aload_n 0, 1) := by decide +kernel
theorem dX3_become_20 : decode cX3_become 20 = .ok (.iconst 1, 1) := by decide +kernel
theorem dX3_become_21 : decode cX3_become 21 = .ok (.putfield 25, 3) := by decide +kernel
theorem dX3_become_24 : decode cX3_become 24 = .ok (.aload_n 0, 1) := by decide +kernel
theorem dX3_become_25 : decode cX3_become 25 = .ok (.iconst 0, 1) := by decide +kernel
theorem dX3_become_26 : decode cX3_become 26 = .ok (.putfield 28, 3) := by decide +kernel
theorem dX3_become_29 : decode cX3_become 29 = .ok (.aload_n 0, 1) := by decide +kernel
theorem dX3_become_30 : decode cX3_become 30 = .ok (.iconst 0, 1) := by decide +kernel
theorem dX3_become_31 : decode cX3_become 31 = .ok (.putfield 31, 3) := by decide +kernel
theorem dX3_become_34 : decode cX3_become 34 = .ok (.aload_n 0, 1) := by decide +kernel
theorem dX3_become_35 : decode cX3_become 35 = .ok (.iconst 1, 1) := by decide +kernel
theorem dX3_become_36 : decode cX3_become 36 = .ok (.putfield 34, 3) := by decide +kernel
theorem dX3_become_39 : decode cX3_become 39 = .ok (.iconst 0, 1) := by decide +kernel
theorem dX3_become_40 : decode cX3_become 40 = .ok (.istore_n 3, 1) := by decide +kernel
theorem dX3_become_41 : decode cX3_become 41 = .ok (.iload_n 3, 1) := by decide +kernel
theorem dX3_become_42 : decode cX3_become 42 = .ok (.aload_n 0, 1) := by decide +kernel
theorem dX3_become_43 : decode cX3_become 43 = .ok (.getfield 19, 3) := by decide +kernel
theorem dX3_become_46 : decode cX3_become 46 = .ok (.if_icmp .ge 73, 3) := by decide +kernel
theorem dX3_become_49 : decode cX3_become 49 = .ok (.aload_n 0, 1) := by decide +kernel
theorem dX3_become_50 : decode cX3_become 50 = .ok (.iload_n 3, 1) := by decide +kernel
theorem dX3_become_51 : decode cX3_become 51 = .ok (.invokevirtual 37, 3) := by decide +kernel
theorem dX3_become_54 : decode cX3_become 54 = .ok (.iconst 1, 1) := by decide +kernel
theorem dX3_become_55 : decode cX3_become 55 = .ok (.if_icmp .ne 32, 3) := by decide +kernel
theorem dX3_become_58 : decode cX3_become 58 = .ok (.aload_n 0, 1) := by decide +kernel
theorem dX3_become_59 : decode cX3_become 59 = .ok (.dup, 1) := by decide +kernel
theorem dX3_become_60 : decode cX3_become 60 = .ok (.getfield 28, 3) := by decide +kernel
theorem dX3_become_63 : decode cX3_become 63 = .ok (.aload_n 0, 1) := by decide +kernel
theorem dX3_become_64 : decode cX3_become 64 = .ok (.getfield 25, 3) := by decide +kernel
theorem dX3_become_67 : decode cX3_become 67 = .ok (.iadd, 1) := by decide +kernel
theorem dX3_become_68 : decode cX3_become 68 = .ok (.putfield 28, 3) := by decide +kernel
theorem dX3_become_71 : decode cX3_become 71 = .ok (.aload_n 0, 1) := by decide +kernel
theorem dX3_become_72 : decode cX3_become 72 = .ok (.dup, 1) := by decide +kernel
theorem dX3_become_73 : decode cX3_become 73 = .ok (.getfield 34, 3) := by decide +kernel
theorem dX3_become_76 : decode cX3_become 76 = .ok (.aload_n 0, 1) := by decide +kernel
theorem dX3_become_77 : decode cX3_become 77 = .ok (.getfield 31, 3) := by decide +kernel
theorem dX3_become_80 : decode cX3_become 80 = .ok (.iadd, 1) := by decide +kernel
theorem dX3_become_81 : decode cX3_become 81 = .ok (.putfield 34, 3) := by decide +kernel
theorem dX3_become_84 : decode cX3_become 84 = .ok (.goto 29, 3) := by decide +kernel
theorem dX3_become_87 : decode cX3_become 87 = .ok (.aload_n 0, 1) := by decide +kernel
theorem dX3_become_88 : decode cX3_become 88 = .ok (.dup, 1) := by decide +kernel
theorem dX3_become_89 : decode cX3_become 89 = .ok (.getfield 25, 3) := by decide +kernel
theorem dX3_become_92 : decode cX3_become 92 = .ok (.aload_n 0, 1) := by decide +kernel
theorem dX3_become_93 : decode cX3_become 93 = .ok (.getfield 28, 3) := by decide +kernel
theorem dX3_become_96 : decode cX3_become 96 = .ok (.iadd, 1) := by decide +kernel
theorem dX3_become_97 : decode cX3_become 97 = .ok (.putfield 25, 3) := by decide +kernel
theorem dX3_become_100 : decode cX3_become 100 = .ok (.aload_n 0, 1) := by decide +kernel
theorem dX3_become_101 : decode cX3_become 101 = .ok (.dup, 1) := by decide +kernel
theorem dX3_become_102 : decode cX3_become 102 = .ok (.getfield 31, 3) := by decide +kernel
theorem dX3_become_105 : decode cX3_become 105 = .ok (.aload_n 0, 1) := by decide +kernel
theorem dX3_become_106 : decode cX3_become 106 = .ok (.getfield 34, 3) := by decide +kernel
theorem dX3_become_109 : decode cX3_become 109 = .ok (.iadd, 1) := by decide +kernel
theorem dX3_become_110 : decode cX3_become 110 = .ok (.putfield 31, 3) := by decide +kernel
theorem dX3_become_113 : decode cX3_become 113 = .ok (.iinc 3 1, 3) := by decide +kernel
theorem dX3_become_116 : decode cX3_become 116 = .ok (.goto (-75), 3) := by decide +kernel
theorem dX3_become_119 : decode cX3_become 119 = .ok (.return_, 1) := by decide +kernel
theorem dX3_bitAt_0 : decode cX3_bitAt 0 = .ok (.aload_n 0, 1) := by decide +kernel
theorem dX3_bitAt_1 : decode cX3_bitAt 1 = .ok (.getfield 15, 3) := by decide +kernel
theorem dX3_bitAt_4 : decode cX3_bitAt 4 = .ok (.aload_n 0, 1) := by decide +kernel
theorem dX3_bitAt_5 : decode cX3_bitAt 5 = .ok (.getfield 19, 3) := by decide +kernel
theorem dX3_bitAt_8 : decode cX3_bitAt 8 = .ok (.iconst 1, 1) := by decide +kernel
theorem dX3_bitAt_9 : decode cX3_bitAt 9 = .ok (.isub, 1) := by decide +kernel
theorem dX3_bitAt_10 : decode cX3_bitAt 10 = .ok (.iload_n 1, 1) := by decide +kernel
theorem dX3_bitAt_11 : decode cX3_bitAt 11 = .ok (.isub, 1) := by decide +kernel
theorem dX3_bitAt_12 : decode cX3_bitAt 12 = .ok (.ishr, 1) := by decide +kernel
theorem dX3_bitAt_13 : decode cX3_bitAt 13 = .ok (.iconst 1, 1) := by decide +kernel
theorem dX3_bitAt_14 : decode cX3_bitAt 14 = .ok (.iand, 1) := by decide +kernel
theorem dX3_bitAt_15 : decode cX3_bitAt 15 = .ok (.ireturn, 1) := by decide +kernel
theorem dX3_isClosed_0 : decode cX3_isClosed 0 = .ok (.aload_n 0, 1) := by decide +kernel
theorem dX3_isClosed_1 : decode cX3_isClosed 1 = .ok (.getfield 15, 3) := by decide +kernel
theorem dX3_isClosed_4 : decode cX3_isClosed 4 = .ok (.ifCond .eq 18, 3) := by decide +kernel
theorem dX3_isClosed_7 : decode cX3_isClosed 7 = .ok (.aload_n 0, 1) := by decide +kernel
theorem dX3_isClosed_8 : decode cX3_isClosed 8 = .ok (.getfield 15, 3) := by decide +kernel
theorem dX3_isClosed_11 : decode cX3_isClosed 11 = .ok (.aload_n 0, 1) := by decide +kernel
theorem dX3_isClosed_12 : decode cX3_isClosed 12 = .ok (.getfield 22, 3) := by decide +kernel
theorem dX3_isClosed_15 : decode cX3_isClosed 15 = .ok (.if_icmp .eq 7, 3) := by decide +kernel
theorem dX3_isClosed_18 : decode cX3_isClosed 18 = .ok (.iconst 1, 1) := by decide +kernel
theorem dX3_isClosed_19 : decode cX3_isClosed 19 = .ok (.goto 4, 3) := by decide +kernel
theorem dX3_isClosed_22 : decode cX3_isClosed 22 = .ok (.iconst 0, 1) := by decide +kernel
theorem dX3_isClosed_23 : decode cX3_isClosed 23 = .ok (.ireturn, 1) := by decide +kernel
theorem dX3_traceSum_0 : decode cX3_traceSum 0 = .ok (.aload_n 0, 1) := by decide +kernel
theorem dX3_traceSum_1 : decode cX3_traceSum 1 = .ok (.getfield 25, 3) := by decide +kernel
theorem dX3_traceSum_4 : decode cX3_traceSum 4 = .ok (.aload_n 0, 1) := by decide +kernel
theorem dX3_traceSum_5 : decode cX3_traceSum 5 = .ok (.getfield 34, 3) := by decide +kernel
theorem dX3_traceSum_8 : decode cX3_traceSum 8 = .ok (.iadd, 1) := by decide +kernel
theorem dX3_traceSum_9 : decode cX3_traceSum 9 = .ok (.ireturn, 1) := by decide +kernel
theorem dX3_rotation_0 : decode cX3_rotation 0 = .ok (.aload_n 0, 1) := by decide +kernel
theorem dX3_rotation_1 : decode cX3_rotation 1 = .ok (.getfield 15, 3) := by decide +kernel
theorem dX3_rotation_4 : decode cX3_rotation 4 = .ok (.iload_n 1, 1) := by decide +kernel
theorem dX3_rotation_5 : decode cX3_rotation 5 = .ok (.ishl, 1) := by decide +kernel
theorem dX3_rotation_6 : decode cX3_rotation 6 = .ok (.aload_n 0, 1) := by decide +kernel
theorem dX3_rotation_7 : decode cX3_rotation 7 = .ok (.getfield 15, 3) := by decide +kernel
theorem dX3_rotation_10 : decode cX3_rotation 10 = .ok (.aload_n 0, 1) := by decide +kernel
theorem dX3_rotation_11 : decode cX3_rotation 11 = .ok (.getfield 19, 3) := by decide +kernel
theorem dX3_rotation_14 : decode cX3_rotation 14 = .ok (.iload_n 1, 1) := by decide +kernel
theorem dX3_rotation_15 : decode cX3_rotation 15 = .ok (.isub, 1) := by decide +kernel
theorem dX3_rotation_16 : decode cX3_rotation 16 = .ok (.ishr, 1) := by decide +kernel
theorem dX3_rotation_17 : decode cX3_rotation 17 = .ok (.ior, 1) := by decide +kernel
theorem dX3_rotation_18 : decode cX3_rotation 18 = .ok (.aload_n 0, 1) := by decide +kernel
theorem dX3_rotation_19 : decode cX3_rotation 19 = .ok (.getfield 22, 3) := by decide +kernel
theorem dX3_rotation_22 : decode cX3_rotation 22 = .ok (.iand, 1) := by decide +kernel
theorem dX3_rotation_23 : decode cX3_rotation 23 = .ok (.ireturn, 1) := by decide +kernel
set_option maxRecDepth 20000 in
theorem ggX3_reversal_X3_bitAt : GoodIn wsX3_reversal wsX3_bitAt := goodIn_r _ [6, 7, 1, 8, 9, 10, 11, 12, 13, 14] (by decide +kernel) (by decide +kernel)
set_option maxRecDepth 20000 in
theorem gX3_reversal_X3_bitAt : GoodIn wsX3_reversal (wsV RX3 37 RX3 yX3_bitAt wsX3_bitAt) := goodIn_app (goodIn_of _ (by decide +kernel)) ggX3_reversal_X3_bitAt
theorem dX3_reversal_0 : decode cX3_reversal 0 = .ok (.iconst 0, 1) := by decide +kernel
theorem dX3_reversal_1 : decode cX3_reversal 1 = .ok (.istore_n 1, 1) := by decide +kernel
theorem dX3_reversal_2 : decode cX3_reversal 2 = .ok (.aload_n 0, 1) := by decide +kernel
theorem dX3_reversal_3 : decode cX3_reversal 3 = .ok (.getfield 19, 3) := by decide +kernel
theorem dX3_reversal_6 : decode cX3_reversal 6 = .ok (.iconst 1, 1) := by decide +kernel
theorem dX3_reversal_7 : decode cX3_reversal 7 = .ok (.isub, 1) := by decide +kernel
theorem dX3_reversal_8 : decode cX3_reversal 8 = .ok (.istore_n 2, 1) := by decide +kernel
theorem dX3_reversal_9 : decode cX3_reversal 9 = .ok (.iload_n 2, 1) := by decide +kernel
theorem dX3_reversal_10 : decode cX3_reversal 10 = .ok (.ifCond .lt 19, 3) := by decide +kernel
theorem dX3_reversal_13 : decode cX3_reversal 13 = .ok (.iload_n 1, 1) := by decide +kernel
theorem dX3_reversal_14 : decode cX3_reversal 14 = .ok (.iconst 1, 1) := by decide +kernel
theorem dX3_reversal_15 : decode cX3_reversal 15 = .ok (.ishl, 1) := by decide +kernel
theorem dX3_reversal_16 : decode cX3_reversal 16 = .ok (.aload_n 0, 1) := by decide +kernel
theorem dX3_reversal_17 : decode cX3_reversal 17 = .ok (.iload_n 2, 1) := by decide +kernel
theorem dX3_reversal_18 : decode cX3_reversal 18 = .ok (.invokevirtual 37, 3) := by decide +kernel
theorem dX3_reversal_21 : decode cX3_reversal 21 = .ok (.ior, 1) := by decide +kernel
theorem dX3_reversal_22 : decode cX3_reversal 22 = .ok (.istore_n 1, 1) := by decide +kernel
theorem dX3_reversal_23 : decode cX3_reversal 23 = .ok (.iinc 2 (-1), 3) := by decide +kernel
theorem dX3_reversal_26 : decode cX3_reversal 26 = .ok (.goto (-17), 3) := by decide +kernel
theorem dX3_reversal_29 : decode cX3_reversal 29 = .ok (.iload_n 1, 1) := by decide +kernel
theorem dX3_reversal_30 : decode cX3_reversal 30 = .ok (.ireturn, 1) := by decide +kernel
theorem dX3_complement_0 : decode cX3_complement 0 = .ok (.iload_n 1, 1) := by decide +kernel
theorem dX3_complement_1 : decode cX3_complement 1 = .ok (.aload_n 0, 1) := by decide +kernel
theorem dX3_complement_2 : decode cX3_complement 2 = .ok (.getfield 22, 3) := by decide +kernel
theorem dX3_complement_5 : decode cX3_complement 5 = .ok (.ixor, 1) := by decide +kernel
theorem dX3_complement_6 : decode cX3_complement 6 = .ok (.ireturn, 1) := by decide +kernel
set_option maxRecDepth 20000 in
theorem ggX3_changed_X3_reversal : GoodIn wsX3_changed wsX3_reversal := goodIn_r _ [6, 7, 8, 9, 10, 5, 11, 1, 25, 26, 27, 28, 29, 30, 31] (by decide +kernel) (by decide +kernel)
set_option maxRecDepth 20000 in
theorem gX3_changed_X3_reversal : GoodIn wsX3_changed (wsV RX3 41 RX3 yX3_reversal wsX3_reversal) := goodIn_app (goodIn_of _ (by decide +kernel)) ggX3_changed_X3_reversal
set_option maxRecDepth 20000 in
theorem ggX3_changed_X3_complement : GoodIn wsX3_changed wsX3_complement := goodIn_r _ [15, 16, 25, 26, 27, 28, 29, 30, 31] (by decide +kernel) (by decide +kernel)
set_option maxRecDepth 20000 in
theorem gX3_changed_X3_complement : GoodIn wsX3_changed (wsV RX3 45 RX3 yX3_complement wsX3_complement) := goodIn_app (goodIn_of _ (by decide +kernel)) ggX3_changed_X3_complement
set_option maxRecDepth 20000 in
theorem ggX3_changed_X3_leastTurn : GoodIn wsX3_changed wsX3_leastTurn := goodIn_r _ [20, 7, 21, 22, 23, 5, 24, 1, 16, 25, 26, 27, 28, 29, 30, 31] (by decide +kernel) (by decide +kernel)
set_option maxRecDepth 20000 in
theorem gX3_changed_X3_leastTurn : GoodIn wsX3_changed (wsV RX3 48 RX3 yX3_leastTurn wsX3_leastTurn) := goodIn_app (goodIn_of _ (by decide +kernel)) ggX3_changed_X3_leastTurn
set_option maxRecDepth 20000 in
theorem ggX3_changed_X3_rotation : GoodIn wsX3_changed wsX3_rotation := goodIn_r _ [24, 1, 7, 16, 25, 26, 27, 28, 29, 30, 31] (by decide +kernel) (by decide +kernel)
set_option maxRecDepth 20000 in
theorem gX3_changed_X3_rotation : GoodIn wsX3_changed (wsV RX3 51 RX3 yX3_rotation wsX3_rotation) := goodIn_app (goodIn_of _ (by decide +kernel)) ggX3_changed_X3_rotation
theorem dX3_changed_0 : decode cX3_changed 0 = .ok (.iload_n 1, 1) := by decide +kernel
theorem dX3_changed_1 : decode cX3_changed 1 = .ok (.lookupswitch 41 #[(0, 27), (1, 32)], 27) := by decide +kernel
theorem dX3_changed_28 : decode cX3_changed 28 = .ok (.aload_n 0, 1) := by decide +kernel
theorem dX3_changed_29 : decode cX3_changed 29 = .ok (.invokevirtual 41, 3) := by decide +kernel
theorem dX3_changed_32 : decode cX3_changed 32 = .ok (.ireturn, 1) := by decide +kernel
theorem dX3_changed_33 : decode cX3_changed 33 = .ok (.aload_n 0, 1) := by decide +kernel
theorem dX3_changed_34 : decode cX3_changed 34 = .ok (.aload_n 0, 1) := by decide +kernel
theorem dX3_changed_35 : decode cX3_changed 35 = .ok (.getfield 15, 3) := by decide +kernel
theorem dX3_changed_38 : decode cX3_changed 38 = .ok (.invokevirtual 45, 3) := by decide +kernel
theorem dX3_changed_41 : decode cX3_changed 41 = .ok (.ireturn, 1) := by decide +kernel
theorem dX3_changed_42 : decode cX3_changed 42 = .ok (.aload_n 0, 1) := by decide +kernel
theorem dX3_changed_43 : decode cX3_changed 43 = .ok (.aload_n 0, 1) := by decide +kernel
theorem dX3_changed_44 : decode cX3_changed 44 = .ok (.invokevirtual 48, 3) := by decide +kernel
theorem dX3_changed_47 : decode cX3_changed 47 = .ok (.invokevirtual 51, 3) := by decide +kernel
theorem dX3_changed_50 : decode cX3_changed 50 = .ok (.ireturn, 1) := by decide +kernel
set_option maxRecDepth 20000 in
theorem ggX3_turnTo_X3_rotation : GoodIn wsX3_turnTo wsX3_rotation := goodIn_r _ [7, 8, 1, 9, 10, 11, 12, 13, 14, 15, 16] (by decide +kernel) (by decide +kernel)
set_option maxRecDepth 20000 in
theorem gX3_turnTo_X3_rotation : GoodIn wsX3_turnTo (wsV RX3 51 RX3 yX3_rotation wsX3_rotation) := goodIn_app (goodIn_of _ (by decide +kernel)) ggX3_turnTo_X3_rotation
theorem dX3_turnTo_0 : decode cX3_turnTo 0 = .ok (.iload_n 2, 1) := by decide +kernel
theorem dX3_turnTo_1 : decode cX3_turnTo 1 = .ok (.istore_n 3, 1) := by decide +kernel
theorem dX3_turnTo_2 : decode cX3_turnTo 2 = .ok (.iload_n 3, 1) := by decide +kernel
theorem dX3_turnTo_3 : decode cX3_turnTo 3 = .ok (.aload_n 0, 1) := by decide +kernel
theorem dX3_turnTo_4 : decode cX3_turnTo 4 = .ok (.getfield 19, 3) := by decide +kernel
theorem dX3_turnTo_7 : decode cX3_turnTo 7 = .ok (.if_icmp .ge 20, 3) := by decide +kernel
theorem dX3_turnTo_10 : decode cX3_turnTo 10 = .ok (.aload_n 0, 1) := by decide +kernel
theorem dX3_turnTo_11 : decode cX3_turnTo 11 = .ok (.iload_n 3, 1) := by decide +kernel
theorem dX3_turnTo_12 : decode cX3_turnTo 12 = .ok (.invokevirtual 51, 3) := by decide +kernel
theorem dX3_turnTo_15 : decode cX3_turnTo 15 = .ok (.iload_n 1, 1) := by decide +kernel
theorem dX3_turnTo_16 : decode cX3_turnTo 16 = .ok (.if_icmp .ne 5, 3) := by decide +kernel
theorem dX3_turnTo_19 : decode cX3_turnTo 19 = .ok (.iload_n 3, 1) := by decide +kernel
theorem dX3_turnTo_20 : decode cX3_turnTo 20 = .ok (.ireturn, 1) := by decide +kernel
theorem dX3_turnTo_21 : decode cX3_turnTo 21 = .ok (.iinc 3 1, 3) := by decide +kernel
theorem dX3_turnTo_24 : decode cX3_turnTo 24 = .ok (.goto (-22), 3) := by decide +kernel
theorem dX3_turnTo_27 : decode cX3_turnTo 27 = .ok (.ldc 54, 2) := by decide +kernel
theorem dX3_turnTo_29 : decode cX3_turnTo 29 = .ok (.ireturn, 1) := by decide +kernel
set_option maxRecDepth 20000 in
theorem ggX3_isConjugate_X3_turnTo : GoodIn wsX3_isConjugate wsX3_turnTo := goodIn_r _ [6, 7, 1, 8, 9, 10, 5, 11, 12, 13, 14, 15, 16, 17, 18, 19, 20] (by decide +kernel) (by decide +kernel)
set_option maxRecDepth 20000 in
theorem gX3_isConjugate_X3_turnTo : GoodIn wsX3_isConjugate (wsV RX3 55 RX3 yX3_turnTo wsX3_turnTo) := goodIn_app (goodIn_of _ (by decide +kernel)) ggX3_isConjugate_X3_turnTo
theorem dX3_isConjugate_0 : decode cX3_isConjugate 0 = .ok (.aload_n 0, 1) := by decide +kernel
theorem dX3_isConjugate_1 : decode cX3_isConjugate 1 = .ok (.iload_n 1, 1) := by decide +kernel
theorem dX3_isConjugate_2 : decode cX3_isConjugate 2 = .ok (.iconst 0, 1) := by decide +kernel
theorem dX3_isConjugate_3 : decode cX3_isConjugate 3 = .ok (.invokevirtual 55, 3) := by decide +kernel
theorem dX3_isConjugate_6 : decode cX3_isConjugate 6 = .ok (.ldc 54, 2) := by decide +kernel
theorem dX3_isConjugate_8 : decode cX3_isConjugate 8 = .ok (.if_icmp .eq 7, 3) := by decide +kernel
theorem dX3_isConjugate_11 : decode cX3_isConjugate 11 = .ok (.iconst 1, 1) := by decide +kernel
theorem dX3_isConjugate_12 : decode cX3_isConjugate 12 = .ok (.goto 4, 3) := by decide +kernel
theorem dX3_isConjugate_15 : decode cX3_isConjugate 15 = .ok (.iconst 0, 1) := by decide +kernel
theorem dX3_isConjugate_16 : decode cX3_isConjugate 16 = .ok (.ireturn, 1) := by decide +kernel
set_option maxRecDepth 20000 in
theorem ggX3_period_X3_turnTo : GoodIn wsX3_period wsX3_turnTo := goodIn_r _ [8, 3, 2, 9, 10, 11, 7, 12, 1, 13, 14, 15, 16, 17, 18, 19, 20] (by decide +kernel) (by decide +kernel)
set_option maxRecDepth 20000 in
theorem gX3_period_X3_turnTo : GoodIn wsX3_period (wsV RX3 55 RX3 yX3_turnTo wsX3_turnTo) := goodIn_app (goodIn_of _ (by decide +kernel)) ggX3_period_X3_turnTo
theorem dX3_period_0 : decode cX3_period 0 = .ok (.aload_n 0, 1) := by decide +kernel
theorem dX3_period_1 : decode cX3_period 1 = .ok (.aload_n 0, 1) := by decide +kernel
theorem dX3_period_2 : decode cX3_period 2 = .ok (.getfield 15, 3) := by decide +kernel
theorem dX3_period_5 : decode cX3_period 5 = .ok (.iconst 1, 1) := by decide +kernel
theorem dX3_period_6 : decode cX3_period 6 = .ok (.invokevirtual 55, 3) := by decide +kernel
theorem dX3_period_9 : decode cX3_period 9 = .ok (.istore_n 1, 1) := by decide +kernel
theorem dX3_period_10 : decode cX3_period 10 = .ok (.iload_n 1, 1) := by decide +kernel
theorem dX3_period_11 : decode cX3_period 11 = .ok (.ldc 54, 2) := by decide +kernel
theorem dX3_period_13 : decode cX3_period 13 = .ok (.if_icmp .ne 10, 3) := by decide +kernel
theorem dX3_period_16 : decode cX3_period 16 = .ok (.aload_n 0, 1) := by decide +kernel
theorem dX3_period_17 : decode cX3_period 17 = .ok (.getfield 19, 3) := by decide +kernel
theorem dX3_period_20 : decode cX3_period 20 = .ok (.goto 4, 3) := by decide +kernel
theorem dX3_period_23 : decode cX3_period 23 = .ok (.iload_n 1, 1) := by decide +kernel
theorem dX3_period_24 : decode cX3_period 24 = .ok (.ireturn, 1) := by decide +kernel
set_option maxRecDepth 20000 in
theorem ggX3_leastTurn_X3_rotation : GoodIn wsX3_leastTurn wsX3_rotation := goodIn_r _ [6, 7, 1, 8, 9, 10, 11, 12, 13, 14, 15] (by decide +kernel) (by decide +kernel)
set_option maxRecDepth 20000 in
theorem gX3_leastTurn_X3_rotation : GoodIn wsX3_leastTurn (wsV RX3 51 RX3 yX3_rotation wsX3_rotation) := goodIn_app (goodIn_of _ (by decide +kernel)) ggX3_leastTurn_X3_rotation
theorem dX3_leastTurn_0 : decode cX3_leastTurn 0 = .ok (.iconst 0, 1) := by decide +kernel
theorem dX3_leastTurn_1 : decode cX3_leastTurn 1 = .ok (.istore_n 1, 1) := by decide +kernel
theorem dX3_leastTurn_2 : decode cX3_leastTurn 2 = .ok (.iconst 1, 1) := by decide +kernel
theorem dX3_leastTurn_3 : decode cX3_leastTurn 3 = .ok (.istore_n 2, 1) := by decide +kernel
theorem dX3_leastTurn_4 : decode cX3_leastTurn 4 = .ok (.iload_n 2, 1) := by decide +kernel
theorem dX3_leastTurn_5 : decode cX3_leastTurn 5 = .ok (.aload_n 0, 1) := by decide +kernel
theorem dX3_leastTurn_6 : decode cX3_leastTurn 6 = .ok (.getfield 19, 3) := by decide +kernel
theorem dX3_leastTurn_9 : decode cX3_leastTurn 9 = .ok (.if_icmp .ge 24, 3) := by decide +kernel
theorem dX3_leastTurn_12 : decode cX3_leastTurn 12 = .ok (.aload_n 0, 1) := by decide +kernel
theorem dX3_leastTurn_13 : decode cX3_leastTurn 13 = .ok (.iload_n 2, 1) := by decide +kernel
theorem dX3_leastTurn_14 : decode cX3_leastTurn 14 = .ok (.invokevirtual 51, 3) := by decide +kernel
theorem dX3_leastTurn_17 : decode cX3_leastTurn 17 = .ok (.aload_n 0, 1) := by decide +kernel
theorem dX3_leastTurn_18 : decode cX3_leastTurn 18 = .ok (.iload_n 1, 1) := by decide +kernel
theorem dX3_leastTurn_19 : decode cX3_leastTurn 19 = .ok (.invokevirtual 51, 3) := by decide +kernel
theorem dX3_leastTurn_22 : decode cX3_leastTurn 22 = .ok (.if_icmp .ge 5, 3) := by decide +kernel
theorem dX3_leastTurn_25 : decode cX3_leastTurn 25 = .ok (.iload_n 2, 1) := by decide +kernel
theorem dX3_leastTurn_26 : decode cX3_leastTurn 26 = .ok (.istore_n 1, 1) := by decide +kernel
theorem dX3_leastTurn_27 : decode cX3_leastTurn 27 = .ok (.iinc 2 1, 3) := by decide +kernel
theorem dX3_leastTurn_30 : decode cX3_leastTurn 30 = .ok (.goto (-26), 3) := by decide +kernel
theorem dX3_leastTurn_33 : decode cX3_leastTurn 33 = .ok (.iload_n 1, 1) := by decide +kernel
theorem dX3_leastTurn_34 : decode cX3_leastTurn 34 = .ok (.ireturn, 1) := by decide +kernel
set_option maxRecDepth 20000 in
theorem ggX3_formNumber_X4_commonDivisor : GoodIn wsX3_formNumber wsX4_commonDivisor := goodIn_r _ [7, 8, 9, 10, 11, 12, 13, 14] (by decide +kernel) (by decide +kernel)
set_option maxRecDepth 20000 in
theorem gX3_formNumber_X4_commonDivisor_n59 : GoodIn wsX3_formNumber (wsX4_commonDivisor) := ggX3_formNumber_X4_commonDivisor
set_option maxRecDepth 20000 in
theorem ggX3_formNumber_X4_discriminantOf : GoodIn wsX3_formNumber wsX4_discriminantOf := goodIn_r _ [16] (by decide +kernel) (by decide +kernel)
set_option maxRecDepth 20000 in
theorem gX3_formNumber_X4_discriminantOf_n62 : GoodIn wsX3_formNumber (wsX4_discriminantOf) := ggX3_formNumber_X4_discriminantOf
theorem dX3_formNumber_0 : decode cX3_formNumber 0 = .ok (.aload_n 0, 1) := by decide +kernel
theorem dX3_formNumber_1 : decode cX3_formNumber 1 = .ok (.getfield 31, 3) := by decide +kernel
theorem dX3_formNumber_4 : decode cX3_formNumber 4 = .ok (.aload_n 0, 1) := by decide +kernel
theorem dX3_formNumber_5 : decode cX3_formNumber 5 = .ok (.getfield 34, 3) := by decide +kernel
theorem dX3_formNumber_8 : decode cX3_formNumber 8 = .ok (.aload_n 0, 1) := by decide +kernel
theorem dX3_formNumber_9 : decode cX3_formNumber 9 = .ok (.getfield 25, 3) := by decide +kernel
theorem dX3_formNumber_12 : decode cX3_formNumber 12 = .ok (.isub, 1) := by decide +kernel
theorem dX3_formNumber_13 : decode cX3_formNumber 13 = .ok (.invokestatic 59, 3) := by decide +kernel
theorem dX3_formNumber_16 : decode cX3_formNumber 16 = .ok (.aload_n 0, 1) := by decide +kernel
theorem dX3_formNumber_17 : decode cX3_formNumber 17 = .ok (.getfield 28, 3) := by decide +kernel
theorem dX3_formNumber_20 : decode cX3_formNumber 20 = .ok (.invokestatic 59, 3) := by decide +kernel
theorem dX3_formNumber_23 : decode cX3_formNumber 23 = .ok (.istore_n 2, 1) := by decide +kernel
theorem dX3_formNumber_24 : decode cX3_formNumber 24 = .ok (.aload_n 0, 1) := by decide +kernel
theorem dX3_formNumber_25 : decode cX3_formNumber 25 = .ok (.getfield 31, 3) := by decide +kernel
theorem dX3_formNumber_28 : decode cX3_formNumber 28 = .ok (.iload_n 2, 1) := by decide +kernel
theorem dX3_formNumber_29 : decode cX3_formNumber 29 = .ok (.idiv, 1) := by decide +kernel
theorem dX3_formNumber_30 : decode cX3_formNumber 30 = .ok (.istore_n 3, 1) := by decide +kernel
theorem dX3_formNumber_31 : decode cX3_formNumber 31 = .ok (.aload_n 0, 1) := by decide +kernel
theorem dX3_formNumber_32 : decode cX3_formNumber 32 = .ok (.getfield 34, 3) := by decide +kernel
theorem dX3_formNumber_35 : decode cX3_formNumber 35 = .ok (.aload_n 0, 1) := by decide +kernel
theorem dX3_formNumber_36 : decode cX3_formNumber 36 = .ok (.getfield 25, 3) := by decide +kernel
theorem dX3_formNumber_39 : decode cX3_formNumber 39 = .ok (.isub, 1) := by decide +kernel
theorem dX3_formNumber_40 : decode cX3_formNumber 40 = .ok (.iload_n 2, 1) := by decide +kernel
theorem dX3_formNumber_41 : decode cX3_formNumber 41 = .ok (.idiv, 1) := by decide +kernel
theorem dX3_formNumber_42 : decode cX3_formNumber 42 = .ok (.istore 4, 2) := by decide +kernel
theorem dX3_formNumber_44 : decode cX3_formNumber 44 = .ok (.aload_n 0, 1) := by decide +kernel
theorem dX3_formNumber_45 : decode cX3_formNumber 45 = .ok (.getfield 28, 3) := by decide +kernel
theorem dX3_formNumber_48 : decode cX3_formNumber 48 = .ok (.ineg, 1) := by decide +kernel
theorem dX3_formNumber_49 : decode cX3_formNumber 49 = .ok (.iload_n 2, 1) := by decide +kernel
theorem dX3_formNumber_50 : decode cX3_formNumber 50 = .ok (.idiv, 1) := by decide +kernel
theorem dX3_formNumber_51 : decode cX3_formNumber 51 = .ok (.istore 5, 2) := by decide +kernel
theorem dX3_formNumber_53 : decode cX3_formNumber 53 = .ok (.iload_n 1, 1) := by decide +kernel
theorem dX3_formNumber_54 : decode cX3_formNumber 54 = .ok (.tableswitch 40 0 3 #[30, 32, 35, 38], 30) := by decide +kernel
theorem dX3_formNumber_84 : decode cX3_formNumber 84 = .ok (.iload_n 3, 1) := by decide +kernel
theorem dX3_formNumber_85 : decode cX3_formNumber 85 = .ok (.ireturn, 1) := by decide +kernel
theorem dX3_formNumber_86 : decode cX3_formNumber 86 = .ok (.iload 4, 2) := by decide +kernel
theorem dX3_formNumber_88 : decode cX3_formNumber 88 = .ok (.ireturn, 1) := by decide +kernel
theorem dX3_formNumber_89 : decode cX3_formNumber 89 = .ok (.iload 5, 2) := by decide +kernel
theorem dX3_formNumber_91 : decode cX3_formNumber 91 = .ok (.ireturn, 1) := by decide +kernel
theorem dX3_formNumber_92 : decode cX3_formNumber 92 = .ok (.iload_n 2, 1) := by decide +kernel
theorem dX3_formNumber_93 : decode cX3_formNumber 93 = .ok (.ireturn, 1) := by decide +kernel
theorem dX3_formNumber_94 : decode cX3_formNumber 94 = .ok (.iload_n 3, 1) := by decide +kernel
theorem dX3_formNumber_95 : decode cX3_formNumber 95 = .ok (.iload 4, 2) := by decide +kernel
theorem dX3_formNumber_97 : decode cX3_formNumber 97 = .ok (.iload 5, 2) := by decide +kernel
theorem dX3_formNumber_99 : decode cX3_formNumber 99 = .ok (.invokestatic 62, 3) := by decide +kernel
theorem dX3_formNumber_102 : decode cX3_formNumber 102 = .ok (.ireturn, 1) := by decide +kernel
set_option maxRecDepth 20000 in
theorem ggX3_crossings_X3_bitAt : GoodIn wsX3_crossings wsX3_bitAt := goodIn_r _ [6, 7, 1, 12, 13, 14, 15, 16, 17, 18] (by decide +kernel) (by decide +kernel)
set_option maxRecDepth 20000 in
theorem gX3_crossings_X3_bitAt : GoodIn wsX3_crossings (wsV RX3 37 RX3 yX3_bitAt wsX3_bitAt) := goodIn_app (goodIn_of _ (by decide +kernel)) ggX3_crossings_X3_bitAt
set_option maxRecDepth 20000 in
theorem ggX3_crossings_X3_crosses : GoodIn wsX3_crossings wsX3_crosses := goodIn_r _ [11, 1, 2, 3, 4, 5, 6, 7, 12, 13, 14, 15, 16, 17, 18] (by decide +kernel) (by decide +kernel)
set_option maxRecDepth 20000 in
theorem gX3_crossings_X3_crosses : GoodIn wsX3_crossings (wsV RX3 66 RX3 yX3_crosses wsX3_crosses) := goodIn_app (goodIn_of _ (by decide +kernel)) ggX3_crossings_X3_crosses
theorem dX3_crossings_0 : decode cX3_crossings 0 = .ok (.iconst 0, 1) := by decide +kernel
theorem dX3_crossings_1 : decode cX3_crossings 1 = .ok (.istore_n 2, 1) := by decide +kernel
theorem dX3_crossings_2 : decode cX3_crossings 2 = .ok (.iconst 0, 1) := by decide +kernel
theorem dX3_crossings_3 : decode cX3_crossings 3 = .ok (.istore_n 3, 1) := by decide +kernel
theorem dX3_crossings_4 : decode cX3_crossings 4 = .ok (.iload_n 3, 1) := by decide +kernel
theorem dX3_crossings_5 : decode cX3_crossings 5 = .ok (.aload_n 0, 1) := by decide +kernel
theorem dX3_crossings_6 : decode cX3_crossings 6 = .ok (.getfield 19, 3) := by decide +kernel
theorem dX3_crossings_9 : decode cX3_crossings 9 = .ok (.if_icmp .ge 55, 3) := by decide +kernel
theorem dX3_crossings_12 : decode cX3_crossings 12 = .ok (.iconst 0, 1) := by decide +kernel
theorem dX3_crossings_13 : decode cX3_crossings 13 = .ok (.istore 4, 2) := by decide +kernel
theorem dX3_crossings_15 : decode cX3_crossings 15 = .ok (.iload 4, 2) := by decide +kernel
theorem dX3_crossings_17 : decode cX3_crossings 17 = .ok (.aload_n 1, 1) := by decide +kernel
theorem dX3_crossings_18 : decode cX3_crossings 18 = .ok (.getfield 19, 3) := by decide +kernel
theorem dX3_crossings_21 : decode cX3_crossings 21 = .ok (.if_icmp .ge 37, 3) := by decide +kernel
theorem dX3_crossings_24 : decode cX3_crossings 24 = .ok (.aload_n 0, 1) := by decide +kernel
theorem dX3_crossings_25 : decode cX3_crossings 25 = .ok (.iload_n 3, 1) := by decide +kernel
theorem dX3_crossings_26 : decode cX3_crossings 26 = .ok (.invokevirtual 37, 3) := by decide +kernel
theorem dX3_crossings_29 : decode cX3_crossings 29 = .ok (.aload_n 1, 1) := by decide +kernel
theorem dX3_crossings_30 : decode cX3_crossings 30 = .ok (.iload 4, 2) := by decide +kernel
theorem dX3_crossings_32 : decode cX3_crossings 32 = .ok (.invokevirtual 37, 3) := by decide +kernel
theorem dX3_crossings_35 : decode cX3_crossings 35 = .ok (.if_icmp .eq 17, 3) := by decide +kernel
theorem dX3_crossings_38 : decode cX3_crossings 38 = .ok (.aload_n 0, 1) := by decide +kernel
theorem dX3_crossings_39 : decode cX3_crossings 39 = .ok (.iload_n 3, 1) := by decide +kernel
theorem dX3_crossings_40 : decode cX3_crossings 40 = .ok (.aload_n 1, 1) := by decide +kernel
theorem dX3_crossings_41 : decode cX3_crossings 41 = .ok (.iload 4, 2) := by decide +kernel
theorem dX3_crossings_43 : decode cX3_crossings 43 = .ok (.invokevirtual 66, 3) := by decide +kernel
theorem dX3_crossings_46 : decode cX3_crossings 46 = .ok (.ifCond .eq 6, 3) := by decide +kernel
theorem dX3_crossings_49 : decode cX3_crossings 49 = .ok (.iinc 2 1, 3) := by decide +kernel
theorem dX3_crossings_52 : decode cX3_crossings 52 = .ok (.iinc 4 1, 3) := by decide +kernel
theorem dX3_crossings_55 : decode cX3_crossings 55 = .ok (.goto (-40), 3) := by decide +kernel
theorem dX3_crossings_58 : decode cX3_crossings 58 = .ok (.iinc 3 1, 3) := by decide +kernel
theorem dX3_crossings_61 : decode cX3_crossings 61 = .ok (.goto (-57), 3) := by decide +kernel
theorem dX3_crossings_64 : decode cX3_crossings 64 = .ok (.iload_n 2, 1) := by decide +kernel
theorem dX3_crossings_65 : decode cX3_crossings 65 = .ok (.ireturn, 1) := by decide +kernel
set_option maxRecDepth 20000 in
theorem ggX3_crosses_X3_bitAt : GoodIn wsX3_crosses wsX3_bitAt := goodIn_r _ [6, 7, 1, 8, 9, 10, 11, 12, 13, 14] (by decide +kernel) (by decide +kernel)
set_option maxRecDepth 20000 in
theorem gX3_crosses_X3_bitAt : GoodIn wsX3_crosses (wsV RX3 37 RX3 yX3_bitAt wsX3_bitAt) := goodIn_app (goodIn_of _ (by decide +kernel)) ggX3_crosses_X3_bitAt
theorem dX3_crosses_0 : decode cX3_crosses 0 = .ok (.iload_n 1, 1) := by decide +kernel
theorem dX3_crosses_1 : decode cX3_crosses 1 = .ok (.istore 4, 2) := by decide +kernel
theorem dX3_crosses_3 : decode cX3_crosses 3 = .ok (.iload_n 3, 1) := by decide +kernel
theorem dX3_crosses_4 : decode cX3_crosses 4 = .ok (.istore 5, 2) := by decide +kernel
theorem dX3_crosses_6 : decode cX3_crosses 6 = .ok (.aload_n 0, 1) := by decide +kernel
theorem dX3_crosses_7 : decode cX3_crosses 7 = .ok (.getfield 19, 3) := by decide +kernel
theorem dX3_crosses_10 : decode cX3_crosses 10 = .ok (.aload_n 2, 1) := by decide +kernel
theorem dX3_crosses_11 : decode cX3_crosses 11 = .ok (.getfield 19, 3) := by decide +kernel
theorem dX3_crosses_14 : decode cX3_crosses 14 = .ok (.imul, 1) := by decide +kernel
theorem dX3_crosses_15 : decode cX3_crosses 15 = .ok (.istore 6, 2) := by decide +kernel
theorem dX3_crosses_17 : decode cX3_crosses 17 = .ok (.iload 6, 2) := by decide +kernel
theorem dX3_crosses_19 : decode cX3_crosses 19 = .ok (.ifCond .le 84, 3) := by decide +kernel
theorem dX3_crosses_22 : decode cX3_crosses 22 = .ok (.iload 4, 2) := by decide +kernel
theorem dX3_crosses_24 : decode cX3_crosses 24 = .ok (.ifCond .le 10, 3) := by decide +kernel
theorem dX3_crosses_27 : decode cX3_crosses 27 = .ok (.iload 4, 2) := by decide +kernel
theorem dX3_crosses_29 : decode cX3_crosses 29 = .ok (.iconst 1, 1) := by decide +kernel
theorem dX3_crosses_30 : decode cX3_crosses 30 = .ok (.isub, 1) := by decide +kernel
theorem dX3_crosses_31 : decode cX3_crosses 31 = .ok (.goto 9, 3) := by decide +kernel
theorem dX3_crosses_34 : decode cX3_crosses 34 = .ok (.aload_n 0, 1) := by decide +kernel
theorem dX3_crosses_35 : decode cX3_crosses 35 = .ok (.getfield 19, 3) := by decide +kernel
theorem dX3_crosses_38 : decode cX3_crosses 38 = .ok (.iconst 1, 1) := by decide +kernel
theorem dX3_crosses_39 : decode cX3_crosses 39 = .ok (.isub, 1) := by decide +kernel
theorem dX3_crosses_40 : decode cX3_crosses 40 = .ok (.istore 4, 2) := by decide +kernel
theorem dX3_crosses_42 : decode cX3_crosses 42 = .ok (.iload 5, 2) := by decide +kernel
theorem dX3_crosses_44 : decode cX3_crosses 44 = .ok (.ifCond .le 10, 3) := by decide +kernel
theorem dX3_crosses_47 : decode cX3_crosses 47 = .ok (.iload 5, 2) := by decide +kernel
theorem dX3_crosses_49 : decode cX3_crosses 49 = .ok (.iconst 1, 1) := by decide +kernel
theorem dX3_crosses_50 : decode cX3_crosses 50 = .ok (.isub, 1) := by decide +kernel
theorem dX3_crosses_51 : decode cX3_crosses 51 = .ok (.goto 9, 3) := by decide +kernel
theorem dX3_crosses_54 : decode cX3_crosses 54 = .ok (.aload_n 2, 1) := by decide +kernel
theorem dX3_crosses_55 : decode cX3_crosses 55 = .ok (.getfield 19, 3) := by decide +kernel
theorem dX3_crosses_58 : decode cX3_crosses 58 = .ok (.iconst 1, 1) := by decide +kernel
theorem dX3_crosses_59 : decode cX3_crosses 59 = .ok (.isub, 1) := by decide +kernel
theorem dX3_crosses_60 : decode cX3_crosses 60 = .ok (.istore 5, 2) := by decide +kernel
theorem dX3_crosses_62 : decode cX3_crosses 62 = .ok (.aload_n 0, 1) := by decide +kernel
theorem dX3_crosses_63 : decode cX3_crosses 63 = .ok (.iload 4, 2) := by decide +kernel
theorem dX3_crosses_65 : decode cX3_crosses 65 = .ok (.invokevirtual 37, 3) := by decide +kernel
theorem dX3_crosses_68 : decode cX3_crosses 68 = .ok (.aload_n 2, 1) := by decide +kernel
theorem dX3_crosses_69 : decode cX3_crosses 69 = .ok (.iload 5, 2) := by decide +kernel
theorem dX3_crosses_71 : decode cX3_crosses 71 = .ok (.invokevirtual 37, 3) := by decide +kernel
theorem dX3_crosses_74 : decode cX3_crosses 74 = .ok (.if_icmp .eq 23, 3) := by decide +kernel
theorem dX3_crosses_77 : decode cX3_crosses 77 = .ok (.aload_n 0, 1) := by decide +kernel
theorem dX3_crosses_78 : decode cX3_crosses 78 = .ok (.iload 4, 2) := by decide +kernel
theorem dX3_crosses_80 : decode cX3_crosses 80 = .ok (.invokevirtual 37, 3) := by decide +kernel
theorem dX3_crosses_83 : decode cX3_crosses 83 = .ok (.aload_n 0, 1) := by decide +kernel
theorem dX3_crosses_84 : decode cX3_crosses 84 = .ok (.iload_n 1, 1) := by decide +kernel
theorem dX3_crosses_85 : decode cX3_crosses 85 = .ok (.invokevirtual 37, 3) := by decide +kernel
theorem dX3_crosses_88 : decode cX3_crosses 88 = .ok (.if_icmp .eq 7, 3) := by decide +kernel
theorem dX3_crosses_91 : decode cX3_crosses 91 = .ok (.iconst 1, 1) := by decide +kernel
theorem dX3_crosses_92 : decode cX3_crosses 92 = .ok (.goto 4, 3) := by decide +kernel
theorem dX3_crosses_95 : decode cX3_crosses 95 = .ok (.iconst 0, 1) := by decide +kernel
theorem dX3_crosses_96 : decode cX3_crosses 96 = .ok (.ireturn, 1) := by decide +kernel
theorem dX3_crosses_97 : decode cX3_crosses 97 = .ok (.iinc 6 (-1), 3) := by decide +kernel
theorem dX3_crosses_100 : decode cX3_crosses 100 = .ok (.goto (-83), 3) := by decide +kernel
