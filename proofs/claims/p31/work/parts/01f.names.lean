set_option maxRecDepth 20000 in
theorem gL_crosses_L_alike : GoodIn wsL_crosses (va_wsS RL 61 yL_alike wsL_alike) := goodIn_app (goodIn_of _ (by decide +kernel)) ggL_crosses_L_alike
theorem dL_crosses_0 : decode cL_crosses 0 = .ok (.iconst 0, 1) := by decide +kernel
theorem dL_crosses_1 : decode cL_crosses 1 = .ok (.istore_n 3, 1) := by decide +kernel
theorem dL_crosses_2 : decode cL_crosses 2 = .ok (.iload_n 3, 1) := by decide +kernel
theorem dL_crosses_3 : decode cL_crosses 3 = .ok (.iload_n 2, 1) := by decide +kernel
theorem dL_crosses_4 : decode cL_crosses 4 = .ok (.if_icmp .ge 230, 3) := by decide +kernel
theorem dL_crosses_7 : decode cL_crosses 7 = .ok (.iconst 0, 1) := by decide +kernel
theorem dL_crosses_8 : decode cL_crosses 8 = .ok (.istore 4, 2) := by decide +kernel
theorem dL_crosses_10 : decode cL_crosses 10 = .ok (.iload 4, 2) := by decide +kernel
theorem dL_crosses_12 : decode cL_crosses 12 = .ok (.iload_n 2, 1) := by decide +kernel
theorem dL_crosses_13 : decode cL_crosses 13 = .ok (.if_icmp .ge 215, 3) := by decide +kernel
theorem dL_crosses_16 : decode cL_crosses 16 = .ok (.aload_n 1, 1) := by decide +kernel
theorem dL_crosses_17 : decode cL_crosses 17 = .ok (.iload_n 3, 1) := by decide +kernel
theorem dL_crosses_18 : decode cL_crosses 18 = .ok (.iaload, 1) := by decide +kernel
theorem dL_crosses_19 : decode cL_crosses 19 = .ok (.invokestatic 54, 3) := by decide +kernel
theorem dL_crosses_22 : decode cL_crosses 22 = .ok (.ifCond .eq 17, 3) := by decide +kernel
theorem dL_crosses_25 : decode cL_crosses 25 = .ok (.aload_n 1, 1) := by decide +kernel
theorem dL_crosses_26 : decode cL_crosses 26 = .ok (.iload 4, 2) := by decide +kernel
theorem dL_crosses_28 : decode cL_crosses 28 = .ok (.iaload, 1) := by decide +kernel
theorem dL_crosses_29 : decode cL_crosses 29 = .ok (.invokestatic 54, 3) := by decide +kernel
theorem dL_crosses_32 : decode cL_crosses 32 = .ok (.ifCond .eq 7, 3) := by decide +kernel
theorem dL_crosses_35 : decode cL_crosses 35 = .ok (.iconst 1, 1) := by decide +kernel
theorem dL_crosses_36 : decode cL_crosses 36 = .ok (.goto 4, 3) := by decide +kernel
theorem dL_crosses_39 : decode cL_crosses 39 = .ok (.iconst 0, 1) := by decide +kernel
theorem dL_crosses_40 : decode cL_crosses 40 = .ok (.istore 5, 2) := by decide +kernel
theorem dL_crosses_42 : decode cL_crosses 42 = .ok (.iload 5, 2) := by decide +kernel
theorem dL_crosses_44 : decode cL_crosses 44 = .ok (.ifCond .eq 16, 3) := by decide +kernel
theorem dL_crosses_47 : decode cL_crosses 47 = .ok (.aload_n 1, 1) := by decide +kernel
theorem dL_crosses_48 : decode cL_crosses 48 = .ok (.iload_n 3, 1) := by decide +kernel
theorem dL_crosses_49 : decode cL_crosses 49 = .ok (.iaload, 1) := by decide +kernel
theorem dL_crosses_50 : decode cL_crosses 50 = .ok (.aload_n 1, 1) := by decide +kernel
theorem dL_crosses_51 : decode cL_crosses 51 = .ok (.iload 4, 2) := by decide +kernel
theorem dL_crosses_53 : decode cL_crosses 53 = .ok (.iaload, 1) := by decide +kernel
theorem dL_crosses_54 : decode cL_crosses 54 = .ok (.invokestatic 99, 3) := by decide +kernel
theorem dL_crosses_57 : decode cL_crosses 57 = .ok (.goto 5, 3) := by decide +kernel
theorem dL_crosses_60 : decode cL_crosses 60 = .ok (.ldc 83, 2) := by decide +kernel
theorem dL_crosses_62 : decode cL_crosses 62 = .ok (.istore 6, 2) := by decide +kernel
theorem dL_crosses_64 : decode cL_crosses 64 = .ok (.aload_n 0, 1) := by decide +kernel
theorem dL_crosses_65 : decode cL_crosses 65 = .ok (.iload_n 3, 1) := by decide +kernel
theorem dL_crosses_66 : decode cL_crosses 66 = .ok (.iload 4, 2) := by decide +kernel
theorem dL_crosses_68 : decode cL_crosses 68 = .ok (.invokevirtual 96, 3) := by decide +kernel
theorem dL_crosses_71 : decode cL_crosses 71 = .ok (.iload 6, 2) := by decide +kernel
theorem dL_crosses_73 : decode cL_crosses 73 = .ok (.if_icmp .eq 5, 3) := by decide +kernel
theorem dL_crosses_76 : decode cL_crosses 76 = .ok (.iconst 0, 1) := by decide +kernel
theorem dL_crosses_77 : decode cL_crosses 77 = .ok (.ireturn, 1) := by decide +kernel
theorem dL_crosses_78 : decode cL_crosses 78 = .ok (.iload 5, 2) := by decide +kernel
theorem dL_crosses_80 : decode cL_crosses 80 = .ok (.ifCond .ne 6, 3) := by decide +kernel
theorem dL_crosses_83 : decode cL_crosses 83 = .ok (.goto 139, 3) := by decide +kernel
theorem dL_crosses_86 : decode cL_crosses 86 = .ok (.aload_n 1, 1) := by decide +kernel
theorem dL_crosses_87 : decode cL_crosses 87 = .ok (.iload 4, 2) := by decide +kernel
theorem dL_crosses_89 : decode cL_crosses 89 = .ok (.iaload, 1) := by decide +kernel
theorem dL_crosses_90 : decode cL_crosses 90 = .ok (.aload_n 1, 1) := by decide +kernel
theorem dL_crosses_91 : decode cL_crosses 91 = .ok (.iload_n 3, 1) := by decide +kernel
theorem dL_crosses_92 : decode cL_crosses 92 = .ok (.iaload, 1) := by decide +kernel
theorem dL_crosses_93 : decode cL_crosses 93 = .ok (.invokestatic 99, 3) := by decide +kernel
theorem dL_crosses_96 : decode cL_crosses 96 = .ok (.iload 6, 2) := by decide +kernel
theorem dL_crosses_98 : decode cL_crosses 98 = .ok (.if_icmp .ne 64, 3) := by decide +kernel
theorem dL_crosses_101 : decode cL_crosses 101 = .ok (.aload_n 1, 1) := by decide +kernel
theorem dL_crosses_102 : decode cL_crosses 102 = .ok (.iload_n 3, 1) := by decide +kernel
theorem dL_crosses_103 : decode cL_crosses 103 = .ok (.iaload, 1) := by decide +kernel
theorem dL_crosses_104 : decode cL_crosses 104 = .ok (.iconst 1, 1) := by decide +kernel
theorem dL_crosses_105 : decode cL_crosses 105 = .ok (.invokestatic 27, 3) := by decide +kernel
theorem dL_crosses_108 : decode cL_crosses 108 = .ok (.aload_n 1, 1) := by decide +kernel
theorem dL_crosses_109 : decode cL_crosses 109 = .ok (.iload 4, 2) := by decide +kernel
theorem dL_crosses_111 : decode cL_crosses 111 = .ok (.iaload, 1) := by decide +kernel
theorem dL_crosses_112 : decode cL_crosses 112 = .ok (.invokestatic 99, 3) := by decide +kernel
theorem dL_crosses_115 : decode cL_crosses 115 = .ok (.iload 6, 2) := by decide +kernel
theorem dL_crosses_117 : decode cL_crosses 117 = .ok (.if_icmp .ne 45, 3) := by decide +kernel
theorem dL_crosses_120 : decode cL_crosses 120 = .ok (.aload_n 1, 1) := by decide +kernel
theorem dL_crosses_121 : decode cL_crosses 121 = .ok (.iload_n 3, 1) := by decide +kernel
theorem dL_crosses_122 : decode cL_crosses 122 = .ok (.iaload, 1) := by decide +kernel
theorem dL_crosses_123 : decode cL_crosses 123 = .ok (.invokestatic 65, 3) := by decide +kernel
theorem dL_crosses_126 : decode cL_crosses 126 = .ok (.aload_n 1, 1) := by decide +kernel
theorem dL_crosses_127 : decode cL_crosses 127 = .ok (.iload 4, 2) := by decide +kernel
theorem dL_crosses_129 : decode cL_crosses 129 = .ok (.iaload, 1) := by decide +kernel
theorem dL_crosses_130 : decode cL_crosses 130 = .ok (.invokestatic 65, 3) := by decide +kernel
theorem dL_crosses_133 : decode cL_crosses 133 = .ok (.invokestatic 99, 3) := by decide +kernel
theorem dL_crosses_136 : decode cL_crosses 136 = .ok (.iload 6, 2) := by decide +kernel
theorem dL_crosses_138 : decode cL_crosses 138 = .ok (.if_icmp .ne 24, 3) := by decide +kernel
theorem dL_crosses_141 : decode cL_crosses 141 = .ok (.aload_n 1, 1) := by decide +kernel
theorem dL_crosses_142 : decode cL_crosses 142 = .ok (.iload_n 3, 1) := by decide +kernel
theorem dL_crosses_143 : decode cL_crosses 143 = .ok (.iaload, 1) := by decide +kernel
theorem dL_crosses_144 : decode cL_crosses 144 = .ok (.invokestatic 58, 3) := by decide +kernel
theorem dL_crosses_147 : decode cL_crosses 147 = .ok (.aload_n 1, 1) := by decide +kernel
theorem dL_crosses_148 : decode cL_crosses 148 = .ok (.iload 4, 2) := by decide +kernel
theorem dL_crosses_150 : decode cL_crosses 150 = .ok (.iaload, 1) := by decide +kernel
theorem dL_crosses_151 : decode cL_crosses 151 = .ok (.invokestatic 58, 3) := by decide +kernel
theorem dL_crosses_154 : decode cL_crosses 154 = .ok (.invokestatic 99, 3) := by decide +kernel
theorem dL_crosses_157 : decode cL_crosses 157 = .ok (.iload 6, 2) := by decide +kernel
theorem dL_crosses_159 : decode cL_crosses 159 = .ok (.if_icmp .eq 5, 3) := by decide +kernel
theorem dL_crosses_162 : decode cL_crosses 162 = .ok (.iconst 0, 1) := by decide +kernel
theorem dL_crosses_163 : decode cL_crosses 163 = .ok (.ireturn, 1) := by decide +kernel
theorem dL_crosses_164 : decode cL_crosses 164 = .ok (.aload_n 1, 1) := by decide +kernel
theorem dL_crosses_165 : decode cL_crosses 165 = .ok (.iload_n 3, 1) := by decide +kernel
theorem dL_crosses_166 : decode cL_crosses 166 = .ok (.iaload, 1) := by decide +kernel
theorem dL_crosses_167 : decode cL_crosses 167 = .ok (.invokestatic 8, 3) := by decide +kernel
theorem dL_crosses_170 : decode cL_crosses 170 = .ok (.bipush 11, 2) := by decide +kernel
theorem dL_crosses_172 : decode cL_crosses 172 = .ok (.if_icmp .ge 28, 3) := by decide +kernel
theorem dL_crosses_175 : decode cL_crosses 175 = .ok (.aload_n 1, 1) := by decide +kernel
theorem dL_crosses_176 : decode cL_crosses 176 = .ok (.iload_n 3, 1) := by decide +kernel
theorem dL_crosses_177 : decode cL_crosses 177 = .ok (.iaload, 1) := by decide +kernel
theorem dL_crosses_178 : decode cL_crosses 178 = .ok (.aload_n 1, 1) := by decide +kernel
theorem dL_crosses_179 : decode cL_crosses 179 = .ok (.iload_n 3, 1) := by decide +kernel
theorem dL_crosses_180 : decode cL_crosses 180 = .ok (.iaload, 1) := by decide +kernel
theorem dL_crosses_181 : decode cL_crosses 181 = .ok (.invokestatic 102, 3) := by decide +kernel
theorem dL_crosses_184 : decode cL_crosses 184 = .ok (.aload_n 1, 1) := by decide +kernel
theorem dL_crosses_185 : decode cL_crosses 185 = .ok (.iload 4, 2) := by decide +kernel
theorem dL_crosses_187 : decode cL_crosses 187 = .ok (.iaload, 1) := by decide +kernel
theorem dL_crosses_188 : decode cL_crosses 188 = .ok (.invokestatic 99, 3) := by decide +kernel
theorem dL_crosses_191 : decode cL_crosses 191 = .ok (.iconst 2, 1) := by decide +kernel
theorem dL_crosses_192 : decode cL_crosses 192 = .ok (.iload 6, 2) := by decide +kernel
theorem dL_crosses_194 : decode cL_crosses 194 = .ok (.imul, 1) := by decide +kernel
theorem dL_crosses_195 : decode cL_crosses 195 = .ok (.if_icmp .eq 5, 3) := by decide +kernel
theorem dL_crosses_198 : decode cL_crosses 198 = .ok (.iconst 0, 1) := by decide +kernel
theorem dL_crosses_199 : decode cL_crosses 199 = .ok (.ireturn, 1) := by decide +kernel
theorem dL_crosses_200 : decode cL_crosses 200 = .ok (.aload_n 1, 1) := by decide +kernel
theorem dL_crosses_201 : decode cL_crosses 201 = .ok (.iload_n 3, 1) := by decide +kernel
theorem dL_crosses_202 : decode cL_crosses 202 = .ok (.iaload, 1) := by decide +kernel
theorem dL_crosses_203 : decode cL_crosses 203 = .ok (.aload_n 1, 1) := by decide +kernel
theorem dL_crosses_204 : decode cL_crosses 204 = .ok (.iload 4, 2) := by decide +kernel
theorem dL_crosses_206 : decode cL_crosses 206 = .ok (.iaload, 1) := by decide +kernel
theorem dL_crosses_207 : decode cL_crosses 207 = .ok (.invokestatic 61, 3) := by decide +kernel
theorem dL_crosses_210 : decode cL_crosses 210 = .ok (.ifCond .eq 12, 3) := by decide +kernel
theorem dL_crosses_213 : decode cL_crosses 213 = .ok (.iload 6, 2) := by decide +kernel
theorem dL_crosses_215 : decode cL_crosses 215 = .ok (.iconst 2, 1) := by decide +kernel
theorem dL_crosses_216 : decode cL_crosses 216 = .ok (.irem, 1) := by decide +kernel
theorem dL_crosses_217 : decode cL_crosses 217 = .ok (.ifCond .eq 5, 3) := by decide +kernel
theorem dL_crosses_220 : decode cL_crosses 220 = .ok (.iconst 0, 1) := by decide +kernel
theorem dL_crosses_221 : decode cL_crosses 221 = .ok (.ireturn, 1) := by decide +kernel
theorem dL_crosses_222 : decode cL_crosses 222 = .ok (.iinc 4 1, 3) := by decide +kernel
theorem dL_crosses_225 : decode cL_crosses 225 = .ok (.goto (-215), 3) := by decide +kernel
theorem dL_crosses_228 : decode cL_crosses 228 = .ok (.iinc 3 1, 3) := by decide +kernel
theorem dL_crosses_231 : decode cL_crosses 231 = .ok (.goto (-229), 3) := by decide +kernel
theorem dL_crosses_234 : decode cL_crosses 234 = .ok (.iconst 1, 1) := by decide +kernel
theorem dL_crosses_235 : decode cL_crosses 235 = .ok (.ireturn, 1) := by decide +kernel
theorem dL_comes_0 : decode cL_comes 0 = .ok (.iload_n 3, 1) := by decide +kernel
theorem dL_comes_1 : decode cL_comes 1 = .ok (.bipush 20, 2) := by decide +kernel
theorem dL_comes_3 : decode cL_comes 3 = .ok (.if_icmp .le 6, 3) := by decide +kernel
theorem dL_comes_6 : decode cL_comes 6 = .ok (.ldc 83, 2) := by decide +kernel
theorem dL_comes_8 : decode cL_comes 8 = .ok (.ireturn, 1) := by decide +kernel
theorem dL_comes_9 : decode cL_comes 9 = .ok (.iload_n 1, 1) := by decide +kernel
theorem dL_comes_10 : decode cL_comes 10 = .ok (.bipush 6, 2) := by decide +kernel
theorem dL_comes_12 : decode cL_comes 12 = .ok (.if_icmp .ne 6, 3) := by decide +kernel
theorem dL_comes_15 : decode cL_comes 15 = .ok (.ldc 105, 2) := by decide +kernel
theorem dL_comes_17 : decode cL_comes 17 = .ok (.ireturn, 1) := by decide +kernel
theorem dL_comes_18 : decode cL_comes 18 = .ok (.aload_n 0, 1) := by decide +kernel
theorem dL_comes_19 : decode cL_comes 19 = .ok (.iload_n 1, 1) := by decide +kernel
theorem dL_comes_20 : decode cL_comes 20 = .ok (.iload_n 2, 1) := by decide +kernel
theorem dL_comes_21 : decode cL_comes 21 = .ok (.iastore, 1) := by decide +kernel
theorem dL_comes_22 : decode cL_comes 22 = .ok (.iload_n 1, 1) := by decide +kernel
theorem dL_comes_23 : decode cL_comes 23 = .ok (.ireturn, 1) := by decide +kernel
set_option maxRecDepth 20000 in
theorem ggL_cutTo_L_size : GoodIn wsL_cutTo wsL_size := goodIn_rq _ [4] (by decide +kernel) (by decide +kernel)
set_option maxRecDepth 20000 in
theorem gL_cutTo_L_size : GoodIn wsL_cutTo (va_wsS RL 8 yL_size wsL_size) := goodIn_app (goodIn_of _ (by decide +kernel)) ggL_cutTo_L_size
set_option maxRecDepth 20000 in
theorem ggL_cutTo_L_with : GoodIn wsL_cutTo wsL_with := goodIn_rq _ [7, 1, 2, 3, 4] (by decide +kernel) (by decide +kernel)
set_option maxRecDepth 20000 in
theorem gL_cutTo_L_with : GoodIn wsL_cutTo (va_wsS RL 21 yL_with wsL_with) := goodIn_app (goodIn_of _ (by decide +kernel)) ggL_cutTo_L_with
theorem dL_cutTo_0 : decode cL_cutTo 0 = .ok (.iload_n 0, 1) := by decide +kernel
theorem dL_cutTo_1 : decode cL_cutTo 1 = .ok (.istore_n 2, 1) := by decide +kernel
theorem dL_cutTo_2 : decode cL_cutTo 2 = .ok (.iload_n 1, 1) := by decide +kernel
theorem dL_cutTo_3 : decode cL_cutTo 3 = .ok (.istore_n 3, 1) := by decide +kernel
theorem dL_cutTo_4 : decode cL_cutTo 4 = .ok (.iconst 0, 1) := by decide +kernel
theorem dL_cutTo_5 : decode cL_cutTo 5 = .ok (.istore 4, 2) := by decide +kernel
theorem dL_cutTo_7 : decode cL_cutTo 7 = .ok (.iload_n 2, 1) := by decide +kernel
theorem dL_cutTo_8 : decode cL_cutTo 8 = .ok (.iload_n 3, 1) := by decide +kernel
theorem dL_cutTo_9 : decode cL_cutTo 9 = .ok (.if_icmp .eq 66, 3) := by decide +kernel
theorem dL_cutTo_12 : decode cL_cutTo 12 = .ok (.iload 4, 2) := by decide +kernel
theorem dL_cutTo_14 : decode cL_cutTo 14 = .ok (.invokestatic 8, 3) := by decide +kernel
theorem dL_cutTo_17 : decode cL_cutTo 17 = .ok (.bipush 25, 2) := by decide +kernel
theorem dL_cutTo_19 : decode cL_cutTo 19 = .ok (.if_icmp .ge 56, 3) := by decide +kernel
theorem dL_cutTo_22 : decode cL_cutTo 22 = .ok (.iload 4, 2) := by decide +kernel
theorem dL_cutTo_24 : decode cL_cutTo 24 = .ok (.invokestatic 8, 3) := by decide +kernel
theorem dL_cutTo_27 : decode cL_cutTo 27 = .ok (.bipush 20, 2) := by decide +kernel
theorem dL_cutTo_29 : decode cL_cutTo 29 = .ok (.if_icmp .le 10, 3) := by decide +kernel
theorem dL_cutTo_32 : decode cL_cutTo 32 = .ok (.iload 4, 2) := by decide +kernel
theorem dL_cutTo_34 : decode cL_cutTo 34 = .ok (.iconst 1, 1) := by decide +kernel
theorem dL_cutTo_35 : decode cL_cutTo 35 = .ok (.iadd, 1) := by decide +kernel
theorem dL_cutTo_36 : decode cL_cutTo 36 = .ok (.goto 18, 3) := by decide +kernel
theorem dL_cutTo_39 : decode cL_cutTo 39 = .ok (.iload 4, 2) := by decide +kernel
theorem dL_cutTo_41 : decode cL_cutTo 41 = .ok (.iload_n 2, 1) := by decide +kernel
theorem dL_cutTo_42 : decode cL_cutTo 42 = .ok (.iload_n 3, 1) := by decide +kernel
theorem dL_cutTo_43 : decode cL_cutTo 43 = .ok (.if_icmp .le 7, 3) := by decide +kernel
theorem dL_cutTo_46 : decode cL_cutTo 46 = .ok (.iconst 1, 1) := by decide +kernel
theorem dL_cutTo_47 : decode cL_cutTo 47 = .ok (.goto 4, 3) := by decide +kernel
theorem dL_cutTo_50 : decode cL_cutTo 50 = .ok (.iconst 0, 1) := by decide +kernel
theorem dL_cutTo_51 : decode cL_cutTo 51 = .ok (.invokestatic 21, 3) := by decide +kernel
theorem dL_cutTo_54 : decode cL_cutTo 54 = .ok (.istore 4, 2) := by decide +kernel
theorem dL_cutTo_56 : decode cL_cutTo 56 = .ok (.iload_n 2, 1) := by decide +kernel
theorem dL_cutTo_57 : decode cL_cutTo 57 = .ok (.iload_n 3, 1) := by decide +kernel
theorem dL_cutTo_58 : decode cL_cutTo 58 = .ok (.if_icmp .le 10, 3) := by decide +kernel
theorem dL_cutTo_61 : decode cL_cutTo 61 = .ok (.iload_n 2, 1) := by decide +kernel
theorem dL_cutTo_62 : decode cL_cutTo 62 = .ok (.iload_n 3, 1) := by decide +kernel
theorem dL_cutTo_63 : decode cL_cutTo 63 = .ok (.isub, 1) := by decide +kernel
theorem dL_cutTo_64 : decode cL_cutTo 64 = .ok (.istore_n 2, 1) := by decide +kernel
theorem dL_cutTo_65 : decode cL_cutTo 65 = .ok (.goto (-58), 3) := by decide +kernel
theorem dL_cutTo_68 : decode cL_cutTo 68 = .ok (.iload_n 3, 1) := by decide +kernel
theorem dL_cutTo_69 : decode cL_cutTo 69 = .ok (.iload_n 2, 1) := by decide +kernel
theorem dL_cutTo_70 : decode cL_cutTo 70 = .ok (.isub, 1) := by decide +kernel
theorem dL_cutTo_71 : decode cL_cutTo 71 = .ok (.istore_n 3, 1) := by decide +kernel
theorem dL_cutTo_72 : decode cL_cutTo 72 = .ok (.goto (-65), 3) := by decide +kernel
theorem dL_cutTo_75 : decode cL_cutTo 75 = .ok (.iload 4, 2) := by decide +kernel
theorem dL_cutTo_77 : decode cL_cutTo 77 = .ok (.ireturn, 1) := by decide +kernel
set_option maxRecDepth 20000 in
theorem ggL_does_L_at : GoodIn wsL_does wsL_at := goodIn_rq _ [7] (by decide +kernel) (by decide +kernel)
set_option maxRecDepth 20000 in
theorem gL_does_L_at : GoodIn wsL_does (va_wsS RL 36 yL_at wsL_at) := goodIn_app (goodIn_of _ (by decide +kernel)) ggL_does_L_at
set_option maxRecDepth 20000 in
theorem ggL_does_L_wordBy : GoodIn wsL_does wsL_wordBy := goodIn_rq _ [10, 4, 5, 6, 7, 11, 12, 13, 14, 15, 16, 17, 18, 19] (by decide +kernel) (by decide +kernel)
set_option maxRecDepth 20000 in
theorem gL_does_L_wordBy : GoodIn wsL_does (va_wsS RL 106 yL_wordBy wsL_wordBy) := goodIn_app (goodIn_of _ (by decide +kernel)) ggL_does_L_wordBy
set_option maxRecDepth 20000 in
theorem ggL_does_L_write : GoodIn wsL_does wsL_write := goodIn_rq _ [22, 17, 18, 6, 19, 11, 12, 13, 4, 5, 7] (by decide +kernel) (by decide +kernel)
set_option maxRecDepth 20000 in
theorem gL_does_L_write : GoodIn wsL_does (va_wsS RL 109 yL_write wsL_write) := goodIn_app (goodIn_of _ (by decide +kernel)) ggL_does_L_write
set_option maxRecDepth 20000 in
theorem ggL_does_L_spell : GoodIn wsL_does wsL_spell := goodIn_rq _ [25, 26, 27, 28, 29, 30, 31, 32, 33, 34, 35, 36, 37, 38, 39, 40, 41, 42, 43, 44, 45, 46, 47, 48, 49, 263, 264, 265, 266, 267, 268, 269, 270, 271, 272, 273, 274] (by decide +kernel) (by decide +kernel)
set_option maxRecDepth 20000 in
theorem gL_does_L_spell : GoodIn wsL_does (va_wsS RL 113 yL_spell wsL_spell) := goodIn_app (goodIn_of _ (by decide +kernel)) ggL_does_L_spell
set_option maxRecDepth 20000 in
theorem ggL_does_X4_fault : GoodIn wsL_does wsX4_fault := goodIn_rq _ [53, 32, 54, 263, 264, 265, 266, 267, 268, 269, 270, 271, 272, 273, 274] (by decide +kernel) (by decide +kernel)
set_option maxRecDepth 20000 in
theorem gL_does_X4_fault : GoodIn wsL_does (wsV RL 117 RX4 yX4_fault wsX4_fault) := goodIn_app (goodIn_of _ (by decide +kernel)) ggL_does_X4_fault
set_option maxRecDepth 20000 in
theorem ggL_does_X4_word : GoodIn wsL_does wsX4_word := goodIn_rq _ [58, 32, 59, 60, 61, 62, 63, 64, 65, 38, 66, 40, 42, 67, 68, 69, 29, 70, 71, 72, 34, 73, 74, 75, 76, 77, 78, 79, 80, 81, 82, 83, 84, 85, 86, 87, 88, 89, 90, 91, 92, 93, 94, 95, 96, 97, 98, 99, 100, 49, 48, 47, 263, 264, 265, 266, 267, 268, 269, 270, 271, 272, 273, 274, 275, 276, 277, 278, 279, 280, 281] (by decide +kernel) (by decide +kernel)
set_option maxRecDepth 20000 in
theorem gL_does_X4_word : GoodIn wsL_does (wsV RL 121 RX4 yX4_word wsX4_word) := goodIn_app (goodIn_of _ (by decide +kernel)) ggL_does_X4_word
set_option maxRecDepth 20000 in
theorem ggL_does_X4_count : GoodIn wsL_does wsX4_count := goodIn_rq _ [104, 71, 32, 33, 62, 105, 106, 107, 31, 108, 109, 110, 29, 111, 112, 113, 114, 115, 116, 117, 118, 119, 72, 120, 121, 122, 75, 123, 86, 88, 124, 125, 126, 127, 128, 129, 130, 131, 132, 133, 134, 135, 136, 137, 138, 139, 140, 141, 142, 143, 87, 144, 145, 146, 147, 148, 263, 264, 265, 266, 267, 268, 269, 270, 271, 272, 273, 274, 282, 283, 284, 285, 286, 275, 276, 277, 278, 279, 280, 281] (by decide +kernel) (by decide +kernel)
set_option maxRecDepth 20000 in
theorem gL_does_X4_count : GoodIn wsL_does (wsV RL 93 RX4 yX4_count wsX4_count) := goodIn_app (goodIn_of _ (by decide +kernel)) ggL_does_X4_count
set_option maxRecDepth 20000 in
theorem ggL_does_X4_blank : GoodIn wsL_does wsX4_blank := goodIn_rq _ [152, 32, 33, 97, 98, 99, 38, 100, 40, 42, 49, 48, 47, 263, 264, 265, 266, 267, 268, 269, 270, 271, 272, 273, 274] (by decide +kernel) (by decide +kernel)
set_option maxRecDepth 20000 in
theorem gL_does_X4_blank : GoodIn wsL_does (wsV RL 124 RX4 yX4_blank wsX4_blank) := goodIn_app (goodIn_of _ (by decide +kernel)) ggL_does_X4_blank
set_option maxRecDepth 20000 in
theorem ggL_does_L_size : GoodIn wsL_does wsL_size := goodIn_rq _ [19] (by decide +kernel) (by decide +kernel)
set_option maxRecDepth 20000 in
theorem gL_does_L_size : GoodIn wsL_does (va_wsS RL 8 yL_size wsL_size) := goodIn_app (goodIn_of _ (by decide +kernel)) ggL_does_L_size
set_option maxRecDepth 20000 in
theorem ggL_does_X4_turn : GoodIn wsL_does wsX4_turn := goodIn_rq _ [156, 136, 137, 31, 116, 117, 118, 29, 119, 71, 72, 157, 146, 147, 75, 148, 86, 87, 88, 158, 83, 84, 85, 89, 90, 91, 92, 93, 94, 95, 96, 159, 160, 161, 162, 144, 163, 141, 142, 143, 145, 275, 276, 277, 278, 279, 280, 281, 263, 264, 265, 266, 267, 268] (by decide +kernel) (by decide +kernel)
set_option maxRecDepth 20000 in
theorem gL_does_X4_turn : GoodIn wsL_does (wsV RL 127 RX4 yX4_turn wsX4_turn) := goodIn_app (goodIn_of _ (by decide +kernel)) ggL_does_X4_turn
set_option maxRecDepth 20000 in
theorem ggL_does_L_turned : GoodIn wsL_does wsL_turned := goodIn_rq _ [166, 17, 18, 6, 19, 167, 168, 169, 11, 12, 13, 14, 15, 16] (by decide +kernel) (by decide +kernel)
set_option maxRecDepth 20000 in
theorem gL_does_L_turned : GoodIn wsL_does (va_wsS RL 27 yL_turned wsL_turned) := goodIn_app (goodIn_of _ (by decide +kernel)) ggL_does_L_turned
set_option maxRecDepth 20000 in
theorem ggL_does_L_period : GoodIn wsL_does wsL_period := goodIn_rq _ [172, 164, 165, 6, 166, 17, 18, 19, 167, 168, 169, 11, 12, 13, 14, 15, 16] (by decide +kernel) (by decide +kernel)
set_option maxRecDepth 20000 in
theorem gL_does_L_period : GoodIn wsL_does (va_wsS RL 51 yL_period wsL_period) := goodIn_app (goodIn_of _ (by decide +kernel)) ggL_does_L_period
set_option maxRecDepth 20000 in
theorem ggL_does_L_back : GoodIn wsL_does wsL_back := goodIn_rq _ [175, 17, 18, 6, 19, 11, 12, 13, 14, 15, 16] (by decide +kernel) (by decide +kernel)
set_option maxRecDepth 20000 in
theorem gL_does_L_back : GoodIn wsL_does (va_wsS RL 58 yL_back wsL_back) := goodIn_app (goodIn_of _ (by decide +kernel)) ggL_does_L_back
set_option maxRecDepth 20000 in
theorem ggL_does_L_mirror : GoodIn wsL_does wsL_mirror := goodIn_rq _ [178, 17, 18, 6, 19, 11, 12, 13, 14, 15, 16] (by decide +kernel) (by decide +kernel)
set_option maxRecDepth 20000 in
theorem gL_does_L_mirror : GoodIn wsL_does (va_wsS RL 65 yL_mirror wsL_mirror) := goodIn_app (goodIn_of _ (by decide +kernel)) ggL_does_L_mirror
set_option maxRecDepth 20000 in
theorem ggL_does_L_least : GoodIn wsL_does wsL_least := goodIn_rq _ [181, 17, 18, 6, 19, 164, 165, 166, 167, 168, 169, 11, 12, 13, 14, 15, 16, 182, 183, 184] (by decide +kernel) (by decide +kernel)
set_option maxRecDepth 20000 in
theorem gL_does_L_least : GoodIn wsL_does (va_wsS RL 33 yL_least wsL_least) := goodIn_app (goodIn_of _ (by decide +kernel)) ggL_does_L_least
set_option maxRecDepth 20000 in
theorem ggL_does_L_table : GoodIn wsL_does wsL_table := goodIn_rq _ [187, 17, 18, 6, 19, 11, 12, 13] (by decide +kernel) (by decide +kernel)
set_option maxRecDepth 20000 in
theorem gL_does_L_table : GoodIn wsL_does (va_wsS RL 44 yL_table wsL_table) := goodIn_app (goodIn_of _ (by decide +kernel)) ggL_does_L_table
set_option maxRecDepth 20000 in
theorem ggL_does_X4_change : GoodIn wsL_does wsX4_change := goodIn_rq _ [191, 136, 31, 137, 116, 117, 118, 29, 119, 71, 72, 192, 193, 194, 75, 195, 86, 196, 197, 198, 199, 87, 93, 94, 95, 96, 200, 201, 202, 203, 88, 204, 205, 206, 207, 145, 146, 147, 148, 158, 83, 84, 85, 89, 90, 91, 92, 208, 209, 210, 211, 275, 276, 277, 278, 279, 280, 281, 263, 264, 265, 266, 267, 268] (by decide +kernel) (by decide +kernel)
set_option maxRecDepth 20000 in
theorem gL_does_X4_change : GoodIn wsL_does (wsV RL 130 RX4 yX4_change wsX4_change) := goodIn_app (goodIn_of _ (by decide +kernel)) ggL_does_X4_change
set_option maxRecDepth 20000 in
theorem ggL_does_L_join : GoodIn wsL_does wsL_join := goodIn_rq _ [214, 17, 18, 6, 19, 11, 12, 13, 14, 15, 16] (by decide +kernel) (by decide +kernel)
set_option maxRecDepth 20000 in
theorem gL_does_L_join : GoodIn wsL_does (va_wsS RL 102 yL_join wsL_join) := goodIn_app (goodIn_of _ (by decide +kernel)) ggL_does_L_join
set_option maxRecDepth 20000 in
theorem ggL_does_L_comes : GoodIn wsL_does wsL_comes := goodIn_rq _ [217, 218, 1] (by decide +kernel) (by decide +kernel)
set_option maxRecDepth 20000 in
theorem gL_does_L_comes : GoodIn wsL_does (va_wsS RL 133 yL_comes wsL_comes) := goodIn_app (goodIn_of _ (by decide +kernel)) ggL_does_L_comes
set_option maxRecDepth 20000 in
theorem ggL_does_X4_join : GoodIn wsL_does wsX4_join := goodIn_rq _ [222, 136, 138, 137, 116, 117, 118, 29, 119, 71, 72, 67, 68, 69, 70, 59, 34, 73, 74, 75, 76, 77, 78, 79, 80, 81, 82, 83, 84, 85, 86, 87, 88, 89, 90, 91, 92, 93, 94, 95, 96, 275, 276, 277, 278, 279, 280, 281, 263, 264, 265, 266, 267, 268] (by decide +kernel) (by decide +kernel)
set_option maxRecDepth 20000 in
theorem gL_does_X4_join : GoodIn wsL_does (wsV RL 137 RX4 yX4_join wsX4_join) := goodIn_app (goodIn_of _ (by decide +kernel)) ggL_does_X4_join
set_option maxRecDepth 20000 in
theorem ggL_does_X4_times : GoodIn wsL_does wsX4_times := goodIn_rq _ [226, 136, 31, 137, 138, 116, 117, 118, 29, 119, 71, 72, 67, 68, 69, 70, 59, 34, 73, 74, 75, 76, 77, 78, 79, 80, 81, 82, 83, 84, 85, 86, 87, 88, 89, 90, 91, 92, 93, 94, 95, 96, 275, 276, 277, 278, 279, 280, 281, 263, 264, 265, 266, 267, 268] (by decide +kernel) (by decide +kernel)
set_option maxRecDepth 20000 in
theorem gL_does_X4_times : GoodIn wsL_does (wsV RL 138 RX4 yX4_times wsX4_times) := goodIn_app (goodIn_of _ (by decide +kernel)) ggL_does_X4_times
set_option maxRecDepth 20000 in
theorem ggL_does_X4_cut : GoodIn wsL_does wsX4_cut := goodIn_rq _ [230, 31, 231, 232, 29, 233, 234, 235, 236, 237, 238, 239, 240, 67, 68, 69, 70, 59, 71, 72, 34, 73, 74, 75, 76, 77, 78, 79, 80, 81, 82, 83, 84, 85, 86, 87, 88, 89, 90, 91, 92, 93, 94, 95, 96, 263, 264, 265, 266, 267, 268, 275, 276, 277, 278, 279, 280, 281] (by decide +kernel) (by decide +kernel)
set_option maxRecDepth 20000 in
theorem gL_does_X4_cut : GoodIn wsL_does (wsV RL 141 RX4 yX4_cut wsX4_cut) := goodIn_app (goodIn_of _ (by decide +kernel)) ggL_does_X4_cut
set_option maxRecDepth 20000 in
theorem ggL_does_L_gcd : GoodIn wsL_does wsL_gcd := goodIn_rq _ [243] (by decide +kernel) (by decide +kernel)
set_option maxRecDepth 20000 in
theorem gL_does_L_gcd : GoodIn wsL_does (va_wsS RL 77 yL_gcd wsL_gcd) := goodIn_app (goodIn_of _ (by decide +kernel)) ggL_does_L_gcd
set_option maxRecDepth 20000 in
theorem ggL_does_L_cutTo : GoodIn wsL_does wsL_cutTo := goodIn_rq _ [246, 17, 18, 6, 19, 14, 15, 16] (by decide +kernel) (by decide +kernel)
set_option maxRecDepth 20000 in
theorem gL_does_L_cutTo : GoodIn wsL_does (va_wsS RL 144 yL_cutTo wsL_cutTo) := goodIn_app (goodIn_of _ (by decide +kernel)) ggL_does_L_cutTo
set_option maxRecDepth 20000 in
theorem ggL_does_X4_end : GoodIn wsL_does wsX4_end := goodIn_rq _ [250, 136, 251, 252, 253, 254, 31, 116, 117, 118, 29, 119, 71, 72, 275, 276, 277, 278, 279, 280, 281, 263, 264, 265, 266, 267, 268] (by decide +kernel) (by decide +kernel)
set_option maxRecDepth 20000 in
theorem gL_does_X4_end : GoodIn wsL_does (wsV RL 74 RX4 yX4_end wsX4_end) := goodIn_app (goodIn_of _ (by decide +kernel)) ggL_does_X4_end
set_option maxRecDepth 20000 in
theorem ggL_does_X4_drop : GoodIn wsL_does wsX4_drop := goodIn_rq _ [258, 71, 59, 263, 264, 265, 266, 267, 268] (by decide +kernel) (by decide +kernel)
set_option maxRecDepth 20000 in
theorem gL_does_X4_drop : GoodIn wsL_does (wsV RL 147 RX4 yX4_drop wsX4_drop) := goodIn_app (goodIn_of _ (by decide +kernel)) ggL_does_X4_drop
set_option maxRecDepth 20000 in
theorem ggL_does_X4_alike : GoodIn wsL_does wsX4_alike := goodIn_rq _ [135, 136, 137, 138, 139, 116, 117, 118, 29, 119, 71, 72, 140, 141, 142, 75, 143, 87, 144, 145, 146, 147, 148, 86, 88, 275, 276, 277, 278, 279, 280, 281, 263, 264, 265, 266, 267, 268] (by decide +kernel) (by decide +kernel)
set_option maxRecDepth 20000 in
theorem gL_does_X4_alike : GoodIn wsL_does (wsV RL 91 RX4 yX4_alike wsX4_alike) := goodIn_app (goodIn_of _ (by decide +kernel)) ggL_does_X4_alike
set_option maxRecDepth 20000 in
theorem ggL_does_L_alike : GoodIn wsL_does wsL_alike := goodIn_rq _ [262, 17, 18, 6, 19, 179, 180, 181, 164, 165, 166, 167, 168, 169, 11, 12, 13, 14, 15, 16, 182, 183, 184] (by decide +kernel) (by decide +kernel)
set_option maxRecDepth 20000 in
theorem gL_does_L_alike : GoodIn wsL_does (va_wsS RL 61 yL_alike wsL_alike) := goodIn_app (goodIn_of _ (by decide +kernel)) ggL_does_L_alike
theorem dL_does_0 : decode cL_does 0 = .ok (.aload_n 2, 1) := by decide +kernel
theorem dL_does_1 : decode cL_does 1 = .ok (.iconst 0, 1) := by decide +kernel
theorem dL_does_2 : decode cL_does 2 = .ok (.iaload, 1) := by decide +kernel
theorem dL_does_3 : decode cL_does 3 = .ok (.istore 6, 2) := by decide +kernel
theorem dL_does_5 : decode cL_does 5 = .ok (.iload_n 3, 1) := by decide +kernel
theorem dL_does_6 : decode cL_does 6 = .ok (.bipush 10, 2) := by decide +kernel
theorem dL_does_8 : decode cL_does 8 = .ok (.invokestatic 36, 3) := by decide +kernel
theorem dL_does_11 : decode cL_does 11 = .ok (.istore 7, 2) := by decide +kernel
theorem dL_does_13 : decode cL_does 13 = .ok (.iload 6, 2) := by decide +kernel
theorem dL_does_15 : decode cL_does 15 = .ok (.ifCond .ne 7, 3) := by decide +kernel
theorem dL_does_18 : decode cL_does 18 = .ok (.iconst 0, 1) := by decide +kernel
theorem dL_does_19 : decode cL_does 19 = .ok (.goto 11, 3) := by decide +kernel
theorem dL_does_22 : decode cL_does 22 = .ok (.iload_n 3, 1) := by decide +kernel
theorem dL_does_23 : decode cL_does 23 = .ok (.iconst 4, 1) := by decide +kernel
theorem dL_does_24 : decode cL_does 24 = .ok (.ishr, 1) := by decide +kernel
theorem dL_does_25 : decode cL_does 25 = .ok (.iload 6, 2) := by decide +kernel
theorem dL_does_27 : decode cL_does 27 = .ok (.invokestatic 36, 3) := by decide +kernel
theorem dL_does_30 : decode cL_does 30 = .ok (.istore 8, 2) := by decide +kernel
theorem dL_does_32 : decode cL_does 32 = .ok (.iload 6, 2) := by decide +kernel
theorem dL_does_34 : decode cL_does 34 = .ok (.ifCond .ne 7, 3) := by decide +kernel
theorem dL_does_37 : decode cL_does 37 = .ok (.iconst 0, 1) := by decide +kernel
theorem dL_does_38 : decode cL_does 38 = .ok (.goto 12, 3) := by decide +kernel
theorem dL_does_41 : decode cL_does 41 = .ok (.iload_n 3, 1) := by decide +kernel
theorem dL_does_42 : decode cL_does 42 = .ok (.bipush 7, 2) := by decide +kernel
theorem dL_does_44 : decode cL_does 44 = .ok (.ishr, 1) := by decide +kernel
theorem dL_does_45 : decode cL_does 45 = .ok (.iload 6, 2) := by decide +kernel
theorem dL_does_47 : decode cL_does 47 = .ok (.invokestatic 36, 3) := by decide +kernel
theorem dL_does_50 : decode cL_does 50 = .ok (.istore 9, 2) := by decide +kernel
theorem dL_does_52 : decode cL_does 52 = .ok (.iload 7, 2) := by decide +kernel
theorem dL_does_54 : decode cL_does 54 = .ok (.iconst 2, 1) := by decide +kernel
theorem dL_does_55 : decode cL_does 55 = .ok (.if_icmp .lt 8, 3) := by decide +kernel
theorem dL_does_58 : decode cL_does 58 = .ok (.iload 6, 2) := by decide +kernel
theorem dL_does_60 : decode cL_does 60 = .ok (.ifCond .ne 142, 3) := by decide +kernel
theorem dL_does_63 : decode cL_does 63 = .ok (.iload 4, 2) := by decide +kernel
theorem dL_does_65 : decode cL_does 65 = .ok (.bipush 20, 2) := by decide +kernel
theorem dL_does_67 : decode cL_does 67 = .ok (.invokestatic 106, 3) := by decide +kernel
theorem dL_does_70 : decode cL_does 70 = .ok (.istore 10, 2) := by decide +kernel
theorem dL_does_72 : decode cL_does 72 = .ok (.iload 10, 2) := by decide +kernel
theorem dL_does_74 : decode cL_does 74 = .ok (.iload_n 3, 1) := by decide +kernel
theorem dL_does_75 : decode cL_does 75 = .ok (.bipush 9, 2) := by decide +kernel
theorem dL_does_77 : decode cL_does 77 = .ok (.ishr, 1) := by decide +kernel
theorem dL_does_78 : decode cL_does 78 = .ok (.aload 5, 2) := by decide +kernel
theorem dL_does_80 : decode cL_does 80 = .ok (.invokestatic 109, 3) := by decide +kernel
theorem dL_does_83 : decode cL_does 83 = .ok (.istore 11, 2) := by decide +kernel
theorem dL_does_85 : decode cL_does 85 = .ok (.aload_n 0, 1) := by decide +kernel
theorem dL_does_86 : decode cL_does 86 = .ok (.aload 5, 2) := by decide +kernel
theorem dL_does_88 : decode cL_does 88 = .ok (.iload 11, 2) := by decide +kernel
theorem dL_does_90 : decode cL_does 90 = .ok (.invokestatic 113, 3) := by decide +kernel
theorem dL_does_93 : decode cL_does 93 = .ok (.ifCond .eq 12, 3) := by decide +kernel
theorem dL_does_96 : decode cL_does 96 = .ok (.aload_n 0, 1) := by decide +kernel
theorem dL_does_97 : decode cL_does 97 = .ok (.invokevirtual 117, 3) := by decide +kernel
theorem dL_does_100 : decode cL_does 100 = .ok (.iload 11, 2) := by decide +kernel
theorem dL_does_102 : decode cL_does 102 = .ok (.if_icmp .eq 5, 3) := by decide +kernel
theorem dL_does_105 : decode cL_does 105 = .ok (.iconst 0, 1) := by decide +kernel
theorem dL_does_106 : decode cL_does 106 = .ok (.ireturn, 1) := by decide +kernel
theorem dL_does_107 : decode cL_does 107 = .ok (.iload 6, 2) := by decide +kernel
theorem dL_does_109 : decode cL_does 109 = .ok (.bipush 6, 2) := by decide +kernel
theorem dL_does_111 : decode cL_does 111 = .ok (.if_icmp .ne 37, 3) := by decide +kernel
theorem dL_does_114 : decode cL_does 114 = .ok (.aload_n 0, 1) := by decide +kernel
theorem dL_does_115 : decode cL_does 115 = .ok (.invokevirtual 121, 3) := by decide +kernel
theorem dL_does_118 : decode cL_does 118 = .ok (.ldc 105, 2) := by decide +kernel
theorem dL_does_120 : decode cL_does 120 = .ok (.if_icmp .ne 26, 3) := by decide +kernel
theorem dL_does_123 : decode cL_does 123 = .ok (.aload_n 0, 1) := by decide +kernel
theorem dL_does_124 : decode cL_does 124 = .ok (.iconst 3, 1) := by decide +kernel
theorem dL_does_125 : decode cL_does 125 = .ok (.invokevirtual 93, 3) := by decide +kernel
theorem dL_does_128 : decode cL_does 128 = .ok (.iload 11, 2) := by decide +kernel
theorem dL_does_130 : decode cL_does 130 = .ok (.if_icmp .ne 16, 3) := by decide +kernel
theorem dL_does_133 : decode cL_does 133 = .ok (.aload_n 0, 1) := by decide +kernel
theorem dL_does_134 : decode cL_does 134 = .ok (.invokevirtual 124, 3) := by decide +kernel
theorem dL_does_137 : decode cL_does 137 = .ok (.iload 11, 2) := by decide +kernel
theorem dL_does_139 : decode cL_does 139 = .ok (.if_icmp .ne 7, 3) := by decide +kernel
theorem dL_does_142 : decode cL_does 142 = .ok (.iconst 1, 1) := by decide +kernel
theorem dL_does_143 : decode cL_does 143 = .ok (.goto 4, 3) := by decide +kernel
theorem dL_does_146 : decode cL_does 146 = .ok (.iconst 0, 1) := by decide +kernel
theorem dL_does_147 : decode cL_does 147 = .ok (.ireturn, 1) := by decide +kernel
theorem dL_does_148 : decode cL_does 148 = .ok (.aload_n 1, 1) := by decide +kernel
theorem dL_does_149 : decode cL_does 149 = .ok (.iload 6, 2) := by decide +kernel
theorem dL_does_151 : decode cL_does 151 = .ok (.iload 10, 2) := by decide +kernel
theorem dL_does_153 : decode cL_does 153 = .ok (.iastore, 1) := by decide +kernel
theorem dL_does_154 : decode cL_does 154 = .ok (.aload_n 2, 1) := by decide +kernel
theorem dL_does_155 : decode cL_does 155 = .ok (.iconst 0, 1) := by decide +kernel
theorem dL_does_156 : decode cL_does 156 = .ok (.dup2, 1) := by decide +kernel
theorem dL_does_157 : decode cL_does 157 = .ok (.iaload, 1) := by decide +kernel
theorem dL_does_158 : decode cL_does 158 = .ok (.iconst 1, 1) := by decide +kernel
theorem dL_does_159 : decode cL_does 159 = .ok (.iadd, 1) := by decide +kernel
theorem dL_does_160 : decode cL_does 160 = .ok (.iastore, 1) := by decide +kernel
theorem dL_does_161 : decode cL_does 161 = .ok (.aload_n 2, 1) := by decide +kernel
theorem dL_does_162 : decode cL_does 162 = .ok (.iconst 1, 1) := by decide +kernel
theorem dL_does_163 : decode cL_does 163 = .ok (.dup2, 1) := by decide +kernel
theorem dL_does_164 : decode cL_does 164 = .ok (.iaload, 1) := by decide +kernel
theorem dL_does_165 : decode cL_does 165 = .ok (.iconst 1, 1) := by decide +kernel
theorem dL_does_166 : decode cL_does 166 = .ok (.iadd, 1) := by decide +kernel
theorem dL_does_167 : decode cL_does 167 = .ok (.iastore, 1) := by decide +kernel
theorem dL_does_168 : decode cL_does 168 = .ok (.aload_n 0, 1) := by decide +kernel
theorem dL_does_169 : decode cL_does 169 = .ok (.invokevirtual 121, 3) := by decide +kernel
theorem dL_does_172 : decode cL_does 172 = .ok (.iload 6, 2) := by decide +kernel
theorem dL_does_174 : decode cL_does 174 = .ok (.if_icmp .ne 26, 3) := by decide +kernel
theorem dL_does_177 : decode cL_does 177 = .ok (.aload_n 0, 1) := by decide +kernel
theorem dL_does_178 : decode cL_does 178 = .ok (.iconst 3, 1) := by decide +kernel
theorem dL_does_179 : decode cL_does 179 = .ok (.invokevirtual 93, 3) := by decide +kernel
theorem dL_does_182 : decode cL_does 182 = .ok (.ifCond .ne 18, 3) := by decide +kernel
theorem dL_does_185 : decode cL_does 185 = .ok (.aload_n 0, 1) := by decide +kernel
theorem dL_does_186 : decode cL_does 186 = .ok (.iconst 4, 1) := by decide +kernel
theorem dL_does_187 : decode cL_does 187 = .ok (.invokevirtual 93, 3) := by decide +kernel
theorem dL_does_190 : decode cL_does 190 = .ok (.aload_n 2, 1) := by decide +kernel
theorem dL_does_191 : decode cL_does 191 = .ok (.iconst 1, 1) := by decide +kernel
theorem dL_does_192 : decode cL_does 192 = .ok (.iaload, 1) := by decide +kernel
theorem dL_does_193 : decode cL_does 193 = .ok (.if_icmp .ne 7, 3) := by decide +kernel
theorem dL_does_196 : decode cL_does 196 = .ok (.iconst 1, 1) := by decide +kernel
theorem dL_does_197 : decode cL_does 197 = .ok (.goto 4, 3) := by decide +kernel
theorem dL_does_200 : decode cL_does 200 = .ok (.iconst 0, 1) := by decide +kernel
theorem dL_does_201 : decode cL_does 201 = .ok (.ireturn, 1) := by decide +kernel
theorem dL_does_202 : decode cL_does 202 = .ok (.iload 7, 2) := by decide +kernel
theorem dL_does_204 : decode cL_does 204 = .ok (.iconst 2, 1) := by decide +kernel
theorem dL_does_205 : decode cL_does 205 = .ok (.if_icmp .ne 98, 3) := by decide +kernel
theorem dL_does_208 : decode cL_does 208 = .ok (.iload 4, 2) := by decide +kernel
theorem dL_does_210 : decode cL_does 210 = .ok (.aload_n 1, 1) := by decide +kernel
theorem dL_does_211 : decode cL_does 211 = .ok (.iload 8, 2) := by decide +kernel
theorem dL_does_213 : decode cL_does 213 = .ok (.iaload, 1) := by decide +kernel
theorem dL_does_214 : decode cL_does 214 = .ok (.invokestatic 8, 3) := by decide +kernel
theorem dL_does_217 : decode cL_does 217 = .ok (.invokestatic 36, 3) := by decide +kernel
theorem dL_does_220 : decode cL_does 220 = .ok (.istore 10, 2) := by decide +kernel
theorem dL_does_222 : decode cL_does 222 = .ok (.aload_n 0, 1) := by decide +kernel
theorem dL_does_223 : decode cL_does 223 = .ok (.iload 8, 2) := by decide +kernel
theorem dL_does_225 : decode cL_does 225 = .ok (.aload_n 1, 1) := by decide +kernel
theorem dL_does_226 : decode cL_does 226 = .ok (.iload 8, 2) := by decide +kernel
theorem dL_does_228 : decode cL_does 228 = .ok (.iaload, 1) := by decide +kernel
theorem dL_does_229 : decode cL_does 229 = .ok (.invokestatic 8, 3) := by decide +kernel
theorem dL_does_232 : decode cL_does 232 = .ok (.invokevirtual 127, 3) := by decide +kernel
theorem dL_does_235 : decode cL_does 235 = .ok (.ldc 68, 2) := by decide +kernel
theorem dL_does_237 : decode cL_does 237 = .ok (.if_icmp .ne 27, 3) := by decide +kernel
theorem dL_does_240 : decode cL_does 240 = .ok (.aload_n 0, 1) := by decide +kernel
theorem dL_does_241 : decode cL_does 241 = .ok (.iload 8, 2) := by decide +kernel
theorem dL_does_243 : decode cL_does 243 = .ok (.iconst (-1), 1) := by decide +kernel
theorem dL_does_244 : decode cL_does 244 = .ok (.invokevirtual 127, 3) := by decide +kernel
theorem dL_does_247 : decode cL_does 247 = .ok (.ldc 68, 2) := by decide +kernel
theorem dL_does_249 : decode cL_does 249 = .ok (.if_icmp .ne 15, 3) := by decide +kernel
theorem dL_does_252 : decode cL_does 252 = .ok (.aload_n 0, 1) := by decide +kernel
theorem dL_does_253 : decode cL_does 253 = .ok (.iload 6, 2) := by decide +kernel
theorem dL_does_255 : decode cL_does 255 = .ok (.iconst 0, 1) := by decide +kernel
theorem dL_does_256 : decode cL_does 256 = .ok (.invokevirtual 127, 3) := by decide +kernel
theorem dL_does_259 : decode cL_does 259 = .ok (.ldc 84, 2) := by decide +kernel
theorem dL_does_261 : decode cL_does 261 = .ok (.if_icmp .eq 5, 3) := by decide +kernel
theorem dL_does_264 : decode cL_does 264 = .ok (.iconst 0, 1) := by decide +kernel
theorem dL_does_265 : decode cL_does 265 = .ok (.ireturn, 1) := by decide +kernel
theorem dL_does_266 : decode cL_does 266 = .ok (.aload_n 1, 1) := by decide +kernel
theorem dL_does_267 : decode cL_does 267 = .ok (.iload 8, 2) := by decide +kernel
theorem dL_does_269 : decode cL_does 269 = .ok (.aload_n 1, 1) := by decide +kernel
theorem dL_does_270 : decode cL_does 270 = .ok (.iload 8, 2) := by decide +kernel
theorem dL_does_272 : decode cL_does 272 = .ok (.iaload, 1) := by decide +kernel
theorem dL_does_273 : decode cL_does 273 = .ok (.iload 10, 2) := by decide +kernel
theorem dL_does_275 : decode cL_does 275 = .ok (.invokestatic 27, 3) := by decide +kernel
theorem dL_does_278 : decode cL_does 278 = .ok (.iastore, 1) := by decide +kernel
theorem dL_does_279 : decode cL_does 279 = .ok (.aload_n 0, 1) := by decide +kernel
theorem dL_does_280 : decode cL_does 280 = .ok (.iload 8, 2) := by decide +kernel
theorem dL_does_282 : decode cL_does 282 = .ok (.iload 10, 2) := by decide +kernel
theorem dL_does_284 : decode cL_does 284 = .ok (.invokevirtual 127, 3) := by decide +kernel
theorem dL_does_287 : decode cL_does 287 = .ok (.aload_n 1, 1) := by decide +kernel
theorem dL_does_288 : decode cL_does 288 = .ok (.iload 8, 2) := by decide +kernel
theorem dL_does_290 : decode cL_does 290 = .ok (.iaload, 1) := by decide +kernel
theorem dL_does_291 : decode cL_does 291 = .ok (.invokestatic 51, 3) := by decide +kernel
theorem dL_does_294 : decode cL_does 294 = .ok (.if_icmp .ne 7, 3) := by decide +kernel
theorem dL_does_297 : decode cL_does 297 = .ok (.iconst 1, 1) := by decide +kernel
theorem dL_does_298 : decode cL_does 298 = .ok (.goto 4, 3) := by decide +kernel
theorem dL_does_301 : decode cL_does 301 = .ok (.iconst 0, 1) := by decide +kernel
theorem dL_does_302 : decode cL_does 302 = .ok (.ireturn, 1) := by decide +kernel
theorem dL_does_303 : decode cL_does 303 = .ok (.iload 7, 2) := by decide +kernel
theorem dL_does_305 : decode cL_does 305 = .ok (.iconst 3, 1) := by decide +kernel
theorem dL_does_306 : decode cL_does 306 = .ok (.if_icmp .ne 112, 3) := by decide +kernel
theorem dL_does_309 : decode cL_does 309 = .ok (.iload 4, 2) := by decide +kernel
theorem dL_does_311 : decode cL_does 311 = .ok (.iconst 3, 1) := by decide +kernel
theorem dL_does_312 : decode cL_does 312 = .ok (.invokestatic 36, 3) := by decide +kernel
theorem dL_does_315 : decode cL_does 315 = .ok (.istore 10, 2) := by decide +kernel
theorem dL_does_317 : decode cL_does 317 = .ok (.aload_n 1, 1) := by decide +kernel
theorem dL_does_318 : decode cL_does 318 = .ok (.iload 8, 2) := by decide +kernel
theorem dL_does_320 : decode cL_does 320 = .ok (.iload 10, 2) := by decide +kernel
theorem dL_does_322 : decode cL_does 322 = .ok (.ifCond .ne 13, 3) := by decide +kernel
theorem dL_does_325 : decode cL_does 325 = .ok (.aload_n 1, 1) := by decide +kernel
theorem dL_does_326 : decode cL_does 326 = .ok (.iload 8, 2) := by decide +kernel
theorem dL_does_328 : decode cL_does 328 = .ok (.iaload, 1) := by decide +kernel
theorem dL_does_329 : decode cL_does 329 = .ok (.invokestatic 58, 3) := by decide +kernel
theorem dL_does_332 : decode cL_does 332 = .ok (.goto 26, 3) := by decide +kernel
theorem dL_does_335 : decode cL_does 335 = .ok (.iload 10, 2) := by decide +kernel
theorem dL_does_337 : decode cL_does 337 = .ok (.iconst 1, 1) := by decide +kernel
theorem dL_does_338 : decode cL_does 338 = .ok (.if_icmp .ne 13, 3) := by decide +kernel
theorem dL_does_341 : decode cL_does 341 = .ok (.aload_n 1, 1) := by decide +kernel
theorem dL_does_342 : decode cL_does 342 = .ok (.iload 8, 2) := by decide +kernel
theorem dL_does_344 : decode cL_does 344 = .ok (.iaload, 1) := by decide +kernel
theorem dL_does_345 : decode cL_does 345 = .ok (.invokestatic 65, 3) := by decide +kernel
theorem dL_does_348 : decode cL_does 348 = .ok (.goto 10, 3) := by decide +kernel
theorem dL_does_351 : decode cL_does 351 = .ok (.aload_n 1, 1) := by decide +kernel
theorem dL_does_352 : decode cL_does 352 = .ok (.iload 8, 2) := by decide +kernel
theorem dL_does_354 : decode cL_does 354 = .ok (.iaload, 1) := by decide +kernel
theorem dL_does_355 : decode cL_does 355 = .ok (.invokestatic 33, 3) := by decide +kernel
theorem dL_does_358 : decode cL_does 358 = .ok (.iastore, 1) := by decide +kernel
theorem dL_does_359 : decode cL_does 359 = .ok (.aload_n 1, 1) := by decide +kernel
theorem dL_does_360 : decode cL_does 360 = .ok (.iload 8, 2) := by decide +kernel
theorem dL_does_362 : decode cL_does 362 = .ok (.iaload, 1) := by decide +kernel
theorem dL_does_363 : decode cL_does 363 = .ok (.aload 5, 2) := by decide +kernel
theorem dL_does_365 : decode cL_does 365 = .ok (.invokestatic 44, 3) := by decide +kernel
theorem dL_does_368 : decode cL_does 368 = .ok (.aload_n 0, 1) := by decide +kernel
theorem dL_does_369 : decode cL_does 369 = .ok (.iload 8, 2) := by decide +kernel
theorem dL_does_371 : decode cL_does 371 = .ok (.iconst 3, 1) := by decide +kernel
theorem dL_does_372 : decode cL_does 372 = .ok (.invokevirtual 130, 3) := by decide +kernel
theorem dL_does_375 : decode cL_does 375 = .ok (.ldc 68, 2) := by decide +kernel
theorem dL_does_377 : decode cL_does 377 = .ok (.if_icmp .ne 39, 3) := by decide +kernel
theorem dL_does_380 : decode cL_does 380 = .ok (.aload_n 0, 1) := by decide +kernel
theorem dL_does_381 : decode cL_does 381 = .ok (.iload 6, 2) := by decide +kernel
theorem dL_does_383 : decode cL_does 383 = .ok (.iconst 0, 1) := by decide +kernel
theorem dL_does_384 : decode cL_does 384 = .ok (.invokevirtual 130, 3) := by decide +kernel
theorem dL_does_387 : decode cL_does 387 = .ok (.ldc 84, 2) := by decide +kernel
theorem dL_does_389 : decode cL_does 389 = .ok (.if_icmp .ne 27, 3) := by decide +kernel
theorem dL_does_392 : decode cL_does 392 = .ok (.aload_n 0, 1) := by decide +kernel
theorem dL_does_393 : decode cL_does 393 = .ok (.iload 8, 2) := by decide +kernel
theorem dL_does_395 : decode cL_does 395 = .ok (.iload 10, 2) := by decide +kernel
theorem dL_does_397 : decode cL_does 397 = .ok (.invokevirtual 130, 3) := by decide +kernel
theorem dL_does_400 : decode cL_does 400 = .ok (.aload 5, 2) := by decide +kernel
theorem dL_does_402 : decode cL_does 402 = .ok (.iconst 0, 1) := by decide +kernel
theorem dL_does_403 : decode cL_does 403 = .ok (.iaload, 1) := by decide +kernel
theorem dL_does_404 : decode cL_does 404 = .ok (.aload 5, 2) := by decide +kernel
theorem dL_does_406 : decode cL_does 406 = .ok (.iconst 3, 1) := by decide +kernel
theorem dL_does_407 : decode cL_does 407 = .ok (.iaload, 1) := by decide +kernel
theorem dL_does_408 : decode cL_does 408 = .ok (.iadd, 1) := by decide +kernel
theorem dL_does_409 : decode cL_does 409 = .ok (.if_icmp .ne 7, 3) := by decide +kernel
theorem dL_does_412 : decode cL_does 412 = .ok (.iconst 1, 1) := by decide +kernel
theorem dL_does_413 : decode cL_does 413 = .ok (.goto 4, 3) := by decide +kernel
theorem dL_does_416 : decode cL_does 416 = .ok (.iconst 0, 1) := by decide +kernel
theorem dL_does_417 : decode cL_does 417 = .ok (.ireturn, 1) := by decide +kernel
theorem dL_does_418 : decode cL_does 418 = .ok (.iload 7, 2) := by decide +kernel
theorem dL_does_420 : decode cL_does 420 = .ok (.iconst 4, 1) := by decide +kernel
theorem dL_does_421 : decode cL_does 421 = .ok (.if_icmp .ne 102, 3) := by decide +kernel
theorem dL_does_424 : decode cL_does 424 = .ok (.aload_n 1, 1) := by decide +kernel
theorem dL_does_425 : decode cL_does 425 = .ok (.iload 8, 2) := by decide +kernel
theorem dL_does_427 : decode cL_does 427 = .ok (.iaload, 1) := by decide +kernel
theorem dL_does_428 : decode cL_does 428 = .ok (.invokestatic 8, 3) := by decide +kernel
theorem dL_does_431 : decode cL_does 431 = .ok (.aload_n 1, 1) := by decide +kernel
theorem dL_does_432 : decode cL_does 432 = .ok (.iload 9, 2) := by decide +kernel
theorem dL_does_434 : decode cL_does 434 = .ok (.iaload, 1) := by decide +kernel
theorem dL_does_435 : decode cL_does 435 = .ok (.invokestatic 8, 3) := by decide +kernel
theorem dL_does_438 : decode cL_does 438 = .ok (.iadd, 1) := by decide +kernel
theorem dL_does_439 : decode cL_does 439 = .ok (.istore 10, 2) := by decide +kernel
theorem dL_does_441 : decode cL_does 441 = .ok (.aload_n 1, 1) := by decide +kernel
theorem dL_does_442 : decode cL_does 442 = .ok (.iload 6, 2) := by decide +kernel
theorem dL_does_444 : decode cL_does 444 = .ok (.iload 10, 2) := by decide +kernel
theorem dL_does_446 : decode cL_does 446 = .ok (.bipush 20, 2) := by decide +kernel
theorem dL_does_448 : decode cL_does 448 = .ok (.if_icmp .le 7, 3) := by decide +kernel
theorem dL_does_451 : decode cL_does 451 = .ok (.iconst 0, 1) := by decide +kernel
theorem dL_does_452 : decode cL_does 452 = .ok (.goto 14, 3) := by decide +kernel
theorem dL_does_455 : decode cL_does 455 = .ok (.aload_n 1, 1) := by decide +kernel
theorem dL_does_456 : decode cL_does 456 = .ok (.iload 8, 2) := by decide +kernel
theorem dL_does_458 : decode cL_does 458 = .ok (.iaload, 1) := by decide +kernel
theorem dL_does_459 : decode cL_does 459 = .ok (.aload_n 1, 1) := by decide +kernel
theorem dL_does_460 : decode cL_does 460 = .ok (.iload 9, 2) := by decide +kernel
theorem dL_does_462 : decode cL_does 462 = .ok (.iaload, 1) := by decide +kernel
theorem dL_does_463 : decode cL_does 463 = .ok (.invokestatic 102, 3) := by decide +kernel
theorem dL_does_466 : decode cL_does 466 = .ok (.iload 10, 2) := by decide +kernel
theorem dL_does_468 : decode cL_does 468 = .ok (.invokestatic 133, 3) := by decide +kernel
theorem dL_does_471 : decode cL_does 471 = .ok (.istore 11, 2) := by decide +kernel
theorem dL_does_473 : decode cL_does 473 = .ok (.aload_n 2, 1) := by decide +kernel
theorem dL_does_474 : decode cL_does 474 = .ok (.iconst 0, 1) := by decide +kernel
theorem dL_does_475 : decode cL_does 475 = .ok (.dup2, 1) := by decide +kernel
theorem dL_does_476 : decode cL_does 476 = .ok (.iaload, 1) := by decide +kernel
theorem dL_does_477 : decode cL_does 477 = .ok (.iload 11, 2) := by decide +kernel
theorem dL_does_479 : decode cL_does 479 = .ok (.iload 6, 2) := by decide +kernel
theorem dL_does_481 : decode cL_does 481 = .ok (.if_icmp .ne 7, 3) := by decide +kernel
theorem dL_does_484 : decode cL_does 484 = .ok (.iconst 1, 1) := by decide +kernel
theorem dL_does_485 : decode cL_does 485 = .ok (.goto 4, 3) := by decide +kernel
theorem dL_does_488 : decode cL_does 488 = .ok (.iconst 0, 1) := by decide +kernel
theorem dL_does_489 : decode cL_does 489 = .ok (.iadd, 1) := by decide +kernel
theorem dL_does_490 : decode cL_does 490 = .ok (.iastore, 1) := by decide +kernel
theorem dL_does_491 : decode cL_does 491 = .ok (.aload_n 0, 1) := by decide +kernel
theorem dL_does_492 : decode cL_does 492 = .ok (.iload 8, 2) := by decide +kernel
theorem dL_does_494 : decode cL_does 494 = .ok (.iload 6, 2) := by decide +kernel
theorem dL_does_496 : decode cL_does 496 = .ok (.invokevirtual 137, 3) := by decide +kernel
theorem dL_does_499 : decode cL_does 499 = .ok (.ldc 84, 2) := by decide +kernel
theorem dL_does_501 : decode cL_does 501 = .ok (.if_icmp .ne 20, 3) := by decide +kernel
theorem dL_does_504 : decode cL_does 504 = .ok (.aload_n 0, 1) := by decide +kernel
theorem dL_does_505 : decode cL_does 505 = .ok (.iload 8, 2) := by decide +kernel
theorem dL_does_507 : decode cL_does 507 = .ok (.iload 9, 2) := by decide +kernel
theorem dL_does_509 : decode cL_does 509 = .ok (.invokevirtual 137, 3) := by decide +kernel
theorem dL_does_512 : decode cL_does 512 = .ok (.iload 11, 2) := by decide +kernel
theorem dL_does_514 : decode cL_does 514 = .ok (.if_icmp .ne 7, 3) := by decide +kernel
theorem dL_does_517 : decode cL_does 517 = .ok (.iconst 1, 1) := by decide +kernel
theorem dL_does_518 : decode cL_does 518 = .ok (.goto 4, 3) := by decide +kernel
theorem dL_does_521 : decode cL_does 521 = .ok (.iconst 0, 1) := by decide +kernel
theorem dL_does_522 : decode cL_does 522 = .ok (.ireturn, 1) := by decide +kernel
theorem dL_does_523 : decode cL_does 523 = .ok (.iload 7, 2) := by decide +kernel
theorem dL_does_525 : decode cL_does 525 = .ok (.iconst 5, 1) := by decide +kernel
theorem dL_does_526 : decode cL_does 526 = .ok (.if_icmp .ne 155, 3) := by decide +kernel
theorem dL_does_529 : decode cL_does 529 = .ok (.iconst 2, 1) := by decide +kernel
theorem dL_does_530 : decode cL_does 530 = .ok (.iload 4, 2) := by decide +kernel
theorem dL_does_532 : decode cL_does 532 = .ok (.iconst 4, 1) := by decide +kernel
theorem dL_does_533 : decode cL_does 533 = .ok (.invokestatic 36, 3) := by decide +kernel
theorem dL_does_536 : decode cL_does 536 = .ok (.iadd, 1) := by decide +kernel
theorem dL_does_537 : decode cL_does 537 = .ok (.istore 10, 2) := by decide +kernel
theorem dL_does_539 : decode cL_does 539 = .ok (.aload_n 1, 1) := by decide +kernel
theorem dL_does_540 : decode cL_does 540 = .ok (.iload 8, 2) := by decide +kernel
theorem dL_does_542 : decode cL_does 542 = .ok (.iaload, 1) := by decide +kernel
theorem dL_does_543 : decode cL_does 543 = .ok (.istore 11, 2) := by decide +kernel
theorem dL_does_545 : decode cL_does 545 = .ok (.iconst 1, 1) := by decide +kernel
theorem dL_does_546 : decode cL_does 546 = .ok (.istore 12, 2) := by decide +kernel
theorem dL_does_548 : decode cL_does 548 = .ok (.iload 12, 2) := by decide +kernel
theorem dL_does_550 : decode cL_does 550 = .ok (.iload 10, 2) := by decide +kernel
theorem dL_does_552 : decode cL_does 552 = .ok (.if_icmp .ge 35, 3) := by decide +kernel
theorem dL_does_555 : decode cL_does 555 = .ok (.iload 10, 2) := by decide +kernel
theorem dL_does_557 : decode cL_does 557 = .ok (.aload_n 1, 1) := by decide +kernel
theorem dL_does_558 : decode cL_does 558 = .ok (.iload 8, 2) := by decide +kernel
theorem dL_does_560 : decode cL_does 560 = .ok (.iaload, 1) := by decide +kernel
theorem dL_does_561 : decode cL_does 561 = .ok (.invokestatic 8, 3) := by decide +kernel
theorem dL_does_564 : decode cL_does 564 = .ok (.imul, 1) := by decide +kernel
theorem dL_does_565 : decode cL_does 565 = .ok (.bipush 21, 2) := by decide +kernel
theorem dL_does_567 : decode cL_does 567 = .ok (.if_icmp .ge 20, 3) := by decide +kernel
theorem dL_does_570 : decode cL_does 570 = .ok (.iload 11, 2) := by decide +kernel
theorem dL_does_572 : decode cL_does 572 = .ok (.aload_n 1, 1) := by decide +kernel
theorem dL_does_573 : decode cL_does 573 = .ok (.iload 8, 2) := by decide +kernel
theorem dL_does_575 : decode cL_does 575 = .ok (.iaload, 1) := by decide +kernel
theorem dL_does_576 : decode cL_does 576 = .ok (.invokestatic 102, 3) := by decide +kernel
