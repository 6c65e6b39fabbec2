set_option maxRecDepth 20000 in
theorem wL_r1 : ∀ w ∈ wsL_law_r1, w ∈ lw_tbl := fun w h => (goodIn_pq wsL_law_r1 [22, 25] (by decide +kernel) (by decide +kernel) w h).1
set_option maxRecDepth 20000 in
theorem wL_r2 : ∀ w ∈ wsL_law_r2, w ∈ lw_tbl := fun w h => (goodIn_pq wsL_law_r2 [30, 62, 85, 91] (by decide +kernel) (by decide +kernel) w h).1
set_option maxRecDepth 20000 in
theorem wL_r3 : ∀ w ∈ wsL_law_r3, w ∈ lw_tbl := fun w h => (goodIn_pq wsL_law_r3 [96, 100, 218, 375] (by decide +kernel) (by decide +kernel) w h).1
set_option maxRecDepth 20000 in
theorem wL_r4 : ∀ w ∈ wsL_law_r4, w ∈ lw_tbl := fun w h => (goodIn_pq wsL_law_r4 [222, 378, 240, 243, 231, 381, 384] (by decide +kernel) (by decide +kernel) w h).1
set_option maxRecDepth 20000 in
theorem wL_r5 : ∀ w ∈ wsL_law_r5, w ∈ lw_tbl := fun w h => (goodIn_pq wsL_law_r5 [388, 393, 397, 401] (by decide +kernel) (by decide +kernel) w h).1
set_option maxRecDepth 20000 in
theorem wL_r6 : ∀ w ∈ wsL_law_r6, w ∈ lw_tbl := fun w h => (goodIn_pq wsL_law_r6 [405, 409, 413, 418] (by decide +kernel) (by decide +kernel) w h).1
set_option maxRecDepth 20000 in
theorem wL_r7 : ∀ w ∈ wsL_law_r7, w ∈ lw_tbl := fun w h => (goodIn_pq wsL_law_r7 [175, 179, 183, 187, 191, 195] (by decide +kernel) (by decide +kernel) w h).1
set_option maxRecDepth 20000 in
theorem wL_r8 : ∀ w ∈ wsL_law_r8, w ∈ lw_tbl := fun w h => (goodIn_pq wsL_law_r8 [199, 203, 208, 212, 423] (by decide +kernel) (by decide +kernel) w h).1
set_option maxRecDepth 20000 in
theorem wL_r9 : ∀ w ∈ wsL_law_r9, w ∈ lw_tbl := fun w h => (goodIn_pq wsL_law_r9 [427, 266, 234, 237, 293, 299] (by decide +kernel) (by decide +kernel) w h).1
set_option maxRecDepth 20000 in
theorem wL_r10 : ∀ w ∈ wsL_law_r10, w ∈ lw_tbl := fun w h => (goodIn_pq wsL_law_r10 [305, 246, 249, 252, 433, 437, 279] (by decide +kernel) (by decide +kernel) w h).1
set_option maxRecDepth 20000 in
theorem wL_r11 : ∀ w ∈ wsL_law_r11, w ∈ lw_tbl := fun w h => (goodIn_pq wsL_law_r11 [287, 271, 275, 372, 443, 447] (by decide +kernel) (by decide +kernel) w h).1
set_option maxRecDepth 20000 in
theorem wL_r12 : ∀ w ∈ wsL_law_r12, w ∈ lw_tbl := fun w h => (goodIn_pq wsL_law_r12 [451, 455, 336, 339, 342, 325, 459] (by decide +kernel) (by decide +kernel) w h).1
set_option maxRecDepth 20000 in
theorem wL_r13 : ∀ w ∈ wsL_law_r13, w ∈ lw_tbl := fun w h => (goodIn_pq wsL_law_r13 [322, 463, 302, 225, 228] (by decide +kernel) (by decide +kernel) w h).1
set_option maxRecDepth 20000 in
theorem wL_r14 : ∀ w ∈ wsL_law_r14, w ∈ lw_tbl := fun w h => (goodIn_pq wsL_law_r14 [256, 259, 283, 290, 296] (by decide +kernel) (by decide +kernel) w h).1
set_option maxRecDepth 20000 in
theorem wL_r15 : ∀ w ∈ wsL_law_r15, w ∈ lw_tbl := fun w h => (goodIn_pq wsL_law_r15 [310, 314, 318, 329, 333, 345, 355] (by decide +kernel) (by decide +kernel) w h).1
set_option maxRecDepth 20000 in
theorem wL_r16 : ∀ w ∈ wsL_law_r16, w ∈ lw_tbl := fun w h => (goodIn_pq wsL_law_r16 [359, 363, 366, 369, 466] (by decide +kernel) (by decide +kernel) w h).1
set_option maxRecDepth 20000 in
theorem wL_r17 : ∀ w ∈ wsL_law_r17, w ∈ lw_tbl := fun w h => (goodIn_pq wsL_law_r17 [475, 479, 484] (by decide +kernel) (by decide +kernel) w h).1
set_option maxRecDepth 20000 in
theorem wL_r18 : ∀ w ∈ wsL_law_r18, w ∈ lw_tbl := fun w h => (goodIn_pq wsL_law_r18 [493] (by decide +kernel) (by decide +kernel) w h).1
set_option maxRecDepth 20000 in
theorem wL_X4 : ∀ w ∈ wsX40, w ∈ lw_tbl := fun w h => (goodIn_pq wsX40 [] (by decide +kernel) (by decide +kernel) w h).1
set_option maxRecDepth 20000 in
theorem wL_X1 : ∀ w ∈ wsX10, w ∈ lw_tbl := fun w h => (goodIn_pq wsX10 [] (by decide +kernel) (by decide +kernel) w h).1
set_option maxRecDepth 20000 in
theorem wL_X2 : ∀ w ∈ wsX20, w ∈ lw_tbl := fun w h => (goodIn_pq wsX20 [] (by decide +kernel) (by decide +kernel) w h).1
set_option maxRecDepth 20000 in
theorem wL_X0 : ∀ w ∈ wsX00, w ∈ lw_tbl := fun w h => (goodIn_pq wsX00 [] (by decide +kernel) (by decide +kernel) w h).1
set_option maxRecDepth 20000 in
theorem wL_X3 : ∀ w ∈ wsX30, w ∈ lw_tbl := fun w h => (goodIn_pq wsX30 [] (by decide +kernel) (by decide +kernel) w h).1
theorem wsL_law_in : ∀ w ∈ wsL_law, w ∈ lw_tbl := fun w h => by
  unfold wsL_law at h
  rcases List.mem_append.mp h with h | h
  · rcases List.mem_append.mp h with h | h
    · rcases List.mem_append.mp h with h | h
      · rcases List.mem_append.mp h with h | h
        · rcases List.mem_append.mp h with h | h
          · rcases List.mem_append.mp h with h | h
            · exact (fun h => (List.mem_append.mp h).elim (wL_r1 w) (fun h => (List.mem_append.mp h).elim (wL_r2 w) (fun h => (List.mem_append.mp h).elim (wL_r3 w) (fun h => (List.mem_append.mp h).elim (wL_r4 w) (fun h => (List.mem_append.mp h).elim (wL_r5 w) (fun h => (List.mem_append.mp h).elim (wL_r6 w) (fun h => (List.mem_append.mp h).elim (wL_r7 w) (fun h => (List.mem_append.mp h).elim (wL_r8 w) (fun h => (List.mem_append.mp h).elim (wL_r9 w) (fun h => (List.mem_append.mp h).elim (wL_r10 w) (fun h => (List.mem_append.mp h).elim (wL_r11 w) (fun h => (List.mem_append.mp h).elim (wL_r12 w) (fun h => (List.mem_append.mp h).elim (wL_r13 w) (fun h => (List.mem_append.mp h).elim (wL_r14 w) (fun h => (List.mem_append.mp h).elim (wL_r15 w) (fun h => (List.mem_append.mp h).elim (wL_r16 w) (fun h => (List.mem_append.mp h).elim (wL_r17 w) (wL_r18 w)))))))))))))))))) h
            · exact wL_X4 w h
          · exact wL_X1 w h
        · exact wL_X2 w h
      · exact wL_X0 w h
    · exact wL_X3 w h
  · exact absurd h List.not_mem_nil
theorem inlX0 : ∀ w ∈ wsX00, w ∈ wsL_law := fun _ h => List.mem_append_left _ (List.mem_append_left _ (List.mem_append_right _ h))
theorem inX0 : ∀ w ∈ wsX00, w ∈ lw_tbl := fun w h => wsL_law_in w (inlX0 w h)
theorem inlX1 : ∀ w ∈ wsX10, w ∈ wsL_law := fun _ h => List.mem_append_left _ (List.mem_append_left _ (List.mem_append_left _ (List.mem_append_left _ (List.mem_append_right _ h))))
theorem inX1 : ∀ w ∈ wsX10, w ∈ lw_tbl := fun w h => wsL_law_in w (inlX1 w h)
theorem inlX2 : ∀ w ∈ wsX20, w ∈ wsL_law := fun _ h => List.mem_append_left _ (List.mem_append_left _ (List.mem_append_left _ (List.mem_append_right _ h)))
theorem inX2 : ∀ w ∈ wsX20, w ∈ lw_tbl := fun w h => wsL_law_in w (inlX2 w h)
theorem inlX3 : ∀ w ∈ wsX30, w ∈ wsL_law := fun _ h => List.mem_append_left _ (List.mem_append_right _ h)
theorem inX3 : ∀ w ∈ wsX30, w ∈ lw_tbl := fun w h => wsL_law_in w (inlX3 w h)
theorem inlX4 : ∀ w ∈ wsX40, w ∈ wsL_law := fun _ h => List.mem_append_left _ (List.mem_append_left _ (List.mem_append_left _ (List.mem_append_left _ (List.mem_append_left _ (List.mem_append_right _ h)))))
theorem inX4 : ∀ w ∈ wsX40, w ∈ lw_tbl := fun w h => wsL_law_in w (inlX4 w h)
theorem inX5 : ∀ w ∈ wsX50, w ∈ lw_tbl := by decide +kernel
theorem inJ6 : ∀ w ∈ wsJ60, w ∈ lw_tbl := by decide +kernel
theorem inJ9 : ∀ w ∈ wsJ90, w ∈ lw_tbl := by decide +kernel
set_option maxRecDepth 20000 in
theorem ggX0_init_X3_init : GoodIn wsX0_init wsX3_init := goodIn_rq _ [11, 12, 2, 3, 13, 14, 15, 6, 16, 17, 18, 19, 20, 21, 22, 23, 24, 25, 26, 27, 28, 29, 30, 31, 32, 33, 34] (by decide +kernel) (by decide +kernel)
set_option maxRecDepth 20000 in
theorem gX0_init_X3_init : GoodIn wsX0_init (wsX3_init) := ggX0_init_X3_init
theorem dX0_init_0 : decode cX0_init 0 = .ok (.aload_n 0, 1) := by decide +kernel
theorem dX0_init_1 : decode cX0_init 1 = .ok (.invokespecial 1, 3) := by decide +kernel
theorem dX0_init_4 : decode cX0_init 4 = .ok (.aload_n 0, 1) := by decide +kernel
theorem dX0_init_5 : decode cX0_init 5 = .ok (.new 7, 3) := by decide +kernel
theorem dX0_init_8 : decode cX0_init 8 = .ok (.dup, 1) := by decide +kernel
theorem dX0_init_9 : decode cX0_init 9 = .ok (.iconst 0, 1) := by decide +kernel
theorem dX0_init_10 : decode cX0_init 10 = .ok (.bipush 8, 2) := by decide +kernel
theorem dX0_init_12 : decode cX0_init 12 = .ok (.invokespecial 11, 3) := by decide +kernel
theorem dX0_init_15 : decode cX0_init 15 = .ok (.putfield 14, 3) := by decide +kernel
theorem dX0_init_18 : decode cX0_init 18 = .ok (.aload_n 0, 1) := by decide +kernel
theorem dX0_init_19 : decode cX0_init 19 = .ok (.new 7, 3) := by decide +kernel
theorem dX0_init_22 : decode cX0_init 22 = .ok (.dup, 1) := by decide +kernel
theorem dX0_init_23 : decode cX0_init 23 = .ok (.iconst 0, 1) := by decide +kernel
theorem dX0_init_24 : decode cX0_init 24 = .ok (.bipush 8, 2) := by decide +kernel
theorem dX0_init_26 : decode cX0_init 26 = .ok (.invokespecial 11, 3) := by decide +kernel
theorem dX0_init_29 : decode cX0_init 29 = .ok (.putfield 18, 3) := by decide +kernel
theorem dX0_init_32 : decode cX0_init 32 = .ok (.return_, 1) := by decide +kernel
set_option maxRecDepth 20000 in
theorem ggX0_run_X3_become : GoodIn wsX0_run wsX3_become := goodIn_rq _ [12, 13, 14, 15, 16, 17, 18, 19, 20, 21, 22, 11, 23, 60, 61, 62, 63, 64, 65, 66] (by decide +kernel) (by decide +kernel)
set_option maxRecDepth 20000 in
theorem gX0_run_X3_become : GoodIn wsX0_run (wsV RX0 35 RX3 yX3_become wsX3_become) := goodIn_app (goodIn_of _ (by decide +kernel)) ggX0_run_X3_become
set_option maxRecDepth 20000 in
theorem ggX0_run_X0_nextBits : GoodIn wsX0_run wsX0_nextBits := goodIn_rq _ [28, 29, 1, 30, 31, 32, 33, 54, 55, 56, 57, 58, 59] (by decide +kernel) (by decide +kernel)
set_option maxRecDepth 20000 in
theorem gX0_run_X0_nextBits : GoodIn wsX0_run (wsV RX0 41 RX0 yX0_nextBits wsX0_nextBits) := goodIn_app (goodIn_of _ (by decide +kernel)) ggX0_run_X0_nextBits
set_option maxRecDepth 20000 in
theorem ggX0_run_X0_tell : GoodIn wsX0_run wsX0_tell := goodIn_rq _ [37, 5, 2, 3, 6, 4, 38, 39, 40, 11, 41, 13, 15, 42, 43, 44, 45, 16, 19, 46, 47, 48, 49, 14, 20, 21, 22, 23, 50, 51, 52, 53, 54, 55, 56, 57, 58, 59, 60, 61, 62, 63, 64, 65, 66] (by decide +kernel) (by decide +kernel)
set_option maxRecDepth 20000 in
theorem gX0_run_X0_tell : GoodIn wsX0_run (wsV RX0 45 RX0 yX0_tell wsX0_tell) := goodIn_app (goodIn_of _ (by decide +kernel)) ggX0_run_X0_tell
theorem dX0_run_0 : decode cX0_run 0 = .ok (.aload_n 0, 1) := by decide +kernel
theorem dX0_run_1 : decode cX0_run 1 = .ok (.iload_n 2, 1) := by decide +kernel
theorem dX0_run_2 : decode cX0_run 2 = .ok (.i2l, 1) := by decide +kernel
theorem dX0_run_3 : decode cX0_run 3 = .ok (.putfield 21, 3) := by decide +kernel
theorem dX0_run_6 : decode cX0_run 6 = .ok (.aload_n 0, 1) := by decide +kernel
theorem dX0_run_7 : decode cX0_run 7 = .ok (.iconst 0, 1) := by decide +kernel
theorem dX0_run_8 : decode cX0_run 8 = .ok (.putfield 25, 3) := by decide +kernel
theorem dX0_run_11 : decode cX0_run 11 = .ok (.aload_n 0, 1) := by decide +kernel
theorem dX0_run_12 : decode cX0_run 12 = .ok (.iconst 0, 1) := by decide +kernel
theorem dX0_run_13 : decode cX0_run 13 = .ok (.putfield 29, 3) := by decide +kernel
theorem dX0_run_16 : decode cX0_run 16 = .ok (.aload_n 0, 1) := by decide +kernel
theorem dX0_run_17 : decode cX0_run 17 = .ok (.iconst 0, 1) := by decide +kernel
theorem dX0_run_18 : decode cX0_run 18 = .ok (.putfield 32, 3) := by decide +kernel
theorem dX0_run_21 : decode cX0_run 21 = .ok (.aload_n 0, 1) := by decide +kernel
theorem dX0_run_22 : decode cX0_run 22 = .ok (.getfield 18, 3) := by decide +kernel
theorem dX0_run_25 : decode cX0_run 25 = .ok (.iconst 0, 1) := by decide +kernel
theorem dX0_run_26 : decode cX0_run 26 = .ok (.bipush 8, 2) := by decide +kernel
theorem dX0_run_28 : decode cX0_run 28 = .ok (.invokevirtual 35, 3) := by decide +kernel
theorem dX0_run_31 : decode cX0_run 31 = .ok (.iconst 0, 1) := by decide +kernel
theorem dX0_run_32 : decode cX0_run 32 = .ok (.istore_n 3, 1) := by decide +kernel
theorem dX0_run_33 : decode cX0_run 33 = .ok (.iload_n 3, 1) := by decide +kernel
theorem dX0_run_34 : decode cX0_run 34 = .ok (.iload_n 1, 1) := by decide +kernel
theorem dX0_run_35 : decode cX0_run 35 = .ok (.if_icmp .ge 42, 3) := by decide +kernel
theorem dX0_run_38 : decode cX0_run 38 = .ok (.aload_n 0, 1) := by decide +kernel
theorem dX0_run_39 : decode cX0_run 39 = .ok (.getfield 14, 3) := by decide +kernel
theorem dX0_run_42 : decode cX0_run 42 = .ok (.aload_n 0, 1) := by decide +kernel
theorem dX0_run_43 : decode cX0_run 43 = .ok (.getfield 18, 3) := by decide +kernel
theorem dX0_run_46 : decode cX0_run 46 = .ok (.getfield 38, 3) := by decide +kernel
theorem dX0_run_49 : decode cX0_run 49 = .ok (.bipush 8, 2) := by decide +kernel
theorem dX0_run_51 : decode cX0_run 51 = .ok (.invokevirtual 35, 3) := by decide +kernel
theorem dX0_run_54 : decode cX0_run 54 = .ok (.aload_n 0, 1) := by decide +kernel
theorem dX0_run_55 : decode cX0_run 55 = .ok (.getfield 18, 3) := by decide +kernel
theorem dX0_run_58 : decode cX0_run 58 = .ok (.aload_n 0, 1) := by decide +kernel
theorem dX0_run_59 : decode cX0_run 59 = .ok (.invokevirtual 41, 3) := by decide +kernel
theorem dX0_run_62 : decode cX0_run 62 = .ok (.bipush 8, 2) := by decide +kernel
theorem dX0_run_64 : decode cX0_run 64 = .ok (.invokevirtual 35, 3) := by decide +kernel
theorem dX0_run_67 : decode cX0_run 67 = .ok (.aload_n 0, 1) := by decide +kernel
theorem dX0_run_68 : decode cX0_run 68 = .ok (.invokevirtual 45, 3) := by decide +kernel
theorem dX0_run_71 : decode cX0_run 71 = .ok (.iinc 3 1, 3) := by decide +kernel
theorem dX0_run_74 : decode cX0_run 74 = .ok (.goto (-41), 3) := by decide +kernel
theorem dX0_run_77 : decode cX0_run 77 = .ok (.return_, 1) := by decide +kernel
theorem dX0_nextBits_0 : decode cX0_nextBits 0 = .ok (.iconst 0, 1) := by decide +kernel
theorem dX0_nextBits_1 : decode cX0_nextBits 1 = .ok (.istore_n 1, 1) := by decide +kernel
theorem dX0_nextBits_2 : decode cX0_nextBits 2 = .ok (.iconst 0, 1) := by decide +kernel
theorem dX0_nextBits_3 : decode cX0_nextBits 3 = .ok (.istore_n 2, 1) := by decide +kernel
theorem dX0_nextBits_4 : decode cX0_nextBits 4 = .ok (.iload_n 2, 1) := by decide +kernel
theorem dX0_nextBits_5 : decode cX0_nextBits 5 = .ok (.bipush 8, 2) := by decide +kernel
theorem dX0_nextBits_7 : decode cX0_nextBits 7 = .ok (.if_icmp .ge 47, 3) := by decide +kernel
theorem dX0_nextBits_10 : decode cX0_nextBits 10 = .ok (.aload_n 0, 1) := by decide +kernel
theorem dX0_nextBits_11 : decode cX0_nextBits 11 = .ok (.ldc2_w 48, 3) := by decide +kernel
theorem dX0_nextBits_14 : decode cX0_nextBits 14 = .ok (.aload_n 0, 1) := by decide +kernel
theorem dX0_nextBits_15 : decode cX0_nextBits 15 = .ok (.getfield 21, 3) := by decide +kernel
theorem dX0_nextBits_18 : decode cX0_nextBits 18 = .ok (.lmul, 1) := by decide +kernel
theorem dX0_nextBits_19 : decode cX0_nextBits 19 = .ok (.ldc2_w 50, 3) := by decide +kernel
theorem dX0_nextBits_22 : decode cX0_nextBits 22 = .ok (.ladd, 1) := by decide +kernel
theorem dX0_nextBits_23 : decode cX0_nextBits 23 = .ok (.ldc2_w 52, 3) := by decide +kernel
theorem dX0_nextBits_26 : decode cX0_nextBits 26 = .ok (.lrem, 1) := by decide +kernel
theorem dX0_nextBits_27 : decode cX0_nextBits 27 = .ok (.putfield 21, 3) := by decide +kernel
theorem dX0_nextBits_30 : decode cX0_nextBits 30 = .ok (.iload_n 1, 1) := by decide +kernel
theorem dX0_nextBits_31 : decode cX0_nextBits 31 = .ok (.iconst 1, 1) := by decide +kernel
theorem dX0_nextBits_32 : decode cX0_nextBits 32 = .ok (.ishl, 1) := by decide +kernel
theorem dX0_nextBits_33 : decode cX0_nextBits 33 = .ok (.aload_n 0, 1) := by decide +kernel
theorem dX0_nextBits_34 : decode cX0_nextBits 34 = .ok (.getfield 21, 3) := by decide +kernel
theorem dX0_nextBits_37 : decode cX0_nextBits 37 = .ok (.ldc2_w 54, 3) := by decide +kernel
theorem dX0_nextBits_40 : decode cX0_nextBits 40 = .ok (.ldiv, 1) := by decide +kernel
theorem dX0_nextBits_41 : decode cX0_nextBits 41 = .ok (.ldc2_w 56, 3) := by decide +kernel
theorem dX0_nextBits_44 : decode cX0_nextBits 44 = .ok (.lrem, 1) := by decide +kernel
theorem dX0_nextBits_45 : decode cX0_nextBits 45 = .ok (.l2i, 1) := by decide +kernel
theorem dX0_nextBits_46 : decode cX0_nextBits 46 = .ok (.ior, 1) := by decide +kernel
theorem dX0_nextBits_47 : decode cX0_nextBits 47 = .ok (.istore_n 1, 1) := by decide +kernel
theorem dX0_nextBits_48 : decode cX0_nextBits 48 = .ok (.iinc 2 1, 3) := by decide +kernel
theorem dX0_nextBits_51 : decode cX0_nextBits 51 = .ok (.goto (-47), 3) := by decide +kernel
theorem dX0_nextBits_54 : decode cX0_nextBits 54 = .ok (.iload_n 1, 1) := by decide +kernel
theorem dX0_nextBits_55 : decode cX0_nextBits 55 = .ok (.ireturn, 1) := by decide +kernel
set_option maxRecDepth 20000 in
theorem ggX0_tell_X3_isClosed : GoodIn wsX0_tell wsX3_isClosed := goodIn_rq _ [10, 11, 12, 38, 39, 40, 41, 42, 43, 44] (by decide +kernel) (by decide +kernel)
set_option maxRecDepth 20000 in
theorem gX0_tell_X3_isClosed : GoodIn wsX0_tell (wsV RX0 58 RX3 yX3_isClosed wsX3_isClosed) := goodIn_app (goodIn_of _ (by decide +kernel)) ggX0_tell_X3_isClosed
set_option maxRecDepth 20000 in
theorem ggX0_tell_X3_traceSum : GoodIn wsX0_tell wsX3_traceSum := goodIn_rq _ [16, 17, 18, 38, 39, 40, 41, 42, 43, 44] (by decide +kernel) (by decide +kernel)
set_option maxRecDepth 20000 in
theorem gX0_tell_X3_traceSum : GoodIn wsX0_tell (wsV RX0 62 RX3 yX3_traceSum wsX3_traceSum) := goodIn_app (goodIn_of _ (by decide +kernel)) ggX0_tell_X3_traceSum
set_option maxRecDepth 20000 in
theorem ggX0_tell_X3_crossings : GoodIn wsX0_tell wsX3_crossings := goodIn_rq _ [22, 23, 24, 25, 26, 9, 27, 11, 28, 29, 30, 31, 38, 39, 40, 41, 42, 43, 44] (by decide +kernel) (by decide +kernel)
set_option maxRecDepth 20000 in
theorem gX0_tell_X3_crossings : GoodIn wsX0_tell (wsV RX0 65 RX3 yX3_crossings wsX3_crossings) := goodIn_app (goodIn_of _ (by decide +kernel)) ggX0_tell_X3_crossings
theorem dX0_tell_0 : decode cX0_tell 0 = .ok (.aload_n 0, 1) := by decide +kernel
theorem dX0_tell_1 : decode cX0_tell 1 = .ok (.getfield 18, 3) := by decide +kernel
theorem dX0_tell_4 : decode cX0_tell 4 = .ok (.invokevirtual 58, 3) := by decide +kernel
theorem dX0_tell_7 : decode cX0_tell 7 = .ok (.ifCond .ne 4, 3) := by decide +kernel
theorem dX0_tell_10 : decode cX0_tell 10 = .ok (.return_, 1) := by decide +kernel
theorem dX0_tell_11 : decode cX0_tell 11 = .ok (.aload_n 0, 1) := by decide +kernel
theorem dX0_tell_12 : decode cX0_tell 12 = .ok (.dup, 1) := by decide +kernel
theorem dX0_tell_13 : decode cX0_tell 13 = .ok (.getfield 25, 3) := by decide +kernel
theorem dX0_tell_16 : decode cX0_tell 16 = .ok (.iconst 1, 1) := by decide +kernel
theorem dX0_tell_17 : decode cX0_tell 17 = .ok (.iadd, 1) := by decide +kernel
theorem dX0_tell_18 : decode cX0_tell 18 = .ok (.putfield 25, 3) := by decide +kernel
theorem dX0_tell_21 : decode cX0_tell 21 = .ok (.aload_n 0, 1) := by decide +kernel
theorem dX0_tell_22 : decode cX0_tell 22 = .ok (.dup, 1) := by decide +kernel
theorem dX0_tell_23 : decode cX0_tell 23 = .ok (.getfield 29, 3) := by decide +kernel
theorem dX0_tell_26 : decode cX0_tell 26 = .ok (.aload_n 0, 1) := by decide +kernel
theorem dX0_tell_27 : decode cX0_tell 27 = .ok (.getfield 18, 3) := by decide +kernel
theorem dX0_tell_30 : decode cX0_tell 30 = .ok (.invokevirtual 62, 3) := by decide +kernel
theorem dX0_tell_33 : decode cX0_tell 33 = .ok (.iadd, 1) := by decide +kernel
theorem dX0_tell_34 : decode cX0_tell 34 = .ok (.putfield 29, 3) := by decide +kernel
theorem dX0_tell_37 : decode cX0_tell 37 = .ok (.aload_n 0, 1) := by decide +kernel
theorem dX0_tell_38 : decode cX0_tell 38 = .ok (.getfield 14, 3) := by decide +kernel
theorem dX0_tell_41 : decode cX0_tell 41 = .ok (.invokevirtual 58, 3) := by decide +kernel
theorem dX0_tell_44 : decode cX0_tell 44 = .ok (.ifCond .eq 23, 3) := by decide +kernel
theorem dX0_tell_47 : decode cX0_tell 47 = .ok (.aload_n 0, 1) := by decide +kernel
theorem dX0_tell_48 : decode cX0_tell 48 = .ok (.dup, 1) := by decide +kernel
theorem dX0_tell_49 : decode cX0_tell 49 = .ok (.getfield 32, 3) := by decide +kernel
theorem dX0_tell_52 : decode cX0_tell 52 = .ok (.aload_n 0, 1) := by decide +kernel
theorem dX0_tell_53 : decode cX0_tell 53 = .ok (.getfield 18, 3) := by decide +kernel
theorem dX0_tell_56 : decode cX0_tell 56 = .ok (.aload_n 0, 1) := by decide +kernel
theorem dX0_tell_57 : decode cX0_tell 57 = .ok (.getfield 14, 3) := by decide +kernel
theorem dX0_tell_60 : decode cX0_tell 60 = .ok (.invokevirtual 65, 3) := by decide +kernel
theorem dX0_tell_63 : decode cX0_tell 63 = .ok (.iadd, 1) := by decide +kernel
theorem dX0_tell_64 : decode cX0_tell 64 = .ok (.putfield 32, 3) := by decide +kernel
theorem dX0_tell_67 : decode cX0_tell 67 = .ok (.return_, 1) := by decide +kernel
theorem dX1_init_0 : decode cX1_init 0 = .ok (.aload_n 0, 1) := by decide +kernel
theorem dX1_init_1 : decode cX1_init 1 = .ok (.invokespecial 3, 3) := by decide +kernel
theorem dX1_init_4 : decode cX1_init 4 = .ok (.aload_n 0, 1) := by decide +kernel
theorem dX1_init_5 : decode cX1_init 5 = .ok (.bipush 20, 2) := by decide +kernel
theorem dX1_init_7 : decode cX1_init 7 = .ok (.newarray .int, 2) := by decide +kernel
theorem dX1_init_9 : decode cX1_init 9 = .ok (.putfield 9, 3) := by decide +kernel
theorem dX1_init_12 : decode cX1_init 12 = .ok (.return_, 1) := by decide +kernel
theorem dX1_clear_0 : decode cX1_clear 0 = .ok (.aload_n 0, 1) := by decide +kernel
theorem dX1_clear_1 : decode cX1_clear 1 = .ok (.iconst 0, 1) := by decide +kernel
theorem dX1_clear_2 : decode cX1_clear 2 = .ok (.putfield 15, 3) := by decide +kernel
theorem dX1_clear_5 : decode cX1_clear 5 = .ok (.aload_n 0, 1) := by decide +kernel
theorem dX1_clear_6 : decode cX1_clear 6 = .ok (.iconst 0, 1) := by decide +kernel
theorem dX1_clear_7 : decode cX1_clear 7 = .ok (.putfield 19, 3) := by decide +kernel
theorem dX1_clear_10 : decode cX1_clear 10 = .ok (.aload_n 0, 1) := by decide +kernel
theorem dX1_clear_11 : decode cX1_clear 11 = .ok (.iconst 0, 1) := by decide +kernel
theorem dX1_clear_12 : decode cX1_clear 12 = .ok (.putfield 22, 3) := by decide +kernel
theorem dX1_clear_15 : decode cX1_clear 15 = .ok (.aload_n 0, 1) := by decide +kernel
theorem dX1_clear_16 : decode cX1_clear 16 = .ok (.iconst 0, 1) := by decide +kernel
theorem dX1_clear_17 : decode cX1_clear 17 = .ok (.putfield 25, 3) := by decide +kernel
theorem dX1_clear_20 : decode cX1_clear 20 = .ok (.aload_n 0, 1) := by decide +kernel
theorem dX1_clear_21 : decode cX1_clear 21 = .ok (.iconst 0, 1) := by decide +kernel
theorem dX1_clear_22 : decode cX1_clear 22 = .ok (.putfield 28, 3) := by decide +kernel
theorem dX1_clear_25 : decode cX1_clear 25 = .ok (.return_, 1) := by decide +kernel
set_option maxRecDepth 20000 in
theorem ggX1_append_X1_continues : GoodIn wsX1_append wsX1_continues := goodIn_rq _ [8, 9, 10, 11, 12, 13, 14, 15, 16, 17] (by decide +kernel) (by decide +kernel)
set_option maxRecDepth 20000 in
theorem gX1_append_X1_continues : GoodIn wsX1_append (wsV RX1 32 RX1 yX1_continues wsX1_continues) := goodIn_app (goodIn_of _ (by decide +kernel)) ggX1_append_X1_continues
theorem dX1_append_0 : decode cX1_append 0 = .ok (.aload_n 0, 1) := by decide +kernel
theorem dX1_append_1 : decode cX1_append 1 = .ok (.getfield 15, 3) := by decide +kernel
theorem dX1_append_4 : decode cX1_append 4 = .ok (.ifCond .lt 15, 3) := by decide +kernel
theorem dX1_append_7 : decode cX1_append 7 = .ok (.aload_n 0, 1) := by decide +kernel
theorem dX1_append_8 : decode cX1_append 8 = .ok (.getfield 15, 3) := by decide +kernel
theorem dX1_append_11 : decode cX1_append 11 = .ok (.aload_n 0, 1) := by decide +kernel
theorem dX1_append_12 : decode cX1_append 12 = .ok (.getfield 9, 3) := by decide +kernel
theorem dX1_append_15 : decode cX1_append 15 = .ok (.arraylength, 1) := by decide +kernel
theorem dX1_append_16 : decode cX1_append 16 = .ok (.if_icmp .lt 4, 3) := by decide +kernel
theorem dX1_append_19 : decode cX1_append 19 = .ok (.return_, 1) := by decide +kernel
theorem dX1_append_20 : decode cX1_append 20 = .ok (.aload_n 0, 1) := by decide +kernel
theorem dX1_append_21 : decode cX1_append 21 = .ok (.getfield 19, 3) := by decide +kernel
theorem dX1_append_24 : decode cX1_append 24 = .ok (.aload_n 0, 1) := by decide +kernel
theorem dX1_append_25 : decode cX1_append 25 = .ok (.getfield 15, 3) := by decide +kernel
theorem dX1_append_28 : decode cX1_append 28 = .ok (.if_icmp .ne 21, 3) := by decide +kernel
theorem dX1_append_31 : decode cX1_append 31 = .ok (.aload_n 0, 1) := by decide +kernel
theorem dX1_append_32 : decode cX1_append 32 = .ok (.iload_n 1, 1) := by decide +kernel
theorem dX1_append_33 : decode cX1_append 33 = .ok (.invokevirtual 32, 3) := by decide +kernel
theorem dX1_append_36 : decode cX1_append 36 = .ok (.ifCond .eq 13, 3) := by decide +kernel
theorem dX1_append_39 : decode cX1_append 39 = .ok (.aload_n 0, 1) := by decide +kernel
theorem dX1_append_40 : decode cX1_append 40 = .ok (.dup, 1) := by decide +kernel
theorem dX1_append_41 : decode cX1_append 41 = .ok (.getfield 19, 3) := by decide +kernel
theorem dX1_append_44 : decode cX1_append 44 = .ok (.iconst 1, 1) := by decide +kernel
theorem dX1_append_45 : decode cX1_append 45 = .ok (.iadd, 1) := by decide +kernel
theorem dX1_append_46 : decode cX1_append 46 = .ok (.putfield 19, 3) := by decide +kernel
theorem dX1_append_49 : decode cX1_append 49 = .ok (.aload_n 0, 1) := by decide +kernel
theorem dX1_append_50 : decode cX1_append 50 = .ok (.getfield 9, 3) := by decide +kernel
theorem dX1_append_53 : decode cX1_append 53 = .ok (.aload_n 0, 1) := by decide +kernel
theorem dX1_append_54 : decode cX1_append 54 = .ok (.getfield 15, 3) := by decide +kernel
theorem dX1_append_57 : decode cX1_append 57 = .ok (.iload_n 1, 1) := by decide +kernel
theorem dX1_append_58 : decode cX1_append 58 = .ok (.iastore, 1) := by decide +kernel
theorem dX1_append_59 : decode cX1_append 59 = .ok (.aload_n 0, 1) := by decide +kernel
theorem dX1_append_60 : decode cX1_append 60 = .ok (.dup, 1) := by decide +kernel
theorem dX1_append_61 : decode cX1_append 61 = .ok (.getfield 15, 3) := by decide +kernel
theorem dX1_append_64 : decode cX1_append 64 = .ok (.iconst 1, 1) := by decide +kernel
theorem dX1_append_65 : decode cX1_append 65 = .ok (.iadd, 1) := by decide +kernel
theorem dX1_append_66 : decode cX1_append 66 = .ok (.putfield 15, 3) := by decide +kernel
theorem dX1_append_69 : decode cX1_append 69 = .ok (.return_, 1) := by decide +kernel
theorem dX1_isWord_0 : decode cX1_isWord 0 = .ok (.aload_n 0, 1) := by decide +kernel
theorem dX1_isWord_1 : decode cX1_isWord 1 = .ok (.getfield 15, 3) := by decide +kernel
theorem dX1_isWord_4 : decode cX1_isWord 4 = .ok (.ifCond .le 18, 3) := by decide +kernel
theorem dX1_isWord_7 : decode cX1_isWord 7 = .ok (.aload_n 0, 1) := by decide +kernel
theorem dX1_isWord_8 : decode cX1_isWord 8 = .ok (.getfield 19, 3) := by decide +kernel
theorem dX1_isWord_11 : decode cX1_isWord 11 = .ok (.aload_n 0, 1) := by decide +kernel
theorem dX1_isWord_12 : decode cX1_isWord 12 = .ok (.getfield 15, 3) := by decide +kernel
theorem dX1_isWord_15 : decode cX1_isWord 15 = .ok (.if_icmp .ne 7, 3) := by decide +kernel
theorem dX1_isWord_18 : decode cX1_isWord 18 = .ok (.iconst 1, 1) := by decide +kernel
theorem dX1_isWord_19 : decode cX1_isWord 19 = .ok (.goto 4, 3) := by decide +kernel
theorem dX1_isWord_22 : decode cX1_isWord 22 = .ok (.iconst 0, 1) := by decide +kernel
theorem dX1_isWord_23 : decode cX1_isWord 23 = .ok (.ireturn, 1) := by decide +kernel
theorem dX1_continues_0 : decode cX1_continues 0 = .ok (.iload_n 1, 1) := by decide +kernel
theorem dX1_continues_1 : decode cX1_continues 1 = .ok (.bipush 76, 2) := by decide +kernel
theorem dX1_continues_3 : decode cX1_continues 3 = .ok (.if_icmp .eq 9, 3) := by decide +kernel
theorem dX1_continues_6 : decode cX1_continues 6 = .ok (.iload_n 1, 1) := by decide +kernel
theorem dX1_continues_7 : decode cX1_continues 7 = .ok (.bipush 82, 2) := by decide +kernel
theorem dX1_continues_9 : decode cX1_continues 9 = .ok (.if_icmp .ne 7, 3) := by decide +kernel
theorem dX1_continues_12 : decode cX1_continues 12 = .ok (.iconst 1, 1) := by decide +kernel
theorem dX1_continues_13 : decode cX1_continues 13 = .ok (.goto 4, 3) := by decide +kernel
theorem dX1_continues_16 : decode cX1_continues 16 = .ok (.iconst 0, 1) := by decide +kernel
theorem dX1_continues_17 : decode cX1_continues 17 = .ok (.istore_n 2, 1) := by decide +kernel
theorem dX1_continues_18 : decode cX1_continues 18 = .ok (.aload_n 0, 1) := by decide +kernel
theorem dX1_continues_19 : decode cX1_continues 19 = .ok (.getfield 28, 3) := by decide +kernel
theorem dX1_continues_22 : decode cX1_continues 22 = .ok (.ifCond .eq 19, 3) := by decide +kernel
theorem dX1_continues_25 : decode cX1_continues 25 = .ok (.iload_n 1, 1) := by decide +kernel
theorem dX1_continues_26 : decode cX1_continues 26 = .ok (.bipush 50, 2) := by decide +kernel
theorem dX1_continues_28 : decode cX1_continues 28 = .ok (.if_icmp .lt 13, 3) := by decide +kernel
theorem dX1_continues_31 : decode cX1_continues 31 = .ok (.iload_n 1, 1) := by decide +kernel
theorem dX1_continues_32 : decode cX1_continues 32 = .ok (.bipush 57, 2) := by decide +kernel
theorem dX1_continues_34 : decode cX1_continues 34 = .ok (.if_icmp .gt 7, 3) := by decide +kernel
theorem dX1_continues_37 : decode cX1_continues 37 = .ok (.iconst 1, 1) := by decide +kernel
theorem dX1_continues_38 : decode cX1_continues 38 = .ok (.goto 4, 3) := by decide +kernel
theorem dX1_continues_41 : decode cX1_continues 41 = .ok (.iconst 0, 1) := by decide +kernel
theorem dX1_continues_42 : decode cX1_continues 42 = .ok (.istore_n 3, 1) := by decide +kernel
theorem dX1_continues_43 : decode cX1_continues 43 = .ok (.iload_n 2, 1) := by decide +kernel
theorem dX1_continues_44 : decode cX1_continues 44 = .ok (.ifCond .ne 9, 3) := by decide +kernel
theorem dX1_continues_47 : decode cX1_continues 47 = .ok (.iload_n 3, 1) := by decide +kernel
theorem dX1_continues_48 : decode cX1_continues 48 = .ok (.ifCond .ne 5, 3) := by decide +kernel
theorem dX1_continues_51 : decode cX1_continues 51 = .ok (.iconst 0, 1) := by decide +kernel
theorem dX1_continues_52 : decode cX1_continues 52 = .ok (.ireturn, 1) := by decide +kernel
theorem dX1_continues_53 : decode cX1_continues 53 = .ok (.iload_n 2, 1) := by decide +kernel
theorem dX1_continues_54 : decode cX1_continues 54 = .ok (.ifCond .eq 7, 3) := by decide +kernel
theorem dX1_continues_57 : decode cX1_continues 57 = .ok (.iconst 1, 1) := by decide +kernel
theorem dX1_continues_58 : decode cX1_continues 58 = .ok (.goto 7, 3) := by decide +kernel
theorem dX1_continues_61 : decode cX1_continues 61 = .ok (.iload_n 1, 1) := by decide +kernel
theorem dX1_continues_62 : decode cX1_continues 62 = .ok (.bipush 49, 2) := by decide +kernel
theorem dX1_continues_64 : decode cX1_continues 64 = .ok (.isub, 1) := by decide +kernel
theorem dX1_continues_65 : decode cX1_continues 65 = .ok (.istore 4, 2) := by decide +kernel
theorem dX1_continues_67 : decode cX1_continues 67 = .ok (.aload_n 0, 1) := by decide +kernel
theorem dX1_continues_68 : decode cX1_continues 68 = .ok (.getfield 25, 3) := by decide +kernel
theorem dX1_continues_71 : decode cX1_continues 71 = .ok (.iload 4, 2) := by decide +kernel
theorem dX1_continues_73 : decode cX1_continues 73 = .ok (.iadd, 1) := by decide +kernel
theorem dX1_continues_74 : decode cX1_continues 74 = .ok (.bipush 20, 2) := by decide +kernel
theorem dX1_continues_76 : decode cX1_continues 76 = .ok (.if_icmp .le 5, 3) := by decide +kernel
theorem dX1_continues_79 : decode cX1_continues 79 = .ok (.iconst 0, 1) := by decide +kernel
theorem dX1_continues_80 : decode cX1_continues 80 = .ok (.ireturn, 1) := by decide +kernel
theorem dX1_continues_81 : decode cX1_continues 81 = .ok (.iload_n 2, 1) := by decide +kernel
theorem dX1_continues_82 : decode cX1_continues 82 = .ok (.ifCond .eq 17, 3) := by decide +kernel
theorem dX1_continues_85 : decode cX1_continues 85 = .ok (.iload_n 1, 1) := by decide +kernel
theorem dX1_continues_86 : decode cX1_continues 86 = .ok (.bipush 82, 2) := by decide +kernel
theorem dX1_continues_88 : decode cX1_continues 88 = .ok (.if_icmp .ne 7, 3) := by decide +kernel
theorem dX1_continues_91 : decode cX1_continues 91 = .ok (.iconst 1, 1) := by decide +kernel
theorem dX1_continues_92 : decode cX1_continues 92 = .ok (.goto 13, 3) := by decide +kernel
theorem dX1_continues_95 : decode cX1_continues 95 = .ok (.iconst 0, 1) := by decide +kernel
theorem dX1_continues_96 : decode cX1_continues 96 = .ok (.goto 9, 3) := by decide +kernel
theorem dX1_continues_99 : decode cX1_continues 99 = .ok (.aload_n 0, 1) := by decide +kernel
theorem dX1_continues_100 : decode cX1_continues 100 = .ok (.getfield 22, 3) := by decide +kernel
theorem dX1_continues_103 : decode cX1_continues 103 = .ok (.iconst 1, 1) := by decide +kernel
theorem dX1_continues_104 : decode cX1_continues 104 = .ok (.iand, 1) := by decide +kernel
theorem dX1_continues_105 : decode cX1_continues 105 = .ok (.istore 5, 2) := by decide +kernel
theorem dX1_continues_107 : decode cX1_continues 107 = .ok (.iconst 0, 1) := by decide +kernel
theorem dX1_continues_108 : decode cX1_continues 108 = .ok (.istore 6, 2) := by decide +kernel
theorem dX1_continues_110 : decode cX1_continues 110 = .ok (.iload 6, 2) := by decide +kernel
theorem dX1_continues_112 : decode cX1_continues 112 = .ok (.iload 4, 2) := by decide +kernel
theorem dX1_continues_114 : decode cX1_continues 114 = .ok (.if_icmp .ge 22, 3) := by decide +kernel
theorem dX1_continues_117 : decode cX1_continues 117 = .ok (.aload_n 0, 1) := by decide +kernel
theorem dX1_continues_118 : decode cX1_continues 118 = .ok (.aload_n 0, 1) := by decide +kernel
theorem dX1_continues_119 : decode cX1_continues 119 = .ok (.getfield 22, 3) := by decide +kernel
theorem dX1_continues_122 : decode cX1_continues 122 = .ok (.iconst 1, 1) := by decide +kernel
theorem dX1_continues_123 : decode cX1_continues 123 = .ok (.ishl, 1) := by decide +kernel
theorem dX1_continues_124 : decode cX1_continues 124 = .ok (.iload 5, 2) := by decide +kernel
theorem dX1_continues_126 : decode cX1_continues 126 = .ok (.ior, 1) := by decide +kernel
theorem dX1_continues_127 : decode cX1_continues 127 = .ok (.putfield 22, 3) := by decide +kernel
theorem dX1_continues_130 : decode cX1_continues 130 = .ok (.iinc 6 1, 3) := by decide +kernel
theorem dX1_continues_133 : decode cX1_continues 133 = .ok (.goto (-23), 3) := by decide +kernel
theorem dX1_continues_136 : decode cX1_continues 136 = .ok (.aload_n 0, 1) := by decide +kernel
theorem dX1_continues_137 : decode cX1_continues 137 = .ok (.dup, 1) := by decide +kernel
theorem dX1_continues_138 : decode cX1_continues 138 = .ok (.getfield 25, 3) := by decide +kernel
theorem dX1_continues_141 : decode cX1_continues 141 = .ok (.iload 4, 2) := by decide +kernel
theorem dX1_continues_143 : decode cX1_continues 143 = .ok (.iadd, 1) := by decide +kernel
theorem dX1_continues_144 : decode cX1_continues 144 = .ok (.putfield 25, 3) := by decide +kernel
theorem dX1_continues_147 : decode cX1_continues 147 = .ok (.aload_n 0, 1) := by decide +kernel
theorem dX1_continues_148 : decode cX1_continues 148 = .ok (.iload_n 2, 1) := by decide +kernel
theorem dX1_continues_149 : decode cX1_continues 149 = .ok (.putfield 28, 3) := by decide +kernel
theorem dX1_continues_152 : decode cX1_continues 152 = .ok (.iconst 1, 1) := by decide +kernel
theorem dX1_continues_153 : decode cX1_continues 153 = .ok (.ireturn, 1) := by decide +kernel
theorem dX2_init_0 : decode cX2_init 0 = .ok (.aload_n 0, 1) := by decide +kernel
theorem dX2_init_1 : decode cX2_init 1 = .ok (.invokespecial 3, 3) := by decide +kernel
theorem dX2_init_4 : decode cX2_init 4 = .ok (.aload_n 0, 1) := by decide +kernel
theorem dX2_init_5 : decode cX2_init 5 = .ok (.bipush 8, 2) := by decide +kernel
theorem dX2_init_7 : decode cX2_init 7 = .ok (.sipush 320, 3) := by decide +kernel
theorem dX2_init_10 : decode cX2_init 10 = .ok (.multianewarray 11 2, 4) := by decide +kernel
theorem dX2_init_14 : decode cX2_init 14 = .ok (.putfield 13, 3) := by decide +kernel
theorem dX2_init_17 : decode cX2_init 17 = .ok (.aload_n 0, 1) := by decide +kernel
theorem dX2_init_18 : decode cX2_init 18 = .ok (.iconst 5, 1) := by decide +kernel
theorem dX2_init_19 : decode cX2_init 19 = .ok (.bipush 10, 2) := by decide +kernel
theorem dX2_init_21 : decode cX2_init 21 = .ok (.multianewarray 11 2, 4) := by decide +kernel
theorem dX2_init_25 : decode cX2_init 25 = .ok (.putfield 16, 3) := by decide +kernel
theorem dX2_init_28 : decode cX2_init 28 = .ok (.return_, 1) := by decide +kernel
set_option maxRecDepth 20000 in
theorem ggX3_init_X3_become : GoodIn wsX3_init wsX3_become := goodIn_rq _ [8, 9, 10, 11, 12, 13, 14, 15, 16, 17, 18, 7, 19, 20, 21, 22, 23, 24, 25, 26] (by decide +kernel) (by decide +kernel)
set_option maxRecDepth 20000 in
theorem gX3_init_X3_become : GoodIn wsX3_init (wsV RX3 9 RX3 yX3_become wsX3_become) := goodIn_app (goodIn_of _ (by decide +kernel)) ggX3_init_X3_become
theorem dX3_init_0 : decode cX3_init 0 = .ok (.aload_n 0, 1) := by decide +kernel
theorem dX3_init_1 : decode cX3_init 1 = .ok (.invokespecial 3, 3) := by decide +kernel
theorem dX3_init_4 : decode cX3_init 4 = .ok (.aload_n 0, 1) := by decide +kernel
theorem dX3_init_5 : decode cX3_init 5 = .ok (.iload_n 1, 1) := by decide +kernel
theorem dX3_init_6 : decode cX3_init 6 = .ok (.iload_n 2, 1) := by decide +kernel
theorem dX3_init_7 : decode cX3_init 7 = .ok (.invokevirtual 9, 3) := by decide +kernel
theorem dX3_init_10 : decode cX3_init 10 = .ok (.return_, 1) := by decide +kernel
set_option maxRecDepth 20000 in
theorem ggX3_become_X3_bitAt : GoodIn wsX3_become wsX3_bitAt := goodIn_rq _ [12, 1, 2, 13, 14, 15, 16, 17, 18, 19] (by decide +kernel) (by decide +kernel)
set_option maxRecDepth 20000 in
theorem gX3_become_X3_bitAt : GoodIn wsX3_become (wsV RX3 37 RX3 yX3_bitAt wsX3_bitAt) := goodIn_app (goodIn_of _ (by decide +kernel)) ggX3_become_X3_bitAt
theorem dX3_become_0 : decode cX3_become 0 = .ok (.aload_n 0, 1) := by decide +kernel
theorem dX3_become_1 : decode cX3_become 1 = .ok (.iload_n 1, 1) := by decide +kernel
theorem dX3_become_2 : decode cX3_become 2 = .ok (.putfield 15, 3) := by decide +kernel
theorem dX3_become_5 : decode cX3_become 5 = .ok (.aload_n 0, 1) := by decide +kernel
theorem dX3_become_6 : decode cX3_become 6 = .ok (.iload_n 2, 1) := by decide +kernel
theorem dX3_become_7 : decode cX3_become 7 = .ok (.putfield 19, 3) := by decide +kernel
theorem dX3_become_10 : decode cX3_become 10 = .ok (.aload_n 0, 1) := by decide +kernel
theorem dX3_become_11 : decode cX3_become 11 = .ok (.iconst 1, 1) := by decide +kernel
theorem dX3_become_12 : decode cX3_become 12 = .ok (.iload_n 2, 1) := by decide +kernel
theorem dX3_become_13 : decode cX3_become 13 = .ok (.ishl, 1) := by decide +kernel
theorem dX3_become_14 : decode cX3_become 14 = .ok (.iconst 1, 1) := by decide +kernel
theorem dX3_become_15 : decode cX3_become 15 = .ok (.isub, 1) := by decide +kernel
theorem dX3_become_16 : decode cX3_become 16 = .ok (.putfield 22, 3) := by decide +kernel
theorem dX3_become_19 : decode cX3_become 19 = .ok (.aload_n 0, 1) := by decide +kernel
theorem dX3_become_20 : decode cX3_become 20 = .ok (.iconst 1, 1) := by decide +kernel
theorem dX3_become_21 : decode cX3_become 21 = .ok (.putfield 25, 3) := by decide +kernel
theorem dX3_become_24 : decode cX3_become 24 = .ok (.aload_n 0, 1) := by decide +kernel
theorem dX3_become_25 : decode cX3_become 25 = .ok (.iconst 0, 1) := by decide +kernel
theorem dX3_become_26 : decode cX3_become 26 = .ok (.putfield 28, 3) := by decide +kernel
theorem dX3_become_29 : decode cX3_become 29 = .ok (.aload_n 0, 1) := by decide +kernel
theorem dX3_become_30 : decode cX3_become 30 = .ok (.iconst 0, 1) := by decide +kernel
theorem dX3_become_31 : decode cX3_become 31 = .ok (.putfield 31, 3) := by decide +kernel
theorem dX3_become_34 : decode cX3_become 34 = .ok (.aload_n 0, 1) := by decide +kernel
theorem dX3_become_35 : decode cX3_become 35 = .ok (.iconst 1, 1) := by decide +kernel
theorem dX3_become_36 : decode cX3_become 36 = .ok (.putfield 34, 3) := by decide +kernel
theorem dX3_become_39 : decode cX3_become 39 = .ok (.iconst 0, 1) := by decide +kernel
theorem dX3_become_40 : decode cX3_become 40 = .ok (.istore_n 3, 1) := by decide +kernel
theorem dX3_become_41 : decode cX3_become 41 = .ok (.iload_n 3, 1) := by decide +kernel
theorem dX3_become_42 : decode cX3_become 42 = .ok (.aload_n 0, 1) := by decide +kernel
theorem dX3_become_43 : decode cX3_become 43 = .ok (.getfield 19, 3) := by decide +kernel
theorem dX3_become_46 : decode cX3_become 46 = .ok (.if_icmp .ge 73, 3) := by decide +kernel
theorem dX3_become_49 : decode cX3_become 49 = .ok (.aload_n 0, 1) := by decide +kernel
theorem dX3_become_50 : decode cX3_become 50 = .ok (.iload_n 3, 1) := by decide +kernel
theorem dX3_become_51 : decode cX3_become 51 = .ok (.invokevirtual 37, 3) := by decide +kernel
theorem dX3_become_54 : decode cX3_become 54 = .ok (.iconst 1, 1) := by decide +kernel
theorem dX3_become_55 : decode cX3_become 55 = .ok (.if_icmp .ne 32, 3) := by decide +kernel
theorem dX3_become_58 : decode cX3_become 58 = .ok (.aload_n 0, 1) := by decide +kernel
theorem dX3_become_59 : decode cX3_become 59 = .ok (.dup, 1) := by decide +kernel
theorem dX3_become_60 : decode cX3_become 60 = .ok (.getfield 28, 3) := by decide +kernel
theorem dX3_become_63 : decode cX3_become 63 = .ok (.aload_n 0, 1) := by decide +kernel
theorem dX3_become_64 : decode cX3_become 64 = .ok (.getfield 25, 3) := by decide +kernel
theorem dX3_become_67 : decode cX3_become 67 = .ok (.iadd, 1) := by decide +kernel
theorem dX3_become_68 : decode cX3_become 68 = .ok (.putfield 28, 3) := by decide +kernel
theorem dX3_become_71 : decode cX3_become 71 = .ok (.aload_n 0, 1) := by decide +kernel
theorem dX3_become_72 : decode cX3_become 72 = .ok (.dup, 1) := by decide +kernel
theorem dX3_become_73 : decode cX3_become 73 = .ok (.getfield 34, 3) := by decide +kernel
theorem dX3_become_76 : decode cX3_become 76 = .ok (.aload_n 0, 1) := by decide +kernel
theorem dX3_become_77 : decode cX3_become 77 = .ok (.getfield 31, 3) := by decide +kernel
theorem dX3_become_80 : decode cX3_become 80 = .ok (.iadd, 1) := by decide +kernel
theorem dX3_become_81 : decode cX3_become 81 = .ok (.putfield 34, 3) := by decide +kernel
theorem dX3_become_84 : decode cX3_become 84 = .ok (.goto 29, 3) := by decide +kernel
theorem dX3_become_87 : decode cX3_become 87 = .ok (.aload_n 0, 1) := by decide +kernel
theorem dX3_become_88 : decode cX3_become 88 = .ok (.dup, 1) := by decide +kernel
theorem dX3_become_89 : decode cX3_become 89 = .ok (.getfield 25, 3) := by decide +kernel
theorem dX3_become_92 : decode cX3_become 92 = .ok (.aload_n 0, 1) := by decide +kernel
theorem dX3_become_93 : decode cX3_become 93 = .ok (.getfield 28, 3) := by decide +kernel
theorem dX3_become_96 : decode cX3_become 96 = .ok (.iadd, 1) := by decide +kernel
theorem dX3_become_97 : decode cX3_become 97 = .ok (.putfield 25, 3) := by decide +kernel
theorem dX3_become_100 : decode cX3_become 100 = .ok (.aload_n 0, 1) := by decide +kernel
theorem dX3_become_101 : decode cX3_become 101 = .ok (.dup, 1) := by decide +kernel
theorem dX3_become_102 : decode cX3_become 102 = .ok (.getfield 31, 3) := by decide +kernel
theorem dX3_become_105 : decode cX3_become 105 = .ok (.aload_n 0, 1) := by decide +kernel
theorem dX3_become_106 : decode cX3_become 106 = .ok (.getfield 34, 3) := by decide +kernel
theorem dX3_become_109 : decode cX3_become 109 = .ok (.iadd, 1) := by decide +kernel
theorem dX3_become_110 : decode cX3_become 110 = .ok (.putfield 31, 3) := by decide +kernel
theorem dX3_become_113 : decode cX3_become 113 = .ok (.iinc 3 1, 3) := by decide +kernel
theorem dX3_become_116 : decode cX3_become 116 = .ok (.goto (-75), 3) := by decide +kernel
theorem dX3_become_119 : decode cX3_become 119 = .ok (.return_, 1) := by decide +kernel
theorem dX3_bitAt_0 : decode cX3_bitAt 0 = .ok (.aload_n 0, 1) := by decide +kernel
theorem dX3_bitAt_1 : decode cX3_bitAt 1 = .ok (.getfield 15, 3) := by decide +kernel
theorem dX3_bitAt_4 : decode cX3_bitAt 4 = .ok (.aload_n 0, 1) := by decide +kernel
theorem dX3_bitAt_5 : decode cX3_bitAt 5 = .ok (.getfield 19, 3) := by decide +kernel
theorem dX3_bitAt_8 : decode cX3_bitAt 8 = .ok (.iconst 1, 1) := by decide +kernel
theorem dX3_bitAt_9 : decode cX3_bitAt 9 = .ok (.isub, 1) := by decide +kernel
theorem dX3_bitAt_10 : decode cX3_bitAt 10 = .ok (.iload_n 1, 1) := by decide +kernel
theorem dX3_bitAt_11 : decode cX3_bitAt 11 = .ok (.isub, 1) := by decide +kernel
theorem dX3_bitAt_12 : decode cX3_bitAt 12 = .ok (.ishr, 1) := by decide +kernel
theorem dX3_bitAt_13 : decode cX3_bitAt 13 = .ok (.iconst 1, 1) := by decide +kernel
theorem dX3_bitAt_14 : decode cX3_bitAt 14 = .ok (.iand, 1) := by decide +kernel
theorem dX3_bitAt_15 : decode cX3_bitAt 15 = .ok (.ireturn, 1) := by decide +kernel
theorem dX3_isClosed_0 : decode cX3_isClosed 0 = .ok (.aload_n 0, 1) := by decide +kernel
theorem dX3_isClosed_1 : decode cX3_isClosed 1 = .ok (.getfield 15, 3) := by decide +kernel
theorem dX3_isClosed_4 : decode cX3_isClosed 4 = .ok (.ifCond .eq 18, 3) := by decide +kernel
theorem dX3_isClosed_7 : decode cX3_isClosed 7 = .ok (.aload_n 0, 1) := by decide +kernel
theorem dX3_isClosed_8 : decode cX3_isClosed 8 = .ok (.getfield 15, 3) := by decide +kernel
theorem dX3_isClosed_11 : decode cX3_isClosed 11 = .ok (.aload_n 0, 1) := by decide +kernel
theorem dX3_isClosed_12 : decode cX3_isClosed 12 = .ok (.getfield 22, 3) := by decide +kernel
theorem dX3_isClosed_15 : decode cX3_isClosed 15 = .ok (.if_icmp .eq 7, 3) := by decide +kernel
theorem dX3_isClosed_18 : decode cX3_isClosed 18 = .ok (.iconst 1, 1) := by decide +kernel
theorem dX3_isClosed_19 : decode cX3_isClosed 19 = .ok (.goto 4, 3) := by decide +kernel
theorem dX3_isClosed_22 : decode cX3_isClosed 22 = .ok (.iconst 0, 1) := by decide +kernel
theorem dX3_isClosed_23 : decode cX3_isClosed 23 = .ok (.ireturn, 1) := by decide +kernel
theorem dX3_traceSum_0 : decode cX3_traceSum 0 = .ok (.aload_n 0, 1) := by decide +kernel
theorem dX3_traceSum_1 : decode cX3_traceSum 1 = .ok (.getfield 25, 3) := by decide +kernel
theorem dX3_traceSum_4 : decode cX3_traceSum 4 = .ok (.aload_n 0, 1) := by decide +kernel
theorem dX3_traceSum_5 : decode cX3_traceSum 5 = .ok (.getfield 34, 3) := by decide +kernel
theorem dX3_traceSum_8 : decode cX3_traceSum 8 = .ok (.iadd, 1) := by decide +kernel
theorem dX3_traceSum_9 : decode cX3_traceSum 9 = .ok (.ireturn, 1) := by decide +kernel
theorem dX3_rotation_0 : decode cX3_rotation 0 = .ok (.aload_n 0, 1) := by decide +kernel
theorem dX3_rotation_1 : decode cX3_rotation 1 = .ok (.getfield 15, 3) := by decide +kernel
theorem dX3_rotation_4 : decode cX3_rotation 4 = .ok (.iload_n 1, 1) := by decide +kernel
theorem dX3_rotation_5 : decode cX3_rotation 5 = .ok (.ishl, 1) := by decide +kernel
theorem dX3_rotation_6 : decode cX3_rotation 6 = .ok (.aload_n 0, 1) := by decide +kernel
theorem dX3_rotation_7 : decode cX3_rotation 7 = .ok (.getfield 15, 3) := by decide +kernel
theorem dX3_rotation_10 : decode cX3_rotation 10 = .ok (.aload_n 0, 1) := by decide +kernel
theorem dX3_rotation_11 : decode cX3_rotation 11 = .ok (.getfield 19, 3) := by decide +kernel
theorem dX3_rotation_14 : decode cX3_rotation 14 = .ok (.iload_n 1, 1) := by decide +kernel
theorem dX3_rotation_15 : decode cX3_rotation 15 = .ok (.isub, 1) := by decide +kernel
theorem dX3_rotation_16 : decode cX3_rotation 16 = .ok (.ishr, 1) := by decide +kernel
theorem dX3_rotation_17 : decode cX3_rotation 17 = .ok (.ior, 1) := by decide +kernel
theorem dX3_rotation_18 : decode cX3_rotation 18 = .ok (.aload_n 0, 1) := by decide +kernel
theorem dX3_rotation_19 : decode cX3_rotation 19 = .ok (.getfield 22, 3) := by decide +kernel
theorem dX3_rotation_22 : decode cX3_rotation 22 = .ok (.iand, 1) := by decide +kernel
theorem dX3_rotation_23 : decode cX3_rotation 23 = .ok (.ireturn, 1) := by decide +kernel
set_option maxRecDepth 20000 in
theorem ggX3_reversal_X3_bitAt : GoodIn wsX3_reversal wsX3_bitAt := goodIn_rq _ [6, 7, 1, 8, 9, 10, 11, 12, 13, 14] (by decide +kernel) (by decide +kernel)
set_option maxRecDepth 20000 in
theorem gX3_reversal_X3_bitAt : GoodIn wsX3_reversal (wsV RX3 37 RX3 yX3_bitAt wsX3_bitAt) := goodIn_app (goodIn_of _ (by decide +kernel)) ggX3_reversal_X3_bitAt
theorem dX3_reversal_0 : decode cX3_reversal 0 = .ok (.iconst 0, 1) := by decide +kernel
theorem dX3_reversal_1 : decode cX3_reversal 1 = .ok (.istore_n 1, 1) := by decide +kernel
theorem dX3_reversal_2 : decode cX3_reversal 2 = .ok (.aload_n 0, 1) := by decide +kernel
theorem dX3_reversal_3 : decode cX3_reversal 3 = .ok (.getfield 19, 3) := by decide +kernel
theorem dX3_reversal_6 : decode cX3_reversal 6 = .ok (.iconst 1, 1) := by decide +kernel
theorem dX3_reversal_7 : decode cX3_reversal 7 = .ok (.isub, 1) := by decide +kernel
theorem dX3_reversal_8 : decode cX3_reversal 8 = .ok (.istore_n 2, 1) := by decide +kernel
theorem dX3_reversal_9 : decode cX3_reversal 9 = .ok (.iload_n 2, 1) := by decide +kernel
theorem dX3_reversal_10 : decode cX3_reversal 10 = .ok (.ifCond .lt 19, 3) := by decide +kernel
theorem dX3_reversal_13 : decode cX3_reversal 13 = .ok (.iload_n 1, 1) := by decide +kernel
theorem dX3_reversal_14 : decode cX3_reversal 14 = .ok (.iconst 1, 1) := by decide +kernel
theorem dX3_reversal_15 : decode cX3_reversal 15 = .ok (.ishl, 1) := by decide +kernel
theorem dX3_reversal_16 : decode cX3_reversal 16 = .ok (.aload_n 0, 1) := by decide +kernel
theorem dX3_reversal_17 : decode cX3_reversal 17 = .ok (.iload_n 2, 1) := by decide +kernel
theorem dX3_reversal_18 : decode cX3_reversal 18 = .ok (.invokevirtual 37, 3) := by decide +kernel
theorem dX3_reversal_21 : decode cX3_reversal 21 = .ok (.ior, 1) := by decide +kernel
theorem dX3_reversal_22 : decode cX3_reversal 22 = .ok (.istore_n 1, 1) := by decide +kernel
theorem dX3_reversal_23 : decode cX3_reversal 23 = .ok (.iinc 2 (-1), 3) := by decide +kernel
theorem dX3_reversal_26 : decode cX3_reversal 26 = .ok (.goto (-17), 3) := by decide +kernel
theorem dX3_reversal_29 : decode cX3_reversal 29 = .ok (.iload_n 1, 1) := by decide +kernel
theorem dX3_reversal_30 : decode cX3_reversal 30 = .ok (.ireturn, 1) := by decide +kernel
theorem dX3_complement_0 : decode cX3_complement 0 = .ok (.iload_n 1, 1) := by decide +kernel
theorem dX3_complement_1 : decode cX3_complement 1 = .ok (.aload_n 0, 1) := by decide +kernel
theorem dX3_complement_2 : decode cX3_complement 2 = .ok (.getfield 22, 3) := by decide +kernel
theorem dX3_complement_5 : decode cX3_complement 5 = .ok (.ixor, 1) := by decide +kernel
theorem dX3_complement_6 : decode cX3_complement 6 = .ok (.ireturn, 1) := by decide +kernel
set_option maxRecDepth 20000 in
theorem ggX3_changed_X3_reversal : GoodIn wsX3_changed wsX3_reversal := goodIn_rq _ [6, 7, 8, 9, 10, 5, 11, 1, 25, 26, 27, 28, 29, 30, 31] (by decide +kernel) (by decide +kernel)
set_option maxRecDepth 20000 in
theorem gX3_changed_X3_reversal : GoodIn wsX3_changed (wsV RX3 41 RX3 yX3_reversal wsX3_reversal) := goodIn_app (goodIn_of _ (by decide +kernel)) ggX3_changed_X3_reversal
set_option maxRecDepth 20000 in
theorem ggX3_changed_X3_complement : GoodIn wsX3_changed wsX3_complement := goodIn_rq _ [15, 16, 25, 26, 27, 28, 29, 30, 31] (by decide +kernel) (by decide +kernel)
set_option maxRecDepth 20000 in
theorem gX3_changed_X3_complement : GoodIn wsX3_changed (wsV RX3 45 RX3 yX3_complement wsX3_complement) := goodIn_app (goodIn_of _ (by decide +kernel)) ggX3_changed_X3_complement
set_option maxRecDepth 20000 in
theorem ggX3_changed_X3_leastTurn : GoodIn wsX3_changed wsX3_leastTurn := goodIn_rq _ [20, 7, 21, 22, 23, 5, 24, 1, 16, 25, 26, 27, 28, 29, 30, 31] (by decide +kernel) (by decide +kernel)
set_option maxRecDepth 20000 in
theorem gX3_changed_X3_leastTurn : GoodIn wsX3_changed (wsV RX3 48 RX3 yX3_leastTurn wsX3_leastTurn) := goodIn_app (goodIn_of _ (by decide +kernel)) ggX3_changed_X3_leastTurn
set_option maxRecDepth 20000 in
theorem ggX3_changed_X3_rotation : GoodIn wsX3_changed wsX3_rotation := goodIn_rq _ [24, 1, 7, 16, 25, 26, 27, 28, 29, 30, 31] (by decide +kernel) (by decide +kernel)
set_option maxRecDepth 20000 in
theorem gX3_changed_X3_rotation : GoodIn wsX3_changed (wsV RX3 51 RX3 yX3_rotation wsX3_rotation) := goodIn_app (goodIn_of _ (by decide +kernel)) ggX3_changed_X3_rotation
theorem dX3_changed_0 : decode cX3_changed 0 = .ok (.iload_n 1, 1) := by decide +kernel
theorem dX3_changed_1 : decode cX3_changed 1 = .ok (.lookupswitch 41 #[(0, 27), (1, 32)], 27) := by decide +kernel
theorem dX3_changed_28 : decode cX3_changed 28 = .ok (.aload_n 0, 1) := by decide +kernel
theorem dX3_changed_29 : decode cX3_changed 29 = .ok (.invokevirtual 41, 3) := by decide +kernel
theorem dX3_changed_32 : decode cX3_changed 32 = .ok (.ireturn, 1) := by decide +kernel
theorem dX3_changed_33 : decode cX3_changed 33 = .ok (.aload_n 0, 1) := by decide +kernel
theorem dX3_changed_34 : decode cX3_changed 34 = .ok (.aload_n 0, 1) := by decide +kernel
theorem dX3_changed_35 : decode cX3_changed 35 = .ok (.getfield 15, 3) := by decide +kernel
theorem dX3_changed_38 : decode cX3_changed 38 = .ok (.invokevirtual 45, 3) := by decide +kernel
theorem dX3_changed_41 : decode cX3_changed 41 = .ok (.ireturn, 1) := by decide +kernel
theorem dX3_changed_42 : decode cX3_changed 42 = .ok (.aload_n 0, 1) := by decide +kernel
theorem dX3_changed_43 : decode cX3_changed 43 = .ok (.aload_n 0, 1) := by decide +kernel
theorem dX3_changed_44 : decode cX3_changed 44 = .ok (.invokevirtual 48, 3) := by decide +kernel
theorem dX3_changed_47 : decode cX3_changed 47 = .ok (.invokevirtual 51, 3) := by decide +kernel
theorem dX3_changed_50 : decode cX3_changed 50 = .ok (.ireturn, 1) := by decide +kernel
set_option maxRecDepth 20000 in
theorem ggX3_turnTo_X3_rotation : GoodIn wsX3_turnTo wsX3_rotation := goodIn_rq _ [7, 8, 1, 9, 10, 11, 12, 13, 14, 15, 16] (by decide +kernel) (by decide +kernel)
set_option maxRecDepth 20000 in
theorem gX3_turnTo_X3_rotation : GoodIn wsX3_turnTo (wsV RX3 51 RX3 yX3_rotation wsX3_rotation) := goodIn_app (goodIn_of _ (by decide +kernel)) ggX3_turnTo_X3_rotation
theorem dX3_turnTo_0 : decode cX3_turnTo 0 = .ok (.iload_n 2, 1) := by decide +kernel
theorem dX3_turnTo_1 : decode cX3_turnTo 1 = .ok (.istore_n 3, 1) := by decide +kernel
theorem dX3_turnTo_2 : decode cX3_turnTo 2 = .ok (.iload_n 3, 1) := by decide +kernel
theorem dX3_turnTo_3 : decode cX3_turnTo 3 = .ok (.aload_n 0, 1) := by decide +kernel
theorem dX3_turnTo_4 : decode cX3_turnTo 4 = .ok (.getfield 19, 3) := by decide +kernel
theorem dX3_turnTo_7 : decode cX3_turnTo 7 = .ok (.if_icmp .ge 20, 3) := by decide +kernel
theorem dX3_turnTo_10 : decode cX3_turnTo 10 = .ok (.aload_n 0, 1) := by decide +kernel
theorem dX3_turnTo_11 : decode cX3_turnTo 11 = .ok (.iload_n 3, 1) := by decide +kernel
theorem dX3_turnTo_12 : decode cX3_turnTo 12 = .ok (.invokevirtual 51, 3) := by decide +kernel
theorem dX3_turnTo_15 : decode cX3_turnTo 15 = .ok (.iload_n 1, 1) := by decide +kernel
theorem dX3_turnTo_16 : decode cX3_turnTo 16 = .ok (.if_icmp .ne 5, 3) := by decide +kernel
theorem dX3_turnTo_19 : decode cX3_turnTo 19 = .ok (.iload_n 3, 1) := by decide +kernel
theorem dX3_turnTo_20 : decode cX3_turnTo 20 = .ok (.ireturn, 1) := by decide +kernel
theorem dX3_turnTo_21 : decode cX3_turnTo 21 = .ok (.iinc 3 1, 3) := by decide +kernel
theorem dX3_turnTo_24 : decode cX3_turnTo 24 = .ok (.goto (-22), 3) := by decide +kernel
theorem dX3_turnTo_27 : decode cX3_turnTo 27 = .ok (.ldc 54, 2) := by decide +kernel
theorem dX3_turnTo_29 : decode cX3_turnTo 29 = .ok (.ireturn, 1) := by decide +kernel
set_option maxRecDepth 20000 in
theorem ggX3_isConjugate_X3_turnTo : GoodIn wsX3_isConjugate wsX3_turnTo := goodIn_rq _ [6, 7, 1, 8, 9, 10, 5, 11, 12, 13, 14, 15, 16, 17, 18, 19, 20] (by decide +kernel) (by decide +kernel)
set_option maxRecDepth 20000 in
theorem gX3_isConjugate_X3_turnTo : GoodIn wsX3_isConjugate (wsV RX3 55 RX3 yX3_turnTo wsX3_turnTo) := goodIn_app (goodIn_of _ (by decide +kernel)) ggX3_isConjugate_X3_turnTo
theorem dX3_isConjugate_0 : decode cX3_isConjugate 0 = .ok (.aload_n 0, 1) := by decide +kernel
theorem dX3_isConjugate_1 : decode cX3_isConjugate 1 = .ok (.iload_n 1, 1) := by decide +kernel
theorem dX3_isConjugate_2 : decode cX3_isConjugate 2 = .ok (.iconst 0, 1) := by decide +kernel
theorem dX3_isConjugate_3 : decode cX3_isConjugate 3 = .ok (.invokevirtual 55, 3) := by decide +kernel
theorem dX3_isConjugate_6 : decode cX3_isConjugate 6 = .ok (.ldc 54, 2) := by decide +kernel
theorem dX3_isConjugate_8 : decode cX3_isConjugate 8 = .ok (.if_icmp .eq 7, 3) := by decide +kernel
theorem dX3_isConjugate_11 : decode cX3_isConjugate 11 = .ok (.iconst 1, 1) := by decide +kernel
theorem dX3_isConjugate_12 : decode cX3_isConjugate 12 = .ok (.goto 4, 3) := by decide +kernel
theorem dX3_isConjugate_15 : decode cX3_isConjugate 15 = .ok (.iconst 0, 1) := by decide +kernel
theorem dX3_isConjugate_16 : decode cX3_isConjugate 16 = .ok (.ireturn, 1) := by decide +kernel
set_option maxRecDepth 20000 in
theorem ggX3_period_X3_turnTo : GoodIn wsX3_period wsX3_turnTo := goodIn_rq _ [8, 3, 2, 9, 10, 11, 7, 12, 1, 13, 14, 15, 16, 17, 18, 19, 20] (by decide +kernel) (by decide +kernel)
set_option maxRecDepth 20000 in
theorem gX3_period_X3_turnTo : GoodIn wsX3_period (wsV RX3 55 RX3 yX3_turnTo wsX3_turnTo) := goodIn_app (goodIn_of _ (by decide +kernel)) ggX3_period_X3_turnTo
theorem dX3_period_0 : decode cX3_period 0 = .ok (.aload_n 0, 1) := by decide +kernel
theorem dX3_period_1 : decode cX3_period 1 = .ok (.aload_n 0, 1) := by decide +kernel
theorem dX3_period_2 : decode cX3_period 2 = .ok (.getfield 15, 3) := by decide +kernel
theorem dX3_period_5 : decode cX3_period 5 = .ok (.iconst 1, 1) := by decide +kernel
theorem dX3_period_6 : decode cX3_period 6 = .ok (.invokevirtual 55, 3) := by decide +kernel
theorem dX3_period_9 : decode cX3_period 9 = .ok (.istore_n 1, 1) := by decide +kernel
theorem dX3_period_10 : decode cX3_period 10 = .ok (.iload_n 1, 1) := by decide +kernel
theorem dX3_period_11 : decode cX3_period 11 = .ok (.ldc 54, 2) := by decide +kernel
theorem dX3_period_13 : decode cX3_period 13 = .ok (.if_icmp .ne 10, 3) := by decide +kernel
theorem dX3_period_16 : decode cX3_period 16 = .ok (.aload_n 0, 1) := by decide +kernel
theorem dX3_period_17 : decode cX3_period 17 = .ok (.getfield 19, 3) := by decide +kernel
theorem dX3_period_20 : decode cX3_period 20 = .ok (.goto 4, 3) := by decide +kernel
theorem dX3_period_23 : decode cX3_period 23 = .ok (.iload_n 1, 1) := by decide +kernel
theorem dX3_period_24 : decode cX3_period 24 = .ok (.ireturn, 1) := by decide +kernel
set_option maxRecDepth 20000 in
theorem ggX3_leastTurn_X3_rotation : GoodIn wsX3_leastTurn wsX3_rotation := goodIn_rq _ [6, 7, 1, 8, 9, 10, 11, 12, 13, 14, 15] (by decide +kernel) (by decide +kernel)
set_option maxRecDepth 20000 in
theorem gX3_leastTurn_X3_rotation : GoodIn wsX3_leastTurn (wsV RX3 51 RX3 yX3_rotation wsX3_rotation) := goodIn_app (goodIn_of _ (by decide +kernel)) ggX3_leastTurn_X3_rotation
theorem dX3_leastTurn_0 : decode cX3_leastTurn 0 = .ok (.iconst 0, 1) := by decide +kernel
theorem dX3_leastTurn_1 : decode cX3_leastTurn 1 = .ok (.istore_n 1, 1) := by decide +kernel
theorem dX3_leastTurn_2 : decode cX3_leastTurn 2 = .ok (.iconst 1, 1) := by decide +kernel
theorem dX3_leastTurn_3 : decode cX3_leastTurn 3 = .ok (.istore_n 2, 1) := by decide +kernel
theorem dX3_leastTurn_4 : decode cX3_leastTurn 4 = .ok (.iload_n 2, 1) := by decide +kernel
theorem dX3_leastTurn_5 : decode cX3_leastTurn 5 = .ok (.aload_n 0, 1) := by decide +kernel
theorem dX3_leastTurn_6 : decode cX3_leastTurn 6 = .ok (.getfield 19, 3) := by decide +kernel
theorem dX3_leastTurn_9 : decode cX3_leastTurn 9 = .ok (.if_icmp .ge 24, 3) := by decide +kernel
theorem dX3_leastTurn_12 : decode cX3_leastTurn 12 = .ok (.aload_n 0, 1) := by decide +kernel
theorem dX3_leastTurn_13 : decode cX3_leastTurn 13 = .ok (.iload_n 2, 1) := by decide +kernel
theorem dX3_leastTurn_14 : decode cX3_leastTurn 14 = .ok (.invokevirtual 51, 3) := by decide +kernel
theorem dX3_leastTurn_17 : decode cX3_leastTurn 17 = .ok (.aload_n 0, 1) := by decide +kernel
theorem dX3_leastTurn_18 : decode cX3_leastTurn 18 = .ok (.iload_n 1, 1) := by decide +kernel
theorem dX3_leastTurn_19 : decode cX3_leastTurn 19 = .ok (.invokevirtual 51, 3) := by decide +kernel
theorem dX3_leastTurn_22 : decode cX3_leastTurn 22 = .ok (.if_icmp .ge 5, 3) := by decide +kernel
theorem dX3_leastTurn_25 : decode cX3_leastTurn 25 = .ok (.iload_n 2, 1) := by decide +kernel
theorem dX3_leastTurn_26 : decode cX3_leastTurn 26 = .ok (.istore_n 1, 1) := by decide +kernel
theorem dX3_leastTurn_27 : decode cX3_leastTurn 27 = .ok (.iinc 2 1, 3) := by decide +kernel
theorem dX3_leastTurn_30 : decode cX3_leastTurn 30 = .ok (.goto (-26), 3) := by decide +kernel
theorem dX3_leastTurn_33 : decode cX3_leastTurn 33 = .ok (.iload_n 1, 1) := by decide +kernel
theorem dX3_leastTurn_34 : decode cX3_leastTurn 34 = .ok (.ireturn, 1) := by decide +kernel
set_option maxRecDepth 20000 in
theorem ggX3_formNumber_X4_commonDivisor : GoodIn wsX3_formNumber wsX4_commonDivisor := goodIn_rq _ [7, 8, 9, 10, 11, 12, 13, 14] (by decide +kernel) (by decide +kernel)
set_option maxRecDepth 20000 in
theorem gX3_formNumber_X4_commonDivisor_n59 : GoodIn wsX3_formNumber (wsX4_commonDivisor) := ggX3_formNumber_X4_commonDivisor
set_option maxRecDepth 20000 in
theorem ggX3_formNumber_X4_discriminantOf : GoodIn wsX3_formNumber wsX4_discriminantOf := goodIn_rq _ [16] (by decide +kernel) (by decide +kernel)
set_option maxRecDepth 20000 in
theorem gX3_formNumber_X4_discriminantOf_n62 : GoodIn wsX3_formNumber (wsX4_discriminantOf) := ggX3_formNumber_X4_discriminantOf
theorem dX3_formNumber_0 : decode cX3_formNumber 0 = .ok (.aload_n 0, 1) := by decide +kernel
theorem dX3_formNumber_1 : decode cX3_formNumber 1 = .ok (.getfield 31, 3) := by decide +kernel
theorem dX3_formNumber_4 : decode cX3_formNumber 4 = .ok (.aload_n 0, 1) := by decide +kernel
theorem dX3_formNumber_5 : decode cX3_formNumber 5 = .ok (.getfield 34, 3) := by decide +kernel
theorem dX3_formNumber_8 : decode cX3_formNumber 8 = .ok (.aload_n 0, 1) := by decide +kernel
theorem dX3_formNumber_9 : decode cX3_formNumber 9 = .ok (.getfield 25, 3) := by decide +kernel
