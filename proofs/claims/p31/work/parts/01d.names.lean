set_option maxRecDepth 20000 in
theorem ggL_back_L_size : GoodIn wsL_back wsL_size := goodIn_rq _ [4] (by decide +kernel) (by decide +kernel)
set_option maxRecDepth 20000 in
theorem gL_back_L_size : GoodIn wsL_back (va_wsS RL 8 yL_size wsL_size) := goodIn_app (goodIn_of _ (by decide +kernel)) ggL_back_L_size
set_option maxRecDepth 20000 in
theorem ggL_back_L_bit : GoodIn wsL_back wsL_bit := goodIn_rq _ [7] (by decide +kernel) (by decide +kernel)
set_option maxRecDepth 20000 in
theorem gL_back_L_bit : GoodIn wsL_back (va_wsS RL 14 yL_bit wsL_bit) := goodIn_app (goodIn_of _ (by decide +kernel)) ggL_back_L_bit
set_option maxRecDepth 20000 in
theorem ggL_back_L_with : GoodIn wsL_back wsL_with := goodIn_rq _ [10, 1, 2, 3, 4] (by decide +kernel) (by decide +kernel)
set_option maxRecDepth 20000 in
theorem gL_back_L_with : GoodIn wsL_back (va_wsS RL 21 yL_with wsL_with) := goodIn_app (goodIn_of _ (by decide +kernel)) ggL_back_L_with
theorem dL_back_0 : decode cL_back 0 = .ok (.iconst 0, 1) := by decide +kernel
theorem dL_back_1 : decode cL_back 1 = .ok (.istore_n 1, 1) := by decide +kernel
theorem dL_back_2 : decode cL_back 2 = .ok (.iload_n 0, 1) := by decide +kernel
theorem dL_back_3 : decode cL_back 3 = .ok (.invokestatic 8, 3) := by decide +kernel
theorem dL_back_6 : decode cL_back 6 = .ok (.iconst 1, 1) := by decide +kernel
theorem dL_back_7 : decode cL_back 7 = .ok (.isub, 1) := by decide +kernel
theorem dL_back_8 : decode cL_back 8 = .ok (.istore_n 2, 1) := by decide +kernel
theorem dL_back_9 : decode cL_back 9 = .ok (.iload_n 2, 1) := by decide +kernel
theorem dL_back_10 : decode cL_back 10 = .ok (.ifCond .lt 19, 3) := by decide +kernel
theorem dL_back_13 : decode cL_back 13 = .ok (.iload_n 1, 1) := by decide +kernel
theorem dL_back_14 : decode cL_back 14 = .ok (.iload_n 0, 1) := by decide +kernel
theorem dL_back_15 : decode cL_back 15 = .ok (.iload_n 2, 1) := by decide +kernel
theorem dL_back_16 : decode cL_back 16 = .ok (.invokestatic 14, 3) := by decide +kernel
theorem dL_back_19 : decode cL_back 19 = .ok (.invokestatic 21, 3) := by decide +kernel
theorem dL_back_22 : decode cL_back 22 = .ok (.istore_n 1, 1) := by decide +kernel
theorem dL_back_23 : decode cL_back 23 = .ok (.iinc 2 (-1), 3) := by decide +kernel
theorem dL_back_26 : decode cL_back 26 = .ok (.goto (-17), 3) := by decide +kernel
theorem dL_back_29 : decode cL_back 29 = .ok (.iload_n 1, 1) := by decide +kernel
theorem dL_back_30 : decode cL_back 30 = .ok (.ireturn, 1) := by decide +kernel
set_option maxRecDepth 20000 in
theorem ggL_mirror_L_size : GoodIn wsL_mirror wsL_size := goodIn_rq _ [4] (by decide +kernel) (by decide +kernel)
set_option maxRecDepth 20000 in
theorem gL_mirror_L_size : GoodIn wsL_mirror (va_wsS RL 8 yL_size wsL_size) := goodIn_app (goodIn_of _ (by decide +kernel)) ggL_mirror_L_size
set_option maxRecDepth 20000 in
theorem ggL_mirror_L_bit : GoodIn wsL_mirror wsL_bit := goodIn_rq _ [7] (by decide +kernel) (by decide +kernel)
set_option maxRecDepth 20000 in
theorem gL_mirror_L_bit : GoodIn wsL_mirror (va_wsS RL 14 yL_bit wsL_bit) := goodIn_app (goodIn_of _ (by decide +kernel)) ggL_mirror_L_bit
set_option maxRecDepth 20000 in
theorem ggL_mirror_L_with : GoodIn wsL_mirror wsL_with := goodIn_rq _ [10, 1, 2, 3, 4] (by decide +kernel) (by decide +kernel)
set_option maxRecDepth 20000 in
theorem gL_mirror_L_with : GoodIn wsL_mirror (va_wsS RL 21 yL_with wsL_with) := goodIn_app (goodIn_of _ (by decide +kernel)) ggL_mirror_L_with
theorem dL_mirror_0 : decode cL_mirror 0 = .ok (.iconst 0, 1) := by decide +kernel
theorem dL_mirror_1 : decode cL_mirror 1 = .ok (.istore_n 1, 1) := by decide +kernel
theorem dL_mirror_2 : decode cL_mirror 2 = .ok (.iconst 0, 1) := by decide +kernel
theorem dL_mirror_3 : decode cL_mirror 3 = .ok (.istore_n 2, 1) := by decide +kernel
theorem dL_mirror_4 : decode cL_mirror 4 = .ok (.iload_n 2, 1) := by decide +kernel
theorem dL_mirror_5 : decode cL_mirror 5 = .ok (.iload_n 0, 1) := by decide +kernel
theorem dL_mirror_6 : decode cL_mirror 6 = .ok (.invokestatic 8, 3) := by decide +kernel
theorem dL_mirror_9 : decode cL_mirror 9 = .ok (.if_icmp .ge 21, 3) := by decide +kernel
theorem dL_mirror_12 : decode cL_mirror 12 = .ok (.iload_n 1, 1) := by decide +kernel
theorem dL_mirror_13 : decode cL_mirror 13 = .ok (.iconst 1, 1) := by decide +kernel
theorem dL_mirror_14 : decode cL_mirror 14 = .ok (.iload_n 0, 1) := by decide +kernel
theorem dL_mirror_15 : decode cL_mirror 15 = .ok (.iload_n 2, 1) := by decide +kernel
theorem dL_mirror_16 : decode cL_mirror 16 = .ok (.invokestatic 14, 3) := by decide +kernel
theorem dL_mirror_19 : decode cL_mirror 19 = .ok (.isub, 1) := by decide +kernel
theorem dL_mirror_20 : decode cL_mirror 20 = .ok (.invokestatic 21, 3) := by decide +kernel
theorem dL_mirror_23 : decode cL_mirror 23 = .ok (.istore_n 1, 1) := by decide +kernel
theorem dL_mirror_24 : decode cL_mirror 24 = .ok (.iinc 2 1, 3) := by decide +kernel
theorem dL_mirror_27 : decode cL_mirror 27 = .ok (.goto (-23), 3) := by decide +kernel
theorem dL_mirror_30 : decode cL_mirror 30 = .ok (.iload_n 1, 1) := by decide +kernel
theorem dL_mirror_31 : decode cL_mirror 31 = .ok (.ireturn, 1) := by decide +kernel
set_option maxRecDepth 20000 in
theorem ggL_join_L_size : GoodIn wsL_join wsL_size := goodIn_rq _ [4] (by decide +kernel) (by decide +kernel)
set_option maxRecDepth 20000 in
theorem gL_join_L_size : GoodIn wsL_join (va_wsS RL 8 yL_size wsL_size) := goodIn_app (goodIn_of _ (by decide +kernel)) ggL_join_L_size
set_option maxRecDepth 20000 in
theorem ggL_join_L_bit : GoodIn wsL_join wsL_bit := goodIn_rq _ [7] (by decide +kernel) (by decide +kernel)
set_option maxRecDepth 20000 in
theorem gL_join_L_bit : GoodIn wsL_join (va_wsS RL 14 yL_bit wsL_bit) := goodIn_app (goodIn_of _ (by decide +kernel)) ggL_join_L_bit
set_option maxRecDepth 20000 in
theorem ggL_join_L_with : GoodIn wsL_join wsL_with := goodIn_rq _ [10, 1, 2, 3, 4] (by decide +kernel) (by decide +kernel)
set_option maxRecDepth 20000 in
theorem gL_join_L_with : GoodIn wsL_join (va_wsS RL 21 yL_with wsL_with) := goodIn_app (goodIn_of _ (by decide +kernel)) ggL_join_L_with
theorem dL_join_0 : decode cL_join 0 = .ok (.iload_n 0, 1) := by decide +kernel
theorem dL_join_1 : decode cL_join 1 = .ok (.istore_n 2, 1) := by decide +kernel
theorem dL_join_2 : decode cL_join 2 = .ok (.iconst 0, 1) := by decide +kernel
theorem dL_join_3 : decode cL_join 3 = .ok (.istore_n 3, 1) := by decide +kernel
theorem dL_join_4 : decode cL_join 4 = .ok (.iload_n 3, 1) := by decide +kernel
theorem dL_join_5 : decode cL_join 5 = .ok (.iload_n 1, 1) := by decide +kernel
theorem dL_join_6 : decode cL_join 6 = .ok (.invokestatic 8, 3) := by decide +kernel
theorem dL_join_9 : decode cL_join 9 = .ok (.if_icmp .ge 19, 3) := by decide +kernel
theorem dL_join_12 : decode cL_join 12 = .ok (.iload_n 2, 1) := by decide +kernel
theorem dL_join_13 : decode cL_join 13 = .ok (.iload_n 1, 1) := by decide +kernel
theorem dL_join_14 : decode cL_join 14 = .ok (.iload_n 3, 1) := by decide +kernel
theorem dL_join_15 : decode cL_join 15 = .ok (.invokestatic 14, 3) := by decide +kernel
theorem dL_join_18 : decode cL_join 18 = .ok (.invokestatic 21, 3) := by decide +kernel
theorem dL_join_21 : decode cL_join 21 = .ok (.istore_n 2, 1) := by decide +kernel
theorem dL_join_22 : decode cL_join 22 = .ok (.iinc 3 1, 3) := by decide +kernel
theorem dL_join_25 : decode cL_join 25 = .ok (.goto (-21), 3) := by decide +kernel
theorem dL_join_28 : decode cL_join 28 = .ok (.iload_n 2, 1) := by decide +kernel
theorem dL_join_29 : decode cL_join 29 = .ok (.ireturn, 1) := by decide +kernel
set_option maxRecDepth 20000 in
theorem ggL_rights_L_size : GoodIn wsL_rights wsL_size := goodIn_rq _ [4] (by decide +kernel) (by decide +kernel)
set_option maxRecDepth 20000 in
theorem gL_rights_L_size : GoodIn wsL_rights (va_wsS RL 8 yL_size wsL_size) := goodIn_app (goodIn_of _ (by decide +kernel)) ggL_rights_L_size
set_option maxRecDepth 20000 in
theorem ggL_rights_L_bit : GoodIn wsL_rights wsL_bit := goodIn_rq _ [7] (by decide +kernel) (by decide +kernel)
set_option maxRecDepth 20000 in
theorem gL_rights_L_bit : GoodIn wsL_rights (va_wsS RL 14 yL_bit wsL_bit) := goodIn_app (goodIn_of _ (by decide +kernel)) ggL_rights_L_bit
theorem dL_rights_0 : decode cL_rights 0 = .ok (.iconst 0, 1) := by decide +kernel
theorem dL_rights_1 : decode cL_rights 1 = .ok (.istore_n 1, 1) := by decide +kernel
theorem dL_rights_2 : decode cL_rights 2 = .ok (.iconst 0, 1) := by decide +kernel
theorem dL_rights_3 : decode cL_rights 3 = .ok (.istore_n 2, 1) := by decide +kernel
theorem dL_rights_4 : decode cL_rights 4 = .ok (.iload_n 2, 1) := by decide +kernel
theorem dL_rights_5 : decode cL_rights 5 = .ok (.iload_n 0, 1) := by decide +kernel
theorem dL_rights_6 : decode cL_rights 6 = .ok (.invokestatic 8, 3) := by decide +kernel
theorem dL_rights_9 : decode cL_rights 9 = .ok (.if_icmp .ge 17, 3) := by decide +kernel
theorem dL_rights_12 : decode cL_rights 12 = .ok (.iload_n 1, 1) := by decide +kernel
theorem dL_rights_13 : decode cL_rights 13 = .ok (.iload_n 0, 1) := by decide +kernel
theorem dL_rights_14 : decode cL_rights 14 = .ok (.iload_n 2, 1) := by decide +kernel
theorem dL_rights_15 : decode cL_rights 15 = .ok (.invokestatic 14, 3) := by decide +kernel
theorem dL_rights_18 : decode cL_rights 18 = .ok (.iadd, 1) := by decide +kernel
theorem dL_rights_19 : decode cL_rights 19 = .ok (.istore_n 1, 1) := by decide +kernel
theorem dL_rights_20 : decode cL_rights 20 = .ok (.iinc 2 1, 3) := by decide +kernel
theorem dL_rights_23 : decode cL_rights 23 = .ok (.goto (-19), 3) := by decide +kernel
theorem dL_rights_26 : decode cL_rights 26 = .ok (.iload_n 1, 1) := by decide +kernel
theorem dL_rights_27 : decode cL_rights 27 = .ok (.ireturn, 1) := by decide +kernel
set_option maxRecDepth 20000 in
theorem ggL_isClosed_L_rights : GoodIn wsL_isClosed wsL_rights := goodIn_rq _ [4, 5, 6, 3, 7, 8, 9, 10] (by decide +kernel) (by decide +kernel)
set_option maxRecDepth 20000 in
theorem gL_isClosed_L_rights : GoodIn wsL_isClosed (va_wsS RL 24 yL_rights wsL_rights) := goodIn_app (goodIn_of _ (by decide +kernel)) ggL_isClosed_L_rights
set_option maxRecDepth 20000 in
theorem ggL_isClosed_L_size : GoodIn wsL_isClosed wsL_size := goodIn_rq _ [7] (by decide +kernel) (by decide +kernel)
set_option maxRecDepth 20000 in
theorem gL_isClosed_L_size : GoodIn wsL_isClosed (va_wsS RL 8 yL_size wsL_size) := goodIn_app (goodIn_of _ (by decide +kernel)) ggL_isClosed_L_size
theorem dL_isClosed_0 : decode cL_isClosed 0 = .ok (.iload_n 0, 1) := by decide +kernel
theorem dL_isClosed_1 : decode cL_isClosed 1 = .ok (.invokestatic 24, 3) := by decide +kernel
theorem dL_isClosed_4 : decode cL_isClosed 4 = .ok (.ifCond .le 18, 3) := by decide +kernel
theorem dL_isClosed_7 : decode cL_isClosed 7 = .ok (.iload_n 0, 1) := by decide +kernel
theorem dL_isClosed_8 : decode cL_isClosed 8 = .ok (.invokestatic 24, 3) := by decide +kernel
theorem dL_isClosed_11 : decode cL_isClosed 11 = .ok (.iload_n 0, 1) := by decide +kernel
theorem dL_isClosed_12 : decode cL_isClosed 12 = .ok (.invokestatic 8, 3) := by decide +kernel
theorem dL_isClosed_15 : decode cL_isClosed 15 = .ok (.if_icmp .ge 7, 3) := by decide +kernel
theorem dL_isClosed_18 : decode cL_isClosed 18 = .ok (.iconst 1, 1) := by decide +kernel
theorem dL_isClosed_19 : decode cL_isClosed 19 = .ok (.goto 4, 3) := by decide +kernel
theorem dL_isClosed_22 : decode cL_isClosed 22 = .ok (.iconst 0, 1) := by decide +kernel
theorem dL_isClosed_23 : decode cL_isClosed 23 = .ok (.ireturn, 1) := by decide +kernel
set_option maxRecDepth 20000 in
theorem ggL_rank_L_size : GoodIn wsL_rank wsL_size := goodIn_rq _ [4] (by decide +kernel) (by decide +kernel)
set_option maxRecDepth 20000 in
theorem gL_rank_L_size : GoodIn wsL_rank (va_wsS RL 8 yL_size wsL_size) := goodIn_app (goodIn_of _ (by decide +kernel)) ggL_rank_L_size
set_option maxRecDepth 20000 in
theorem ggL_rank_L_bit : GoodIn wsL_rank wsL_bit := goodIn_rq _ [7] (by decide +kernel) (by decide +kernel)
set_option maxRecDepth 20000 in
theorem gL_rank_L_bit : GoodIn wsL_rank (va_wsS RL 14 yL_bit wsL_bit) := goodIn_app (goodIn_of _ (by decide +kernel)) ggL_rank_L_bit
theorem dL_rank_0 : decode cL_rank 0 = .ok (.iconst 0, 1) := by decide +kernel
theorem dL_rank_1 : decode cL_rank 1 = .ok (.istore_n 1, 1) := by decide +kernel
theorem dL_rank_2 : decode cL_rank 2 = .ok (.iconst 0, 1) := by decide +kernel
theorem dL_rank_3 : decode cL_rank 3 = .ok (.istore_n 2, 1) := by decide +kernel
theorem dL_rank_4 : decode cL_rank 4 = .ok (.iload_n 2, 1) := by decide +kernel
theorem dL_rank_5 : decode cL_rank 5 = .ok (.iload_n 0, 1) := by decide +kernel
theorem dL_rank_6 : decode cL_rank 6 = .ok (.invokestatic 8, 3) := by decide +kernel
theorem dL_rank_9 : decode cL_rank 9 = .ok (.if_icmp .ge 19, 3) := by decide +kernel
theorem dL_rank_12 : decode cL_rank 12 = .ok (.iconst 2, 1) := by decide +kernel
theorem dL_rank_13 : decode cL_rank 13 = .ok (.iload_n 1, 1) := by decide +kernel
theorem dL_rank_14 : decode cL_rank 14 = .ok (.imul, 1) := by decide +kernel
theorem dL_rank_15 : decode cL_rank 15 = .ok (.iload_n 0, 1) := by decide +kernel
theorem dL_rank_16 : decode cL_rank 16 = .ok (.iload_n 2, 1) := by decide +kernel
theorem dL_rank_17 : decode cL_rank 17 = .ok (.invokestatic 14, 3) := by decide +kernel
theorem dL_rank_20 : decode cL_rank 20 = .ok (.iadd, 1) := by decide +kernel
theorem dL_rank_21 : decode cL_rank 21 = .ok (.istore_n 1, 1) := by decide +kernel
theorem dL_rank_22 : decode cL_rank 22 = .ok (.iinc 2 1, 3) := by decide +kernel
theorem dL_rank_25 : decode cL_rank 25 = .ok (.goto (-21), 3) := by decide +kernel
theorem dL_rank_28 : decode cL_rank 28 = .ok (.iload_n 1, 1) := by decide +kernel
theorem dL_rank_29 : decode cL_rank 29 = .ok (.ireturn, 1) := by decide +kernel
set_option maxRecDepth 20000 in
theorem ggL_least_L_size : GoodIn wsL_least wsL_size := goodIn_rq _ [4] (by decide +kernel) (by decide +kernel)
set_option maxRecDepth 20000 in
theorem gL_least_L_size : GoodIn wsL_least (va_wsS RL 8 yL_size wsL_size) := goodIn_app (goodIn_of _ (by decide +kernel)) ggL_least_L_size
set_option maxRecDepth 20000 in
theorem ggL_least_L_turned : GoodIn wsL_least wsL_turned := goodIn_rq _ [7, 1, 2, 3, 4, 8, 9, 10, 11, 12, 13, 14, 15, 16] (by decide +kernel) (by decide +kernel)
set_option maxRecDepth 20000 in
theorem gL_least_L_turned : GoodIn wsL_least (va_wsS RL 27 yL_turned wsL_turned) := goodIn_app (goodIn_of _ (by decide +kernel)) ggL_least_L_turned
set_option maxRecDepth 20000 in
theorem ggL_least_L_rank : GoodIn wsL_least wsL_rank := goodIn_rq _ [19, 1, 2, 3, 4, 11, 12, 13] (by decide +kernel) (by decide +kernel)
set_option maxRecDepth 20000 in
theorem gL_least_L_rank : GoodIn wsL_least (va_wsS RL 30 yL_rank wsL_rank) := goodIn_app (goodIn_of _ (by decide +kernel)) ggL_least_L_rank
theorem dL_least_0 : decode cL_least 0 = .ok (.iload_n 0, 1) := by decide +kernel
theorem dL_least_1 : decode cL_least 1 = .ok (.istore_n 1, 1) := by decide +kernel
theorem dL_least_2 : decode cL_least 2 = .ok (.iconst 1, 1) := by decide +kernel
theorem dL_least_3 : decode cL_least 3 = .ok (.istore_n 2, 1) := by decide +kernel
theorem dL_least_4 : decode cL_least 4 = .ok (.iload_n 2, 1) := by decide +kernel
theorem dL_least_5 : decode cL_least 5 = .ok (.iload_n 0, 1) := by decide +kernel
theorem dL_least_6 : decode cL_least 6 = .ok (.invokestatic 8, 3) := by decide +kernel
theorem dL_least_9 : decode cL_least 9 = .ok (.if_icmp .ge 30, 3) := by decide +kernel
theorem dL_least_12 : decode cL_least 12 = .ok (.iload_n 0, 1) := by decide +kernel
theorem dL_least_13 : decode cL_least 13 = .ok (.iload_n 2, 1) := by decide +kernel
theorem dL_least_14 : decode cL_least 14 = .ok (.invokestatic 27, 3) := by decide +kernel
theorem dL_least_17 : decode cL_least 17 = .ok (.invokestatic 30, 3) := by decide +kernel
theorem dL_least_20 : decode cL_least 20 = .ok (.iload_n 1, 1) := by decide +kernel
theorem dL_least_21 : decode cL_least 21 = .ok (.invokestatic 30, 3) := by decide +kernel
theorem dL_least_24 : decode cL_least 24 = .ok (.if_icmp .ge 9, 3) := by decide +kernel
theorem dL_least_27 : decode cL_least 27 = .ok (.iload_n 0, 1) := by decide +kernel
theorem dL_least_28 : decode cL_least 28 = .ok (.iload_n 2, 1) := by decide +kernel
theorem dL_least_29 : decode cL_least 29 = .ok (.invokestatic 27, 3) := by decide +kernel
theorem dL_least_32 : decode cL_least 32 = .ok (.istore_n 1, 1) := by decide +kernel
theorem dL_least_33 : decode cL_least 33 = .ok (.iinc 2 1, 3) := by decide +kernel
theorem dL_least_36 : decode cL_least 36 = .ok (.goto (-32), 3) := by decide +kernel
theorem dL_least_39 : decode cL_least 39 = .ok (.iload_n 1, 1) := by decide +kernel
theorem dL_least_40 : decode cL_least 40 = .ok (.ireturn, 1) := by decide +kernel
set_option maxRecDepth 20000 in
theorem ggL_alike_L_size : GoodIn wsL_alike wsL_size := goodIn_rq _ [4] (by decide +kernel) (by decide +kernel)
set_option maxRecDepth 20000 in
theorem gL_alike_L_size : GoodIn wsL_alike (va_wsS RL 8 yL_size wsL_size) := goodIn_app (goodIn_of _ (by decide +kernel)) ggL_alike_L_size
set_option maxRecDepth 20000 in
theorem ggL_alike_L_least : GoodIn wsL_alike wsL_least := goodIn_rq _ [7, 1, 2, 3, 4, 8, 9, 10, 11, 12, 13, 14, 15, 16, 17, 18, 19, 20, 21, 22] (by decide +kernel) (by decide +kernel)
set_option maxRecDepth 20000 in
theorem gL_alike_L_least : GoodIn wsL_alike (va_wsS RL 33 yL_least wsL_least) := goodIn_app (goodIn_of _ (by decide +kernel)) ggL_alike_L_least
set_option maxRecDepth 20000 in
theorem ggL_alike_L_rank : GoodIn wsL_alike wsL_rank := goodIn_rq _ [22, 1, 2, 3, 4, 14, 15, 16] (by decide +kernel) (by decide +kernel)
set_option maxRecDepth 20000 in
theorem gL_alike_L_rank : GoodIn wsL_alike (va_wsS RL 30 yL_rank wsL_rank) := goodIn_app (goodIn_of _ (by decide +kernel)) ggL_alike_L_rank
theorem dL_alike_0 : decode cL_alike 0 = .ok (.iload_n 0, 1) := by decide +kernel
theorem dL_alike_1 : decode cL_alike 1 = .ok (.invokestatic 8, 3) := by decide +kernel
theorem dL_alike_4 : decode cL_alike 4 = .ok (.iload_n 1, 1) := by decide +kernel
theorem dL_alike_5 : decode cL_alike 5 = .ok (.invokestatic 8, 3) := by decide +kernel
theorem dL_alike_8 : decode cL_alike 8 = .ok (.if_icmp .ne 24, 3) := by decide +kernel
theorem dL_alike_11 : decode cL_alike 11 = .ok (.iload_n 0, 1) := by decide +kernel
theorem dL_alike_12 : decode cL_alike 12 = .ok (.invokestatic 33, 3) := by decide +kernel
theorem dL_alike_15 : decode cL_alike 15 = .ok (.invokestatic 30, 3) := by decide +kernel
theorem dL_alike_18 : decode cL_alike 18 = .ok (.iload_n 1, 1) := by decide +kernel
theorem dL_alike_19 : decode cL_alike 19 = .ok (.invokestatic 33, 3) := by decide +kernel
theorem dL_alike_22 : decode cL_alike 22 = .ok (.invokestatic 30, 3) := by decide +kernel
theorem dL_alike_25 : decode cL_alike 25 = .ok (.if_icmp .ne 7, 3) := by decide +kernel
theorem dL_alike_28 : decode cL_alike 28 = .ok (.iconst 1, 1) := by decide +kernel
theorem dL_alike_29 : decode cL_alike 29 = .ok (.goto 4, 3) := by decide +kernel
theorem dL_alike_32 : decode cL_alike 32 = .ok (.iconst 0, 1) := by decide +kernel
theorem dL_alike_33 : decode cL_alike 33 = .ok (.ireturn, 1) := by decide +kernel
set_option maxRecDepth 20000 in
theorem ggL_table_L_size : GoodIn wsL_table wsL_size := goodIn_rq _ [4] (by decide +kernel) (by decide +kernel)
set_option maxRecDepth 20000 in
theorem gL_table_L_size : GoodIn wsL_table (va_wsS RL 8 yL_size wsL_size) := goodIn_app (goodIn_of _ (by decide +kernel)) ggL_table_L_size
set_option maxRecDepth 20000 in
theorem ggL_table_L_bit : GoodIn wsL_table wsL_bit := goodIn_rq _ [7] (by decide +kernel) (by decide +kernel)
set_option maxRecDepth 20000 in
theorem gL_table_L_bit : GoodIn wsL_table (va_wsS RL 14 yL_bit wsL_bit) := goodIn_app (goodIn_of _ (by decide +kernel)) ggL_table_L_bit
theorem dL_table_0 : decode cL_table 0 = .ok (.aload_n 1, 1) := by decide +kernel
theorem dL_table_1 : decode cL_table 1 = .ok (.iconst 0, 1) := by decide +kernel
theorem dL_table_2 : decode cL_table 2 = .ok (.iconst 1, 1) := by decide +kernel
theorem dL_table_3 : decode cL_table 3 = .ok (.iastore, 1) := by decide +kernel
theorem dL_table_4 : decode cL_table 4 = .ok (.aload_n 1, 1) := by decide +kernel
theorem dL_table_5 : decode cL_table 5 = .ok (.iconst 1, 1) := by decide +kernel
theorem dL_table_6 : decode cL_table 6 = .ok (.iconst 0, 1) := by decide +kernel
theorem dL_table_7 : decode cL_table 7 = .ok (.iastore, 1) := by decide +kernel
theorem dL_table_8 : decode cL_table 8 = .ok (.aload_n 1, 1) := by decide +kernel
theorem dL_table_9 : decode cL_table 9 = .ok (.iconst 2, 1) := by decide +kernel
theorem dL_table_10 : decode cL_table 10 = .ok (.iconst 0, 1) := by decide +kernel
theorem dL_table_11 : decode cL_table 11 = .ok (.iastore, 1) := by decide +kernel
theorem dL_table_12 : decode cL_table 12 = .ok (.aload_n 1, 1) := by decide +kernel
theorem dL_table_13 : decode cL_table 13 = .ok (.iconst 3, 1) := by decide +kernel
theorem dL_table_14 : decode cL_table 14 = .ok (.iconst 1, 1) := by decide +kernel
theorem dL_table_15 : decode cL_table 15 = .ok (.iastore, 1) := by decide +kernel
theorem dL_table_16 : decode cL_table 16 = .ok (.iconst 0, 1) := by decide +kernel
theorem dL_table_17 : decode cL_table 17 = .ok (.istore_n 2, 1) := by decide +kernel
theorem dL_table_18 : decode cL_table 18 = .ok (.iload_n 2, 1) := by decide +kernel
theorem dL_table_19 : decode cL_table 19 = .ok (.iload_n 0, 1) := by decide +kernel
theorem dL_table_20 : decode cL_table 20 = .ok (.invokestatic 8, 3) := by decide +kernel
theorem dL_table_23 : decode cL_table 23 = .ok (.if_icmp .ge 39, 3) := by decide +kernel
theorem dL_table_26 : decode cL_table 26 = .ok (.iload_n 0, 1) := by decide +kernel
theorem dL_table_27 : decode cL_table 27 = .ok (.iload_n 2, 1) := by decide +kernel
theorem dL_table_28 : decode cL_table 28 = .ok (.invokestatic 14, 3) := by decide +kernel
theorem dL_table_31 : decode cL_table 31 = .ok (.istore_n 3, 1) := by decide +kernel
theorem dL_table_32 : decode cL_table 32 = .ok (.aload_n 1, 1) := by decide +kernel
theorem dL_table_33 : decode cL_table 33 = .ok (.iload_n 3, 1) := by decide +kernel
theorem dL_table_34 : decode cL_table 34 = .ok (.dup2, 1) := by decide +kernel
theorem dL_table_35 : decode cL_table 35 = .ok (.iaload, 1) := by decide +kernel
theorem dL_table_36 : decode cL_table 36 = .ok (.aload_n 1, 1) := by decide +kernel
theorem dL_table_37 : decode cL_table 37 = .ok (.iconst 1, 1) := by decide +kernel
theorem dL_table_38 : decode cL_table 38 = .ok (.iload_n 3, 1) := by decide +kernel
theorem dL_table_39 : decode cL_table 39 = .ok (.isub, 1) := by decide +kernel
theorem dL_table_40 : decode cL_table 40 = .ok (.iaload, 1) := by decide +kernel
theorem dL_table_41 : decode cL_table 41 = .ok (.iadd, 1) := by decide +kernel
theorem dL_table_42 : decode cL_table 42 = .ok (.iastore, 1) := by decide +kernel
theorem dL_table_43 : decode cL_table 43 = .ok (.aload_n 1, 1) := by decide +kernel
theorem dL_table_44 : decode cL_table 44 = .ok (.iconst 2, 1) := by decide +kernel
theorem dL_table_45 : decode cL_table 45 = .ok (.iload_n 3, 1) := by decide +kernel
theorem dL_table_46 : decode cL_table 46 = .ok (.iadd, 1) := by decide +kernel
theorem dL_table_47 : decode cL_table 47 = .ok (.dup2, 1) := by decide +kernel
theorem dL_table_48 : decode cL_table 48 = .ok (.iaload, 1) := by decide +kernel
theorem dL_table_49 : decode cL_table 49 = .ok (.aload_n 1, 1) := by decide +kernel
theorem dL_table_50 : decode cL_table 50 = .ok (.iconst 3, 1) := by decide +kernel
theorem dL_table_51 : decode cL_table 51 = .ok (.iload_n 3, 1) := by decide +kernel
theorem dL_table_52 : decode cL_table 52 = .ok (.isub, 1) := by decide +kernel
theorem dL_table_53 : decode cL_table 53 = .ok (.iaload, 1) := by decide +kernel
theorem dL_table_54 : decode cL_table 54 = .ok (.iadd, 1) := by decide +kernel
theorem dL_table_55 : decode cL_table 55 = .ok (.iastore, 1) := by decide +kernel
theorem dL_table_56 : decode cL_table 56 = .ok (.iinc 2 1, 3) := by decide +kernel
theorem dL_table_59 : decode cL_table 59 = .ok (.goto (-41), 3) := by decide +kernel
theorem dL_table_62 : decode cL_table 62 = .ok (.return_, 1) := by decide +kernel
theorem dL_gcd_0 : decode cL_gcd 0 = .ok (.iload_n 0, 1) := by decide +kernel
theorem dL_gcd_1 : decode cL_gcd 1 = .ok (.ifCond .ge 8, 3) := by decide +kernel
theorem dL_gcd_4 : decode cL_gcd 4 = .ok (.iload_n 0, 1) := by decide +kernel
theorem dL_gcd_5 : decode cL_gcd 5 = .ok (.ineg, 1) := by decide +kernel
theorem dL_gcd_6 : decode cL_gcd 6 = .ok (.goto 4, 3) := by decide +kernel
theorem dL_gcd_9 : decode cL_gcd 9 = .ok (.iload_n 0, 1) := by decide +kernel
theorem dL_gcd_10 : decode cL_gcd 10 = .ok (.istore_n 2, 1) := by decide +kernel
theorem dL_gcd_11 : decode cL_gcd 11 = .ok (.iload_n 1, 1) := by decide +kernel
theorem dL_gcd_12 : decode cL_gcd 12 = .ok (.ifCond .ge 8, 3) := by decide +kernel
theorem dL_gcd_15 : decode cL_gcd 15 = .ok (.iload_n 1, 1) := by decide +kernel
theorem dL_gcd_16 : decode cL_gcd 16 = .ok (.ineg, 1) := by decide +kernel
theorem dL_gcd_17 : decode cL_gcd 17 = .ok (.goto 4, 3) := by decide +kernel
theorem dL_gcd_20 : decode cL_gcd 20 = .ok (.iload_n 1, 1) := by decide +kernel
theorem dL_gcd_21 : decode cL_gcd 21 = .ok (.istore_n 3, 1) := by decide +kernel
theorem dL_gcd_22 : decode cL_gcd 22 = .ok (.iload_n 3, 1) := by decide +kernel
theorem dL_gcd_23 : decode cL_gcd 23 = .ok (.ifCond .eq 16, 3) := by decide +kernel
theorem dL_gcd_26 : decode cL_gcd 26 = .ok (.iload_n 2, 1) := by decide +kernel
theorem dL_gcd_27 : decode cL_gcd 27 = .ok (.iload_n 3, 1) := by decide +kernel
theorem dL_gcd_28 : decode cL_gcd 28 = .ok (.irem, 1) := by decide +kernel
theorem dL_gcd_29 : decode cL_gcd 29 = .ok (.istore 4, 2) := by decide +kernel
theorem dL_gcd_31 : decode cL_gcd 31 = .ok (.iload_n 3, 1) := by decide +kernel
theorem dL_gcd_32 : decode cL_gcd 32 = .ok (.istore_n 2, 1) := by decide +kernel
theorem dL_gcd_33 : decode cL_gcd 33 = .ok (.iload 4, 2) := by decide +kernel
theorem dL_gcd_35 : decode cL_gcd 35 = .ok (.istore_n 3, 1) := by decide +kernel
theorem dL_gcd_36 : decode cL_gcd 36 = .ok (.goto (-14), 3) := by decide +kernel
theorem dL_gcd_39 : decode cL_gcd 39 = .ok (.iload_n 2, 1) := by decide +kernel
theorem dL_gcd_40 : decode cL_gcd 40 = .ok (.ireturn, 1) := by decide +kernel
set_option maxRecDepth 20000 in
theorem ggL_wordBy_L_at : GoodIn wsL_wordBy wsL_at := goodIn_rq _ [4] (by decide +kernel) (by decide +kernel)
set_option maxRecDepth 20000 in
theorem gL_wordBy_L_at : GoodIn wsL_wordBy (va_wsS RL 36 yL_at wsL_at) := goodIn_app (goodIn_of _ (by decide +kernel)) ggL_wordBy_L_at
set_option maxRecDepth 20000 in
theorem ggL_wordBy_L_bit : GoodIn wsL_wordBy wsL_bit := goodIn_rq _ [7] (by decide +kernel) (by decide +kernel)
set_option maxRecDepth 20000 in
theorem gL_wordBy_L_bit : GoodIn wsL_wordBy (va_wsS RL 14 yL_bit wsL_bit) := goodIn_app (goodIn_of _ (by decide +kernel)) ggL_wordBy_L_bit
set_option maxRecDepth 20000 in
theorem ggL_wordBy_L_with : GoodIn wsL_wordBy wsL_with := goodIn_rq _ [10, 11, 12, 3, 13] (by decide +kernel) (by decide +kernel)
set_option maxRecDepth 20000 in
theorem gL_wordBy_L_with : GoodIn wsL_wordBy (va_wsS RL 21 yL_with wsL_with) := goodIn_app (goodIn_of _ (by decide +kernel)) ggL_wordBy_L_with
theorem dL_wordBy_0 : decode cL_wordBy 0 = .ok (.iconst 0, 1) := by decide +kernel
theorem dL_wordBy_1 : decode cL_wordBy 1 = .ok (.istore_n 2, 1) := by decide +kernel
theorem dL_wordBy_2 : decode cL_wordBy 2 = .ok (.iconst 1, 1) := by decide +kernel
theorem dL_wordBy_3 : decode cL_wordBy 3 = .ok (.iload_n 0, 1) := by decide +kernel
theorem dL_wordBy_4 : decode cL_wordBy 4 = .ok (.iload_n 1, 1) := by decide +kernel
theorem dL_wordBy_5 : decode cL_wordBy 5 = .ok (.invokestatic 36, 3) := by decide +kernel
theorem dL_wordBy_8 : decode cL_wordBy 8 = .ok (.iadd, 1) := by decide +kernel
theorem dL_wordBy_9 : decode cL_wordBy 9 = .ok (.istore_n 3, 1) := by decide +kernel
theorem dL_wordBy_10 : decode cL_wordBy 10 = .ok (.iconst 0, 1) := by decide +kernel
theorem dL_wordBy_11 : decode cL_wordBy 11 = .ok (.istore 4, 2) := by decide +kernel
theorem dL_wordBy_13 : decode cL_wordBy 13 = .ok (.iload 4, 2) := by decide +kernel
theorem dL_wordBy_15 : decode cL_wordBy 15 = .ok (.iload_n 3, 1) := by decide +kernel
theorem dL_wordBy_16 : decode cL_wordBy 16 = .ok (.if_icmp .ge 51, 3) := by decide +kernel
theorem dL_wordBy_19 : decode cL_wordBy 19 = .ok (.iload_n 2, 1) := by decide +kernel
theorem dL_wordBy_20 : decode cL_wordBy 20 = .ok (.iload_n 0, 1) := by decide +kernel
theorem dL_wordBy_21 : decode cL_wordBy 21 = .ok (.iconst 5, 1) := by decide +kernel
theorem dL_wordBy_22 : decode cL_wordBy 22 = .ok (.invokestatic 36, 3) := by decide +kernel
theorem dL_wordBy_25 : decode cL_wordBy 25 = .ok (.ifCond .ne 21, 3) := by decide +kernel
theorem dL_wordBy_28 : decode cL_wordBy 28 = .ok (.iload 4, 2) := by decide +kernel
theorem dL_wordBy_30 : decode cL_wordBy 30 = .ok (.ifCond .le 16, 3) := by decide +kernel
theorem dL_wordBy_33 : decode cL_wordBy 33 = .ok (.iconst 1, 1) := by decide +kernel
theorem dL_wordBy_34 : decode cL_wordBy 34 = .ok (.iload_n 2, 1) := by decide +kernel
theorem dL_wordBy_35 : decode cL_wordBy 35 = .ok (.iload 4, 2) := by decide +kernel
theorem dL_wordBy_37 : decode cL_wordBy 37 = .ok (.iconst 1, 1) := by decide +kernel
theorem dL_wordBy_38 : decode cL_wordBy 38 = .ok (.isub, 1) := by decide +kernel
theorem dL_wordBy_39 : decode cL_wordBy 39 = .ok (.invokestatic 14, 3) := by decide +kernel
theorem dL_wordBy_42 : decode cL_wordBy 42 = .ok (.isub, 1) := by decide +kernel
theorem dL_wordBy_43 : decode cL_wordBy 43 = .ok (.goto 14, 3) := by decide +kernel
theorem dL_wordBy_46 : decode cL_wordBy 46 = .ok (.iload_n 0, 1) := by decide +kernel
theorem dL_wordBy_47 : decode cL_wordBy 47 = .ok (.iconst 4, 1) := by decide +kernel
theorem dL_wordBy_48 : decode cL_wordBy 48 = .ok (.iload 4, 2) := by decide +kernel
theorem dL_wordBy_50 : decode cL_wordBy 50 = .ok (.iadd, 1) := by decide +kernel
theorem dL_wordBy_51 : decode cL_wordBy 51 = .ok (.bipush 31, 2) := by decide +kernel
theorem dL_wordBy_53 : decode cL_wordBy 53 = .ok (.irem, 1) := by decide +kernel
theorem dL_wordBy_54 : decode cL_wordBy 54 = .ok (.ishr, 1) := by decide +kernel
theorem dL_wordBy_55 : decode cL_wordBy 55 = .ok (.iconst 1, 1) := by decide +kernel
theorem dL_wordBy_56 : decode cL_wordBy 56 = .ok (.iand, 1) := by decide +kernel
theorem dL_wordBy_57 : decode cL_wordBy 57 = .ok (.invokestatic 21, 3) := by decide +kernel
theorem dL_wordBy_60 : decode cL_wordBy 60 = .ok (.istore_n 2, 1) := by decide +kernel
theorem dL_wordBy_61 : decode cL_wordBy 61 = .ok (.iinc 4 1, 3) := by decide +kernel
theorem dL_wordBy_64 : decode cL_wordBy 64 = .ok (.goto (-51), 3) := by decide +kernel
theorem dL_wordBy_67 : decode cL_wordBy 67 = .ok (.iload_n 2, 1) := by decide +kernel
theorem dL_wordBy_68 : decode cL_wordBy 68 = .ok (.ireturn, 1) := by decide +kernel
set_option maxRecDepth 20000 in
theorem ggL_write_L_size : GoodIn wsL_write wsL_size := goodIn_rq _ [4] (by decide +kernel) (by decide +kernel)
set_option maxRecDepth 20000 in
theorem gL_write_L_size : GoodIn wsL_write (va_wsS RL 8 yL_size wsL_size) := goodIn_app (goodIn_of _ (by decide +kernel)) ggL_write_L_size
set_option maxRecDepth 20000 in
theorem ggL_write_L_bit : GoodIn wsL_write wsL_bit := goodIn_rq _ [7] (by decide +kernel) (by decide +kernel)
set_option maxRecDepth 20000 in
theorem gL_write_L_bit : GoodIn wsL_write (va_wsS RL 14 yL_bit wsL_bit) := goodIn_app (goodIn_of _ (by decide +kernel)) ggL_write_L_bit
set_option maxRecDepth 20000 in
theorem ggL_write_L_at : GoodIn wsL_write wsL_at := goodIn_rq _ [10] (by decide +kernel) (by decide +kernel)
set_option maxRecDepth 20000 in
theorem gL_write_L_at : GoodIn wsL_write (va_wsS RL 36 yL_at wsL_at) := goodIn_app (goodIn_of _ (by decide +kernel)) ggL_write_L_at
theorem dL_write_0 : decode cL_write 0 = .ok (.iconst 0, 1) := by decide +kernel
theorem dL_write_1 : decode cL_write 1 = .ok (.istore_n 3, 1) := by decide +kernel
theorem dL_write_2 : decode cL_write 2 = .ok (.iconst 0, 1) := by decide +kernel
theorem dL_write_3 : decode cL_write 3 = .ok (.istore 4, 2) := by decide +kernel
theorem dL_write_5 : decode cL_write 5 = .ok (.iload 4, 2) := by decide +kernel
theorem dL_write_7 : decode cL_write 7 = .ok (.iload_n 0, 1) := by decide +kernel
theorem dL_write_8 : decode cL_write 8 = .ok (.invokestatic 8, 3) := by decide +kernel
theorem dL_write_11 : decode cL_write 11 = .ok (.if_icmp .ge 116, 3) := by decide +kernel
theorem dL_write_14 : decode cL_write 14 = .ok (.iconst 1, 1) := by decide +kernel
theorem dL_write_15 : decode cL_write 15 = .ok (.istore 5, 2) := by decide +kernel
theorem dL_write_17 : decode cL_write 17 = .ok (.iload 5, 2) := by decide +kernel
theorem dL_write_19 : decode cL_write 19 = .ok (.bipush 9, 2) := by decide +kernel
theorem dL_write_21 : decode cL_write 21 = .ok (.if_icmp .ge 39, 3) := by decide +kernel
theorem dL_write_24 : decode cL_write 24 = .ok (.iload 4, 2) := by decide +kernel
theorem dL_write_26 : decode cL_write 26 = .ok (.iload 5, 2) := by decide +kernel
theorem dL_write_28 : decode cL_write 28 = .ok (.iadd, 1) := by decide +kernel
theorem dL_write_29 : decode cL_write 29 = .ok (.iload_n 0, 1) := by decide +kernel
theorem dL_write_30 : decode cL_write 30 = .ok (.invokestatic 8, 3) := by decide +kernel
theorem dL_write_33 : decode cL_write 33 = .ok (.if_icmp .ge 27, 3) := by decide +kernel
theorem dL_write_36 : decode cL_write 36 = .ok (.iload_n 0, 1) := by decide +kernel
theorem dL_write_37 : decode cL_write 37 = .ok (.iload 4, 2) := by decide +kernel
theorem dL_write_39 : decode cL_write 39 = .ok (.iload 5, 2) := by decide +kernel
theorem dL_write_41 : decode cL_write 41 = .ok (.iadd, 1) := by decide +kernel
theorem dL_write_42 : decode cL_write 42 = .ok (.invokestatic 14, 3) := by decide +kernel
theorem dL_write_45 : decode cL_write 45 = .ok (.iload_n 0, 1) := by decide +kernel
theorem dL_write_46 : decode cL_write 46 = .ok (.iload 4, 2) := by decide +kernel
theorem dL_write_48 : decode cL_write 48 = .ok (.invokestatic 14, 3) := by decide +kernel
theorem dL_write_51 : decode cL_write 51 = .ok (.if_icmp .ne 9, 3) := by decide +kernel
theorem dL_write_54 : decode cL_write 54 = .ok (.iinc 5 1, 3) := by decide +kernel
theorem dL_write_57 : decode cL_write 57 = .ok (.goto (-40), 3) := by decide +kernel
theorem dL_write_60 : decode cL_write 60 = .ok (.aload_n 2, 1) := by decide +kernel
theorem dL_write_61 : decode cL_write 61 = .ok (.iload_n 3, 1) := by decide +kernel
theorem dL_write_62 : decode cL_write 62 = .ok (.iinc 3 1, 3) := by decide +kernel
theorem dL_write_65 : decode cL_write 65 = .ok (.iload_n 0, 1) := by decide +kernel
theorem dL_write_66 : decode cL_write 66 = .ok (.iload 4, 2) := by decide +kernel
theorem dL_write_68 : decode cL_write 68 = .ok (.invokestatic 14, 3) := by decide +kernel
theorem dL_write_71 : decode cL_write 71 = .ok (.iconst 1, 1) := by decide +kernel
theorem dL_write_72 : decode cL_write 72 = .ok (.if_icmp .ne 8, 3) := by decide +kernel
theorem dL_write_75 : decode cL_write 75 = .ok (.bipush 82, 2) := by decide +kernel
theorem dL_write_77 : decode cL_write 77 = .ok (.goto 5, 3) := by decide +kernel
theorem dL_write_80 : decode cL_write 80 = .ok (.bipush 76, 2) := by decide +kernel
theorem dL_write_82 : decode cL_write 82 = .ok (.iastore, 1) := by decide +kernel
theorem dL_write_83 : decode cL_write 83 = .ok (.iload 5, 2) := by decide +kernel
theorem dL_write_85 : decode cL_write 85 = .ok (.iconst 1, 1) := by decide +kernel
theorem dL_write_86 : decode cL_write 86 = .ok (.if_icmp .le 35, 3) := by decide +kernel
theorem dL_write_89 : decode cL_write 89 = .ok (.iload_n 1, 1) := by decide +kernel
theorem dL_write_90 : decode cL_write 90 = .ok (.iload 4, 2) := by decide +kernel
theorem dL_write_92 : decode cL_write 92 = .ok (.ishr, 1) := by decide +kernel
theorem dL_write_93 : decode cL_write 93 = .ok (.iconst 3, 1) := by decide +kernel
theorem dL_write_94 : decode cL_write 94 = .ok (.invokestatic 36, 3) := by decide +kernel
theorem dL_write_97 : decode cL_write 97 = .ok (.ifCond .le 24, 3) := by decide +kernel
theorem dL_write_100 : decode cL_write 100 = .ok (.aload_n 2, 1) := by decide +kernel
theorem dL_write_101 : decode cL_write 101 = .ok (.iload_n 3, 1) := by decide +kernel
theorem dL_write_102 : decode cL_write 102 = .ok (.iinc 3 1, 3) := by decide +kernel
theorem dL_write_105 : decode cL_write 105 = .ok (.bipush 48, 2) := by decide +kernel
theorem dL_write_107 : decode cL_write 107 = .ok (.iload 5, 2) := by decide +kernel
theorem dL_write_109 : decode cL_write 109 = .ok (.iadd, 1) := by decide +kernel
theorem dL_write_110 : decode cL_write 110 = .ok (.iastore, 1) := by decide +kernel
theorem dL_write_111 : decode cL_write 111 = .ok (.iload 4, 2) := by decide +kernel
theorem dL_write_113 : decode cL_write 113 = .ok (.iload 5, 2) := by decide +kernel
theorem dL_write_115 : decode cL_write 115 = .ok (.iadd, 1) := by decide +kernel
theorem dL_write_116 : decode cL_write 116 = .ok (.istore 4, 2) := by decide +kernel
theorem dL_write_118 : decode cL_write 118 = .ok (.goto 6, 3) := by decide +kernel
theorem dL_write_121 : decode cL_write 121 = .ok (.iinc 4 1, 3) := by decide +kernel
theorem dL_write_124 : decode cL_write 124 = .ok (.goto (-119), 3) := by decide +kernel
theorem dL_write_127 : decode cL_write 127 = .ok (.iload_n 3, 1) := by decide +kernel
theorem dL_write_128 : decode cL_write 128 = .ok (.ireturn, 1) := by decide +kernel
set_option maxRecDepth 20000 in
theorem ggL_spell_X4_letter : GoodIn wsL_spell wsX4_letter := goodIn_rq _ [5, 6, 7, 8, 9, 10, 11, 12, 13, 14, 15, 16, 17, 18, 19, 20, 21, 22, 23, 24, 25, 26, 27, 28, 29, 30, 31, 32, 33, 34, 35, 36] (by decide +kernel) (by decide +kernel)
set_option maxRecDepth 20000 in
theorem gL_spell_X4_letter : GoodIn wsL_spell (wsV RL 39 RX4 yX4_letter wsX4_letter) := goodIn_app (goodIn_of _ (by decide +kernel)) ggL_spell_X4_letter
theorem dL_spell_0 : decode cL_spell 0 = .ok (.iconst 0, 1) := by decide +kernel
theorem dL_spell_1 : decode cL_spell 1 = .ok (.istore_n 3, 1) := by decide +kernel
theorem dL_spell_2 : decode cL_spell 2 = .ok (.iload_n 3, 1) := by decide +kernel
theorem dL_spell_3 : decode cL_spell 3 = .ok (.iload_n 2, 1) := by decide +kernel
theorem dL_spell_4 : decode cL_spell 4 = .ok (.if_icmp .ge 24, 3) := by decide +kernel
theorem dL_spell_7 : decode cL_spell 7 = .ok (.aload_n 0, 1) := by decide +kernel
theorem dL_spell_8 : decode cL_spell 8 = .ok (.aload_n 1, 1) := by decide +kernel
theorem dL_spell_9 : decode cL_spell 9 = .ok (.iload_n 3, 1) := by decide +kernel
theorem dL_spell_10 : decode cL_spell 10 = .ok (.iaload, 1) := by decide +kernel
theorem dL_spell_11 : decode cL_spell 11 = .ok (.invokevirtual 39, 3) := by decide +kernel
theorem dL_spell_14 : decode cL_spell 14 = .ok (.iload_n 3, 1) := by decide +kernel
theorem dL_spell_15 : decode cL_spell 15 = .ok (.iconst 1, 1) := by decide +kernel
theorem dL_spell_16 : decode cL_spell 16 = .ok (.iadd, 1) := by decide +kernel
theorem dL_spell_17 : decode cL_spell 17 = .ok (.if_icmp .eq 5, 3) := by decide +kernel
theorem dL_spell_20 : decode cL_spell 20 = .ok (.iconst 0, 1) := by decide +kernel
theorem dL_spell_21 : decode cL_spell 21 = .ok (.ireturn, 1) := by decide +kernel
theorem dL_spell_22 : decode cL_spell 22 = .ok (.iinc 3 1, 3) := by decide +kernel
theorem dL_spell_25 : decode cL_spell 25 = .ok (.goto (-23), 3) := by decide +kernel
theorem dL_spell_28 : decode cL_spell 28 = .ok (.iconst 1, 1) := by decide +kernel
theorem dL_spell_29 : decode cL_spell 29 = .ok (.ireturn, 1) := by decide +kernel
set_option maxRecDepth 20000 in
theorem ggL_crossings_L_size : GoodIn wsL_crossings wsL_size := goodIn_rq _ [4] (by decide +kernel) (by decide +kernel)
set_option maxRecDepth 20000 in
theorem gL_crossings_L_size : GoodIn wsL_crossings (va_wsS RL 8 yL_size wsL_size) := goodIn_app (goodIn_of _ (by decide +kernel)) ggL_crossings_L_size
set_option maxRecDepth 20000 in
theorem ggL_crossings_L_bit : GoodIn wsL_crossings wsL_bit := goodIn_rq _ [7] (by decide +kernel) (by decide +kernel)
set_option maxRecDepth 20000 in
theorem gL_crossings_L_bit : GoodIn wsL_crossings (va_wsS RL 14 yL_bit wsL_bit) := goodIn_app (goodIn_of _ (by decide +kernel)) ggL_crossings_L_bit
set_option maxRecDepth 20000 in
theorem ggL_crossings_L_round : GoodIn wsL_crossings wsL_round := goodIn_rq _ [10, 1, 2, 3, 4, 5, 6, 7] (by decide +kernel) (by decide +kernel)
set_option maxRecDepth 20000 in
theorem gL_crossings_L_round : GoodIn wsL_crossings (va_wsS RL 18 yL_round wsL_round) := goodIn_app (goodIn_of _ (by decide +kernel)) ggL_crossings_L_round
theorem dL_crossings_0 : decode cL_crossings 0 = .ok (.iconst 0, 1) := by decide +kernel
theorem dL_crossings_1 : decode cL_crossings 1 = .ok (.istore_n 2, 1) := by decide +kernel
theorem dL_crossings_2 : decode cL_crossings 2 = .ok (.iconst 0, 1) := by decide +kernel
theorem dL_crossings_3 : decode cL_crossings 3 = .ok (.istore_n 3, 1) := by decide +kernel
theorem dL_crossings_4 : decode cL_crossings 4 = .ok (.iload_n 3, 1) := by decide +kernel
theorem dL_crossings_5 : decode cL_crossings 5 = .ok (.iload_n 0, 1) := by decide +kernel
theorem dL_crossings_6 : decode cL_crossings 6 = .ok (.invokestatic 8, 3) := by decide +kernel
theorem dL_crossings_9 : decode cL_crossings 9 = .ok (.if_icmp .ge 111, 3) := by decide +kernel
theorem dL_crossings_12 : decode cL_crossings 12 = .ok (.iconst 0, 1) := by decide +kernel
theorem dL_crossings_13 : decode cL_crossings 13 = .ok (.istore 4, 2) := by decide +kernel
theorem dL_crossings_15 : decode cL_crossings 15 = .ok (.iload 4, 2) := by decide +kernel
theorem dL_crossings_17 : decode cL_crossings 17 = .ok (.iload_n 1, 1) := by decide +kernel
theorem dL_crossings_18 : decode cL_crossings 18 = .ok (.invokestatic 8, 3) := by decide +kernel
theorem dL_crossings_21 : decode cL_crossings 21 = .ok (.if_icmp .ge 93, 3) := by decide +kernel
theorem dL_crossings_24 : decode cL_crossings 24 = .ok (.iload_n 0, 1) := by decide +kernel
theorem dL_crossings_25 : decode cL_crossings 25 = .ok (.iload_n 3, 1) := by decide +kernel
theorem dL_crossings_26 : decode cL_crossings 26 = .ok (.invokestatic 14, 3) := by decide +kernel
theorem dL_crossings_29 : decode cL_crossings 29 = .ok (.iload_n 1, 1) := by decide +kernel
theorem dL_crossings_30 : decode cL_crossings 30 = .ok (.iload 4, 2) := by decide +kernel
theorem dL_crossings_32 : decode cL_crossings 32 = .ok (.invokestatic 14, 3) := by decide +kernel
theorem dL_crossings_35 : decode cL_crossings 35 = .ok (.if_icmp .ne 6, 3) := by decide +kernel
theorem dL_crossings_38 : decode cL_crossings 38 = .ok (.goto 70, 3) := by decide +kernel
theorem dL_crossings_41 : decode cL_crossings 41 = .ok (.iconst 1, 1) := by decide +kernel
theorem dL_crossings_42 : decode cL_crossings 42 = .ok (.istore 5, 2) := by decide +kernel
theorem dL_crossings_44 : decode cL_crossings 44 = .ok (.iload 5, 2) := by decide +kernel
theorem dL_crossings_46 : decode cL_crossings 46 = .ok (.iload_n 0, 1) := by decide +kernel
theorem dL_crossings_47 : decode cL_crossings 47 = .ok (.invokestatic 8, 3) := by decide +kernel
theorem dL_crossings_50 : decode cL_crossings 50 = .ok (.iload_n 1, 1) := by decide +kernel
theorem dL_crossings_51 : decode cL_crossings 51 = .ok (.invokestatic 8, 3) := by decide +kernel
theorem dL_crossings_54 : decode cL_crossings 54 = .ok (.iadd, 1) := by decide +kernel
theorem dL_crossings_55 : decode cL_crossings 55 = .ok (.if_icmp .gt 29, 3) := by decide +kernel
theorem dL_crossings_58 : decode cL_crossings 58 = .ok (.iload_n 0, 1) := by decide +kernel
theorem dL_crossings_59 : decode cL_crossings 59 = .ok (.iload_n 3, 1) := by decide +kernel
theorem dL_crossings_60 : decode cL_crossings 60 = .ok (.iload 5, 2) := by decide +kernel
theorem dL_crossings_62 : decode cL_crossings 62 = .ok (.isub, 1) := by decide +kernel
theorem dL_crossings_63 : decode cL_crossings 63 = .ok (.invokestatic 18, 3) := by decide +kernel
theorem dL_crossings_66 : decode cL_crossings 66 = .ok (.iload_n 1, 1) := by decide +kernel
theorem dL_crossings_67 : decode cL_crossings 67 = .ok (.iload 4, 2) := by decide +kernel
theorem dL_crossings_69 : decode cL_crossings 69 = .ok (.iload 5, 2) := by decide +kernel
theorem dL_crossings_71 : decode cL_crossings 71 = .ok (.isub, 1) := by decide +kernel
theorem dL_crossings_72 : decode cL_crossings 72 = .ok (.invokestatic 18, 3) := by decide +kernel
theorem dL_crossings_75 : decode cL_crossings 75 = .ok (.if_icmp .ne 9, 3) := by decide +kernel
theorem dL_crossings_78 : decode cL_crossings 78 = .ok (.iinc 5 1, 3) := by decide +kernel
theorem dL_crossings_81 : decode cL_crossings 81 = .ok (.goto (-37), 3) := by decide +kernel
theorem dL_crossings_84 : decode cL_crossings 84 = .ok (.iload_n 2, 1) := by decide +kernel
theorem dL_crossings_85 : decode cL_crossings 85 = .ok (.iload_n 0, 1) := by decide +kernel
theorem dL_crossings_86 : decode cL_crossings 86 = .ok (.iload_n 3, 1) := by decide +kernel
theorem dL_crossings_87 : decode cL_crossings 87 = .ok (.iload 5, 2) := by decide +kernel
theorem dL_crossings_89 : decode cL_crossings 89 = .ok (.isub, 1) := by decide +kernel
theorem dL_crossings_90 : decode cL_crossings 90 = .ok (.invokestatic 18, 3) := by decide +kernel
theorem dL_crossings_93 : decode cL_crossings 93 = .ok (.iload_n 0, 1) := by decide +kernel
theorem dL_crossings_94 : decode cL_crossings 94 = .ok (.iload_n 3, 1) := by decide +kernel
theorem dL_crossings_95 : decode cL_crossings 95 = .ok (.invokestatic 14, 3) := by decide +kernel
theorem dL_crossings_98 : decode cL_crossings 98 = .ok (.if_icmp .ne 7, 3) := by decide +kernel
theorem dL_crossings_101 : decode cL_crossings 101 = .ok (.iconst 0, 1) := by decide +kernel
theorem dL_crossings_102 : decode cL_crossings 102 = .ok (.goto 4, 3) := by decide +kernel
theorem dL_crossings_105 : decode cL_crossings 105 = .ok (.iconst 1, 1) := by decide +kernel
theorem dL_crossings_106 : decode cL_crossings 106 = .ok (.iadd, 1) := by decide +kernel
theorem dL_crossings_107 : decode cL_crossings 107 = .ok (.istore_n 2, 1) := by decide +kernel
theorem dL_crossings_108 : decode cL_crossings 108 = .ok (.iinc 4 1, 3) := by decide +kernel
theorem dL_crossings_111 : decode cL_crossings 111 = .ok (.goto (-96), 3) := by decide +kernel
theorem dL_crossings_114 : decode cL_crossings 114 = .ok (.iinc 3 1, 3) := by decide +kernel
theorem dL_crossings_117 : decode cL_crossings 117 = .ok (.goto (-113), 3) := by decide +kernel
theorem dL_crossings_120 : decode cL_crossings 120 = .ok (.iload_n 2, 1) := by decide +kernel
theorem dL_crossings_121 : decode cL_crossings 121 = .ok (.ireturn, 1) := by decide +kernel
set_option maxRecDepth 20000 in
theorem ggL_period_L_turned : GoodIn wsL_period wsL_turned := goodIn_rq _ [4, 5, 6, 3, 7, 8, 9, 10, 11, 12, 13, 14, 15, 16] (by decide +kernel) (by decide +kernel)
set_option maxRecDepth 20000 in
theorem gL_period_L_turned : GoodIn wsL_period (va_wsS RL 27 yL_turned wsL_turned) := goodIn_app (goodIn_of _ (by decide +kernel)) ggL_period_L_turned
theorem dL_period_0 : decode cL_period 0 = .ok (.iconst 1, 1) := by decide +kernel
theorem dL_period_1 : decode cL_period 1 = .ok (.istore_n 1, 1) := by decide +kernel
theorem dL_period_2 : decode cL_period 2 = .ok (.iload_n 0, 1) := by decide +kernel
theorem dL_period_3 : decode cL_period 3 = .ok (.iload_n 1, 1) := by decide +kernel
theorem dL_period_4 : decode cL_period 4 = .ok (.invokestatic 27, 3) := by decide +kernel
theorem dL_period_7 : decode cL_period 7 = .ok (.iload_n 0, 1) := by decide +kernel
theorem dL_period_8 : decode cL_period 8 = .ok (.if_icmp .eq 9, 3) := by decide +kernel
theorem dL_period_11 : decode cL_period 11 = .ok (.iinc 1 1, 3) := by decide +kernel
theorem dL_period_14 : decode cL_period 14 = .ok (.goto (-12), 3) := by decide +kernel
theorem dL_period_17 : decode cL_period 17 = .ok (.iload_n 1, 1) := by decide +kernel
theorem dL_period_18 : decode cL_period 18 = .ok (.ireturn, 1) := by decide +kernel
set_option maxRecDepth 20000 in
theorem ggL_road_L_size : GoodIn wsL_road wsL_size := goodIn_rq _ [8] (by decide +kernel) (by decide +kernel)
set_option maxRecDepth 20000 in
theorem gL_road_L_size : GoodIn wsL_road (va_wsS RL 8 yL_size wsL_size) := goodIn_app (goodIn_of _ (by decide +kernel)) ggL_road_L_size
set_option maxRecDepth 20000 in
theorem ggL_road_L_turned : GoodIn wsL_road wsL_turned := goodIn_rq _ [11, 5, 6, 7, 8, 12, 13, 14, 15, 16, 17, 18, 19, 20] (by decide +kernel) (by decide +kernel)
set_option maxRecDepth 20000 in
theorem gL_road_L_turned : GoodIn wsL_road (va_wsS RL 27 yL_turned wsL_turned) := goodIn_app (goodIn_of _ (by decide +kernel)) ggL_road_L_turned
set_option maxRecDepth 20000 in
theorem ggL_road_L_least : GoodIn wsL_road wsL_least := goodIn_rq _ [23, 5, 6, 7, 8, 9, 10, 11, 12, 13, 14, 15, 16, 17, 18, 19, 20, 24, 25, 26] (by decide +kernel) (by decide +kernel)
set_option maxRecDepth 20000 in
theorem gL_road_L_least : GoodIn wsL_road (va_wsS RL 33 yL_least wsL_least) := goodIn_app (goodIn_of _ (by decide +kernel)) ggL_road_L_least
set_option maxRecDepth 20000 in
theorem ggL_road_L_table : GoodIn wsL_road wsL_table := goodIn_rq _ [29, 5, 6, 7, 8, 15, 16, 17] (by decide +kernel) (by decide +kernel)
set_option maxRecDepth 20000 in
theorem gL_road_L_table : GoodIn wsL_road (va_wsS RL 44 yL_table wsL_table) := goodIn_app (goodIn_of _ (by decide +kernel)) ggL_road_L_table
set_option maxRecDepth 20000 in
theorem ggL_road_X4_road : GoodIn wsL_road wsX4_road := goodIn_rq _ [34, 35, 36, 37, 38, 39, 40, 41, 33, 42, 43, 44, 45, 46, 47, 48, 49, 50, 51, 52, 53, 54, 55, 56, 57, 58, 59, 60, 61, 62, 63, 64, 65, 66, 67, 68, 69, 70, 71, 72, 73, 74, 75, 76, 77, 78, 79, 80, 81, 82, 83, 84, 85, 86, 87, 88, 89, 90, 91, 92, 93, 94, 95, 96, 97, 98, 162, 163, 164, 165, 166, 167, 168, 169, 170, 171, 172, 173, 174] (by decide +kernel) (by decide +kernel)
set_option maxRecDepth 20000 in
theorem gL_road_X4_road : GoodIn wsL_road (wsV RL 48 RX4 yX4_road wsX4_road) := goodIn_app (goodIn_of _ (by decide +kernel)) ggL_road_X4_road
set_option maxRecDepth 20000 in
theorem ggL_road_L_rights : GoodIn wsL_road wsL_rights := goodIn_rq _ [101, 5, 6, 7, 8, 15, 16, 17] (by decide +kernel) (by decide +kernel)
set_option maxRecDepth 20000 in
theorem gL_road_L_rights : GoodIn wsL_road (va_wsS RL 24 yL_rights wsL_rights) := goodIn_app (goodIn_of _ (by decide +kernel)) ggL_road_L_rights
set_option maxRecDepth 20000 in
theorem ggL_road_L_period : GoodIn wsL_road wsL_period := goodIn_rq _ [104, 9, 10, 7, 11, 5, 6, 8, 12, 13, 14, 15, 16, 17, 18, 19, 20] (by decide +kernel) (by decide +kernel)
set_option maxRecDepth 20000 in
theorem gL_road_L_period : GoodIn wsL_road (va_wsS RL 51 yL_period wsL_period) := goodIn_app (goodIn_of _ (by decide +kernel)) ggL_road_L_period
set_option maxRecDepth 20000 in
theorem ggL_road_L_isClosed : GoodIn wsL_road wsL_isClosed := goodIn_rq _ [107, 99, 100, 7, 101, 5, 6, 8, 15, 16, 17] (by decide +kernel) (by decide +kernel)
set_option maxRecDepth 20000 in
theorem gL_road_L_isClosed : GoodIn wsL_road (va_wsS RL 54 yL_isClosed wsL_isClosed) := goodIn_app (goodIn_of _ (by decide +kernel)) ggL_road_L_isClosed
set_option maxRecDepth 20000 in
theorem ggL_road_L_back : GoodIn wsL_road wsL_back := goodIn_rq _ [110, 5, 6, 7, 8, 15, 16, 17, 18, 19, 20] (by decide +kernel) (by decide +kernel)
set_option maxRecDepth 20000 in
theorem gL_road_L_back : GoodIn wsL_road (va_wsS RL 58 yL_back wsL_back) := goodIn_app (goodIn_of _ (by decide +kernel)) ggL_road_L_back
set_option maxRecDepth 20000 in
theorem ggL_road_L_alike : GoodIn wsL_road wsL_alike := goodIn_rq _ [113, 5, 6, 7, 8, 21, 22, 23, 9, 10, 11, 12, 13, 14, 15, 16, 17, 18, 19, 20, 24, 25, 26] (by decide +kernel) (by decide +kernel)
set_option maxRecDepth 20000 in
theorem gL_road_L_alike : GoodIn wsL_road (va_wsS RL 61 yL_alike wsL_alike) := goodIn_app (goodIn_of _ (by decide +kernel)) ggL_road_L_alike
set_option maxRecDepth 20000 in
theorem ggL_road_L_mirror : GoodIn wsL_road wsL_mirror := goodIn_rq _ [116, 5, 6, 7, 8, 15, 16, 17, 18, 19, 20] (by decide +kernel) (by decide +kernel)
set_option maxRecDepth 20000 in
theorem gL_road_L_mirror : GoodIn wsL_road (va_wsS RL 65 yL_mirror wsL_mirror) := goodIn_app (goodIn_of _ (by decide +kernel)) ggL_road_L_mirror
set_option maxRecDepth 20000 in
theorem ggL_road_X4_sign : GoodIn wsL_road wsX4_sign := goodIn_rq _ [120, 36, 35, 39, 40, 41, 33, 42, 43, 44, 121, 88, 89, 55, 90, 57, 59, 122, 123, 124, 162, 163, 164, 165, 166, 167, 168, 169, 170, 171, 172, 173, 174] (by decide +kernel) (by decide +kernel)
set_option maxRecDepth 20000 in
theorem gL_road_X4_sign : GoodIn wsL_road (wsV RL 69 RX4 yX4_sign wsX4_sign) := goodIn_app (goodIn_of _ (by decide +kernel)) ggL_road_X4_sign
set_option maxRecDepth 20000 in
theorem ggL_road_L_bit : GoodIn wsL_road wsL_bit := goodIn_rq _ [17] (by decide +kernel) (by decide +kernel)
set_option maxRecDepth 20000 in
theorem gL_road_L_bit : GoodIn wsL_road (va_wsS RL 14 yL_bit wsL_bit) := goodIn_app (goodIn_of _ (by decide +kernel)) ggL_road_L_bit
set_option maxRecDepth 20000 in
theorem ggL_road_X4_table : GoodIn wsL_road wsX4_table := goodIn_rq _ [128, 35, 129, 130, 131, 132, 38, 39, 40, 41, 33, 42, 43, 44, 162, 163, 164, 165, 166, 167, 168, 169, 170, 171, 172, 173, 174] (by decide +kernel) (by decide +kernel)
set_option maxRecDepth 20000 in
theorem gL_road_X4_table : GoodIn wsL_road (wsV RL 72 RX4 yX4_table wsX4_table) := goodIn_app (goodIn_of _ (by decide +kernel)) ggL_road_X4_table
set_option maxRecDepth 20000 in
theorem ggL_road_X4_end : GoodIn wsL_road wsX4_end := goodIn_rq _ [136, 35, 129, 130, 131, 132, 38, 39, 40, 41, 33, 42, 43, 44, 162, 163, 164, 165, 166, 167, 168, 169, 170, 171, 172, 173, 174] (by decide +kernel) (by decide +kernel)
set_option maxRecDepth 20000 in
theorem gL_road_X4_end : GoodIn wsL_road (wsV RL 74 RX4 yX4_end wsX4_end) := goodIn_app (goodIn_of _ (by decide +kernel)) ggL_road_X4_end
set_option maxRecDepth 20000 in
theorem ggL_road_L_gcd : GoodIn wsL_road wsL_gcd := goodIn_rq _ [139] (by decide +kernel) (by decide +kernel)
set_option maxRecDepth 20000 in
theorem gL_road_L_gcd : GoodIn wsL_road (va_wsS RL 77 yL_gcd wsL_gcd) := goodIn_app (goodIn_of _ (by decide +kernel)) ggL_road_L_gcd
set_option maxRecDepth 20000 in
theorem ggL_road_X4_form : GoodIn wsL_road wsX4_form := goodIn_rq _ [143, 35, 38, 144, 39, 40, 41, 33, 42, 43, 44, 79, 80, 81, 55, 82, 57, 68, 145, 146, 147, 148, 149, 78, 77, 150, 151, 152, 153, 154, 155, 156, 157, 158, 159, 160, 161, 169, 170, 171, 172, 173, 174, 162, 163, 164, 165, 166, 167, 168] (by decide +kernel) (by decide +kernel)
set_option maxRecDepth 20000 in
theorem gL_road_X4_form : GoodIn wsL_road (wsV RL 80 RX4 yX4_form wsX4_form) := goodIn_app (goodIn_of _ (by decide +kernel)) ggL_road_X4_form
theorem dL_road_0 : decode cL_road 0 = .ok (.iload_n 2, 1) := by decide +kernel
theorem dL_road_1 : decode cL_road 1 = .ok (.invokestatic 8, 3) := by decide +kernel
theorem dL_road_4 : decode cL_road 4 = .ok (.istore 4, 2) := by decide +kernel
theorem dL_road_6 : decode cL_road 6 = .ok (.iconst 0, 1) := by decide +kernel
theorem dL_road_7 : decode cL_road 7 = .ok (.istore 5, 2) := by decide +kernel
theorem dL_road_9 : decode cL_road 9 = .ok (.iload_n 2, 1) := by decide +kernel
theorem dL_road_10 : decode cL_road 10 = .ok (.iload 5, 2) := by decide +kernel
theorem dL_road_12 : decode cL_road 12 = .ok (.invokestatic 27, 3) := by decide +kernel
theorem dL_road_15 : decode cL_road 15 = .ok (.iload_n 2, 1) := by decide +kernel
theorem dL_road_16 : decode cL_road 16 = .ok (.invokestatic 33, 3) := by decide +kernel
theorem dL_road_19 : decode cL_road 19 = .ok (.if_icmp .eq 9, 3) := by decide +kernel
theorem dL_road_22 : decode cL_road 22 = .ok (.iinc 5 1, 3) := by decide +kernel
theorem dL_road_25 : decode cL_road 25 = .ok (.goto (-16), 3) := by decide +kernel
theorem dL_road_28 : decode cL_road 28 = .ok (.iload_n 2, 1) := by decide +kernel
theorem dL_road_29 : decode cL_road 29 = .ok (.aload_n 3, 1) := by decide +kernel
theorem dL_road_30 : decode cL_road 30 = .ok (.invokestatic 44, 3) := by decide +kernel
theorem dL_road_33 : decode cL_road 33 = .ok (.aload_n 0, 1) := by decide +kernel
theorem dL_road_34 : decode cL_road 34 = .ok (.iload_n 1, 1) := by decide +kernel
theorem dL_road_35 : decode cL_road 35 = .ok (.iconst 0, 1) := by decide +kernel
theorem dL_road_36 : decode cL_road 36 = .ok (.invokevirtual 48, 3) := by decide +kernel
theorem dL_road_39 : decode cL_road 39 = .ok (.iload 4, 2) := by decide +kernel
theorem dL_road_41 : decode cL_road 41 = .ok (.if_icmp .ne 94, 3) := by decide +kernel
