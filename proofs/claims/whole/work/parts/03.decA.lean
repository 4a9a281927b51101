theorem dX0_init_0 : decode cX0_init 0 = .ok (.aload_n 0, 1) := by decide +kernel
theorem dX0_init_1 : decode cX0_init 1 = .ok (.invokespecial 3, 3) := by decide +kernel
theorem dX0_init_4 : decode cX0_init 4 = .ok (.aload_n 0, 1) := by decide +kernel
theorem dX0_init_5 : decode cX0_init 5 = .ok (.bipush 15, 2) := by decide +kernel
theorem dX0_init_7 : decode cX0_init 7 = .ok (.newarray .int, 2) := by decide +kernel
theorem dX0_init_9 : decode cX0_init 9 = .ok (.putfield 9, 3) := by decide +kernel
theorem dX0_init_12 : decode cX0_init 12 = .ok (.aload_n 0, 1) := by decide +kernel
theorem dX0_init_13 : decode cX0_init 13 = .ok (.bipush 15, 2) := by decide +kernel
theorem dX0_init_15 : decode cX0_init 15 = .ok (.newarray .int, 2) := by decide +kernel
theorem dX0_init_17 : decode cX0_init 17 = .ok (.putfield 15, 3) := by decide +kernel
theorem dX0_init_20 : decode cX0_init 20 = .ok (.return_, 1) := by decide +kernel
theorem dX0_clear_0 : decode cX0_clear 0 = .ok (.aload_n 0, 1) := by decide +kernel
theorem dX0_clear_1 : decode cX0_clear 1 = .ok (.iconst 0, 1) := by decide +kernel
theorem dX0_clear_2 : decode cX0_clear 2 = .ok (.putfield 18, 3) := by decide +kernel
theorem dX0_clear_5 : decode cX0_clear 5 = .ok (.return_, 1) := by decide +kernel
theorem dX0_add_0 : decode cX0_add 0 = .ok (.aload_n 0, 1) := by decide +kernel
theorem dX0_add_1 : decode cX0_add 1 = .ok (.getfield 18, 3) := by decide +kernel
theorem dX0_add_4 : decode cX0_add 4 = .ok (.bipush 15, 2) := by decide +kernel
theorem dX0_add_6 : decode cX0_add 6 = .ok (.if_icmp .lt 5, 3) := by decide +kernel
theorem dX0_add_9 : decode cX0_add 9 = .ok (.iconst 0, 1) := by decide +kernel
theorem dX0_add_10 : decode cX0_add 10 = .ok (.ireturn, 1) := by decide +kernel
theorem dX0_add_11 : decode cX0_add 11 = .ok (.aload_n 0, 1) := by decide +kernel
theorem dX0_add_12 : decode cX0_add 12 = .ok (.getfield 9, 3) := by decide +kernel
theorem dX0_add_15 : decode cX0_add 15 = .ok (.aload_n 0, 1) := by decide +kernel
theorem dX0_add_16 : decode cX0_add 16 = .ok (.getfield 18, 3) := by decide +kernel
theorem dX0_add_19 : decode cX0_add 19 = .ok (.iload_n 1, 1) := by decide +kernel
theorem dX0_add_20 : decode cX0_add 20 = .ok (.iastore, 1) := by decide +kernel
theorem dX0_add_21 : decode cX0_add 21 = .ok (.aload_n 0, 1) := by decide +kernel
theorem dX0_add_22 : decode cX0_add 22 = .ok (.getfield 15, 3) := by decide +kernel
theorem dX0_add_25 : decode cX0_add 25 = .ok (.aload_n 0, 1) := by decide +kernel
theorem dX0_add_26 : decode cX0_add 26 = .ok (.getfield 18, 3) := by decide +kernel
theorem dX0_add_29 : decode cX0_add 29 = .ok (.iload_n 2, 1) := by decide +kernel
theorem dX0_add_30 : decode cX0_add 30 = .ok (.iastore, 1) := by decide +kernel
theorem dX0_add_31 : decode cX0_add 31 = .ok (.aload_n 0, 1) := by decide +kernel
theorem dX0_add_32 : decode cX0_add 32 = .ok (.dup, 1) := by decide +kernel
theorem dX0_add_33 : decode cX0_add 33 = .ok (.getfield 18, 3) := by decide +kernel
theorem dX0_add_36 : decode cX0_add 36 = .ok (.iconst 1, 1) := by decide +kernel
theorem dX0_add_37 : decode cX0_add 37 = .ok (.iadd, 1) := by decide +kernel
theorem dX0_add_38 : decode cX0_add 38 = .ok (.putfield 18, 3) := by decide +kernel
theorem dX0_add_41 : decode cX0_add 41 = .ok (.iconst 1, 1) := by decide +kernel
theorem dX0_add_42 : decode cX0_add 42 = .ok (.ireturn, 1) := by decide +kernel
theorem dX0_firstWrong_0 : decode cX0_firstWrong 0 = .ok (.iconst 0, 1) := by decide +kernel
theorem dX0_firstWrong_1 : decode cX0_firstWrong 1 = .ok (.istore_n 2, 1) := by decide +kernel
theorem dX0_firstWrong_2 : decode cX0_firstWrong 2 = .ok (.iload_n 2, 1) := by decide +kernel
theorem dX0_firstWrong_3 : decode cX0_firstWrong 3 = .ok (.aload_n 0, 1) := by decide +kernel
theorem dX0_firstWrong_4 : decode cX0_firstWrong 4 = .ok (.getfield 18, 3) := by decide +kernel
theorem dX0_firstWrong_7 : decode cX0_firstWrong 7 = .ok (.if_icmp .ge 31, 3) := by decide +kernel
theorem dX0_firstWrong_10 : decode cX0_firstWrong 10 = .ok (.aload_n 1, 1) := by decide +kernel
theorem dX0_firstWrong_11 : decode cX0_firstWrong 11 = .ok (.getfield 22, 3) := by decide +kernel
theorem dX0_firstWrong_14 : decode cX0_firstWrong 14 = .ok (.aload_n 0, 1) := by decide +kernel
theorem dX0_firstWrong_15 : decode cX0_firstWrong 15 = .ok (.getfield 9, 3) := by decide +kernel
theorem dX0_firstWrong_18 : decode cX0_firstWrong 18 = .ok (.iload_n 2, 1) := by decide +kernel
theorem dX0_firstWrong_19 : decode cX0_firstWrong 19 = .ok (.iaload, 1) := by decide +kernel
theorem dX0_firstWrong_20 : decode cX0_firstWrong 20 = .ok (.iaload, 1) := by decide +kernel
theorem dX0_firstWrong_21 : decode cX0_firstWrong 21 = .ok (.aload_n 0, 1) := by decide +kernel
theorem dX0_firstWrong_22 : decode cX0_firstWrong 22 = .ok (.getfield 15, 3) := by decide +kernel
theorem dX0_firstWrong_25 : decode cX0_firstWrong 25 = .ok (.iload_n 2, 1) := by decide +kernel
theorem dX0_firstWrong_26 : decode cX0_firstWrong 26 = .ok (.iaload, 1) := by decide +kernel
theorem dX0_firstWrong_27 : decode cX0_firstWrong 27 = .ok (.if_icmp .eq 5, 3) := by decide +kernel
theorem dX0_firstWrong_30 : decode cX0_firstWrong 30 = .ok (.iload_n 2, 1) := by decide +kernel
theorem dX0_firstWrong_31 : decode cX0_firstWrong 31 = .ok (.ireturn, 1) := by decide +kernel
theorem dX0_firstWrong_32 : decode cX0_firstWrong 32 = .ok (.iinc 2 1, 3) := by decide +kernel
theorem dX0_firstWrong_35 : decode cX0_firstWrong 35 = .ok (.goto (-33), 3) := by decide +kernel
theorem dX0_firstWrong_38 : decode cX0_firstWrong 38 = .ok (.iconst (-1), 1) := by decide +kernel
theorem dX0_firstWrong_39 : decode cX0_firstWrong 39 = .ok (.ireturn, 1) := by decide +kernel
set_option maxRecDepth 20000 in
theorem ggX1_init_X5_init : GoodIn wsX1_init wsX5_init := goodIn_r _ [9, 10, 2, 3, 11, 12, 13, 14, 15, 16, 17, 18, 19, 20] (by decide +kernel) (by decide +kernel)
set_option maxRecDepth 20000 in
theorem gX1_init_X5_init_n9 : GoodIn wsX1_init (wsX5_init) := ggX1_init_X5_init
theorem dX1_init_0 : decode cX1_init 0 = .ok (.aload_n 0, 1) := by decide +kernel
theorem dX1_init_1 : decode cX1_init 1 = .ok (.invokespecial 1, 3) := by decide +kernel
theorem dX1_init_4 : decode cX1_init 4 = .ok (.aload_n 0, 1) := by decide +kernel
theorem dX1_init_5 : decode cX1_init 5 = .ok (.new 7, 3) := by decide +kernel
theorem dX1_init_8 : decode cX1_init 8 = .ok (.dup, 1) := by decide +kernel
theorem dX1_init_9 : decode cX1_init 9 = .ok (.invokespecial 9, 3) := by decide +kernel
theorem dX1_init_12 : decode cX1_init 12 = .ok (.putfield 10, 3) := by decide +kernel
theorem dX1_init_15 : decode cX1_init 15 = .ok (.return_, 1) := by decide +kernel
set_option maxRecDepth 20000 in
theorem ggX2_init_X5_init : GoodIn wsX2_init wsX5_init := goodIn_r _ [9, 10, 2, 3, 11, 12, 13, 17, 18, 19, 20, 21, 22, 23] (by decide +kernel) (by decide +kernel)
set_option maxRecDepth 20000 in
theorem gX2_init_X5_init_n17 : GoodIn wsX2_init (wsX5_init) := ggX2_init_X5_init
theorem dX2_init_0 : decode cX2_init 0 = .ok (.aload_n 0, 1) := by decide +kernel
theorem dX2_init_1 : decode cX2_init 1 = .ok (.invokespecial 3, 3) := by decide +kernel
theorem dX2_init_4 : decode cX2_init 4 = .ok (.aload_n 0, 1) := by decide +kernel
theorem dX2_init_5 : decode cX2_init 5 = .ok (.bipush 20, 2) := by decide +kernel
theorem dX2_init_7 : decode cX2_init 7 = .ok (.anewarray 9, 3) := by decide +kernel
theorem dX2_init_10 : decode cX2_init 10 = .ok (.putfield 11, 3) := by decide +kernel
theorem dX2_init_13 : decode cX2_init 13 = .ok (.iconst 0, 1) := by decide +kernel
theorem dX2_init_14 : decode cX2_init 14 = .ok (.istore_n 1, 1) := by decide +kernel
theorem dX2_init_15 : decode cX2_init 15 = .ok (.iload_n 1, 1) := by decide +kernel
theorem dX2_init_16 : decode cX2_init 16 = .ok (.bipush 20, 2) := by decide +kernel
theorem dX2_init_18 : decode cX2_init 18 = .ok (.if_icmp .ge 22, 3) := by decide +kernel
theorem dX2_init_21 : decode cX2_init 21 = .ok (.aload_n 0, 1) := by decide +kernel
theorem dX2_init_22 : decode cX2_init 22 = .ok (.getfield 11, 3) := by decide +kernel
theorem dX2_init_25 : decode cX2_init 25 = .ok (.iload_n 1, 1) := by decide +kernel
theorem dX2_init_26 : decode cX2_init 26 = .ok (.new 9, 3) := by decide +kernel
theorem dX2_init_29 : decode cX2_init 29 = .ok (.dup, 1) := by decide +kernel
theorem dX2_init_30 : decode cX2_init 30 = .ok (.invokespecial 17, 3) := by decide +kernel
theorem dX2_init_33 : decode cX2_init 33 = .ok (.aastore, 1) := by decide +kernel
theorem dX2_init_34 : decode cX2_init 34 = .ok (.iinc 1 1, 3) := by decide +kernel
theorem dX2_init_37 : decode cX2_init 37 = .ok (.goto (-22), 3) := by decide +kernel
theorem dX2_init_40 : decode cX2_init 40 = .ok (.return_, 1) := by decide +kernel
set_option maxRecDepth 20000 in
theorem ggX2_push_X5_become : GoodIn wsX2_push wsX5_become := goodIn_r _ [11, 12, 13, 14, 15, 16, 17, 18, 22, 23, 24, 25, 26, 27, 28] (by decide +kernel) (by decide +kernel)
set_option maxRecDepth 20000 in
theorem gX2_push_X5_become_n22 : GoodIn wsX2_push (wsX5_become) := ggX2_push_X5_become
theorem dX2_push_0 : decode cX2_push 0 = .ok (.aload_n 0, 1) := by decide +kernel
theorem dX2_push_1 : decode cX2_push 1 = .ok (.getfield 11, 3) := by decide +kernel
theorem dX2_push_4 : decode cX2_push 4 = .ok (.aload_n 0, 1) := by decide +kernel
theorem dX2_push_5 : decode cX2_push 5 = .ok (.getfield 18, 3) := by decide +kernel
theorem dX2_push_8 : decode cX2_push 8 = .ok (.aaload, 1) := by decide +kernel
theorem dX2_push_9 : decode cX2_push 9 = .ok (.aload_n 1, 1) := by decide +kernel
theorem dX2_push_10 : decode cX2_push 10 = .ok (.invokevirtual 22, 3) := by decide +kernel
theorem dX2_push_13 : decode cX2_push 13 = .ok (.aload_n 0, 1) := by decide +kernel
theorem dX2_push_14 : decode cX2_push 14 = .ok (.aload_n 0, 1) := by decide +kernel
theorem dX2_push_15 : decode cX2_push 15 = .ok (.getfield 18, 3) := by decide +kernel
theorem dX2_push_18 : decode cX2_push 18 = .ok (.iconst 1, 1) := by decide +kernel
theorem dX2_push_19 : decode cX2_push 19 = .ok (.iadd, 1) := by decide +kernel
theorem dX2_push_20 : decode cX2_push 20 = .ok (.bipush 20, 2) := by decide +kernel
theorem dX2_push_22 : decode cX2_push 22 = .ok (.irem, 1) := by decide +kernel
theorem dX2_push_23 : decode cX2_push 23 = .ok (.putfield 18, 3) := by decide +kernel
theorem dX2_push_26 : decode cX2_push 26 = .ok (.aload_n 0, 1) := by decide +kernel
theorem dX2_push_27 : decode cX2_push 27 = .ok (.bipush 20, 2) := by decide +kernel
theorem dX2_push_29 : decode cX2_push 29 = .ok (.aload_n 0, 1) := by decide +kernel
theorem dX2_push_30 : decode cX2_push 30 = .ok (.getfield 26, 3) := by decide +kernel
theorem dX2_push_33 : decode cX2_push 33 = .ok (.iconst 1, 1) := by decide +kernel
theorem dX2_push_34 : decode cX2_push 34 = .ok (.iadd, 1) := by decide +kernel
theorem dX2_push_35 : decode cX2_push 35 = .ok (.invokestatic 29, 3) := by decide +kernel
theorem dX2_push_38 : decode cX2_push 38 = .ok (.putfield 26, 3) := by decide +kernel
theorem dX2_push_41 : decode cX2_push 41 = .ok (.return_, 1) := by decide +kernel
set_option maxRecDepth 20000 in
theorem ggX2_pop_X5_become : GoodIn wsX2_pop wsX5_become := goodIn_r _ [7, 8, 9, 10, 11, 12, 13, 14, 18, 19, 20, 21, 22, 23, 24] (by decide +kernel) (by decide +kernel)
set_option maxRecDepth 20000 in
theorem gX2_pop_X5_become_n22 : GoodIn wsX2_pop (wsX5_become) := ggX2_pop_X5_become
theorem dX2_pop_0 : decode cX2_pop 0 = .ok (.aload_n 0, 1) := by decide +kernel
theorem dX2_pop_1 : decode cX2_pop 1 = .ok (.getfield 26, 3) := by decide +kernel
theorem dX2_pop_4 : decode cX2_pop 4 = .ok (.ifCond .ne 5, 3) := by decide +kernel
theorem dX2_pop_7 : decode cX2_pop 7 = .ok (.iconst 0, 1) := by decide +kernel
theorem dX2_pop_8 : decode cX2_pop 8 = .ok (.ireturn, 1) := by decide +kernel
theorem dX2_pop_9 : decode cX2_pop 9 = .ok (.aload_n 0, 1) := by decide +kernel
theorem dX2_pop_10 : decode cX2_pop 10 = .ok (.aload_n 0, 1) := by decide +kernel
theorem dX2_pop_11 : decode cX2_pop 11 = .ok (.getfield 18, 3) := by decide +kernel
theorem dX2_pop_14 : decode cX2_pop 14 = .ok (.bipush 20, 2) := by decide +kernel
theorem dX2_pop_16 : decode cX2_pop 16 = .ok (.iadd, 1) := by decide +kernel
theorem dX2_pop_17 : decode cX2_pop 17 = .ok (.iconst 1, 1) := by decide +kernel
theorem dX2_pop_18 : decode cX2_pop 18 = .ok (.isub, 1) := by decide +kernel
theorem dX2_pop_19 : decode cX2_pop 19 = .ok (.bipush 20, 2) := by decide +kernel
theorem dX2_pop_21 : decode cX2_pop 21 = .ok (.irem, 1) := by decide +kernel
theorem dX2_pop_22 : decode cX2_pop 22 = .ok (.putfield 18, 3) := by decide +kernel
theorem dX2_pop_25 : decode cX2_pop 25 = .ok (.aload_n 0, 1) := by decide +kernel
theorem dX2_pop_26 : decode cX2_pop 26 = .ok (.dup, 1) := by decide +kernel
theorem dX2_pop_27 : decode cX2_pop 27 = .ok (.getfield 26, 3) := by decide +kernel
theorem dX2_pop_30 : decode cX2_pop 30 = .ok (.iconst 1, 1) := by decide +kernel
theorem dX2_pop_31 : decode cX2_pop 31 = .ok (.isub, 1) := by decide +kernel
theorem dX2_pop_32 : decode cX2_pop 32 = .ok (.putfield 26, 3) := by decide +kernel
theorem dX2_pop_35 : decode cX2_pop 35 = .ok (.aload_n 1, 1) := by decide +kernel
theorem dX2_pop_36 : decode cX2_pop 36 = .ok (.aload_n 0, 1) := by decide +kernel
theorem dX2_pop_37 : decode cX2_pop 37 = .ok (.getfield 11, 3) := by decide +kernel
theorem dX2_pop_40 : decode cX2_pop 40 = .ok (.aload_n 0, 1) := by decide +kernel
theorem dX2_pop_41 : decode cX2_pop 41 = .ok (.getfield 18, 3) := by decide +kernel
theorem dX2_pop_44 : decode cX2_pop 44 = .ok (.aaload, 1) := by decide +kernel
theorem dX2_pop_45 : decode cX2_pop 45 = .ok (.invokevirtual 22, 3) := by decide +kernel
theorem dX2_pop_48 : decode cX2_pop 48 = .ok (.iconst 1, 1) := by decide +kernel
theorem dX2_pop_49 : decode cX2_pop 49 = .ok (.ireturn, 1) := by decide +kernel
theorem dX2_forget_0 : decode cX2_forget 0 = .ok (.aload_n 0, 1) := by decide +kernel
theorem dX2_forget_1 : decode cX2_forget 1 = .ok (.iconst 0, 1) := by decide +kernel
theorem dX2_forget_2 : decode cX2_forget 2 = .ok (.putfield 26, 3) := by decide +kernel
theorem dX2_forget_5 : decode cX2_forget 5 = .ok (.return_, 1) := by decide +kernel
theorem dX3_init_0 : decode cX3_init 0 = .ok (.aload_n 0, 1) := by decide +kernel
theorem dX3_init_1 : decode cX3_init 1 = .ok (.invokespecial 3, 3) := by decide +kernel
theorem dX3_init_4 : decode cX3_init 4 = .ok (.aload_n 0, 1) := by decide +kernel
theorem dX3_init_5 : decode cX3_init 5 = .ok (.bipush 6, 2) := by decide +kernel
theorem dX3_init_7 : decode cX3_init 7 = .ok (.newarray .int, 2) := by decide +kernel
theorem dX3_init_9 : decode cX3_init 9 = .ok (.putfield 9, 3) := by decide +kernel
theorem dX3_init_12 : decode cX3_init 12 = .ok (.aload_n 0, 1) := by decide +kernel
theorem dX3_init_13 : decode cX3_init 13 = .ok (.bipush 6, 2) := by decide +kernel
theorem dX3_init_15 : decode cX3_init 15 = .ok (.newarray .int, 2) := by decide +kernel
theorem dX3_init_17 : decode cX3_init 17 = .ok (.putfield 15, 3) := by decide +kernel
theorem dX3_init_20 : decode cX3_init 20 = .ok (.aload_n 0, 1) := by decide +kernel
theorem dX3_init_21 : decode cX3_init 21 = .ok (.bipush 10, 2) := by decide +kernel
theorem dX3_init_23 : decode cX3_init 23 = .ok (.newarray .int, 2) := by decide +kernel
theorem dX3_init_25 : decode cX3_init 25 = .ok (.putfield 18, 3) := by decide +kernel
theorem dX3_init_28 : decode cX3_init 28 = .ok (.return_, 1) := by decide +kernel
theorem dX3_clear_0 : decode cX3_clear 0 = .ok (.aload_n 0, 1) := by decide +kernel
theorem dX3_clear_1 : decode cX3_clear 1 = .ok (.iconst 0, 1) := by decide +kernel
theorem dX3_clear_2 : decode cX3_clear 2 = .ok (.putfield 21, 3) := by decide +kernel
theorem dX3_clear_5 : decode cX3_clear 5 = .ok (.return_, 1) := by decide +kernel
theorem dX3_add_0 : decode cX3_add 0 = .ok (.aload_n 0, 1) := by decide +kernel
theorem dX3_add_1 : decode cX3_add 1 = .ok (.getfield 21, 3) := by decide +kernel
theorem dX3_add_4 : decode cX3_add 4 = .ok (.bipush 6, 2) := by decide +kernel
theorem dX3_add_6 : decode cX3_add 6 = .ok (.if_icmp .lt 5, 3) := by decide +kernel
theorem dX3_add_9 : decode cX3_add 9 = .ok (.iconst 0, 1) := by decide +kernel
theorem dX3_add_10 : decode cX3_add 10 = .ok (.ireturn, 1) := by decide +kernel
theorem dX3_add_11 : decode cX3_add 11 = .ok (.aload_n 0, 1) := by decide +kernel
theorem dX3_add_12 : decode cX3_add 12 = .ok (.getfield 9, 3) := by decide +kernel
theorem dX3_add_15 : decode cX3_add 15 = .ok (.aload_n 0, 1) := by decide +kernel
theorem dX3_add_16 : decode cX3_add 16 = .ok (.getfield 21, 3) := by decide +kernel
theorem dX3_add_19 : decode cX3_add 19 = .ok (.iload_n 1, 1) := by decide +kernel
theorem dX3_add_20 : decode cX3_add 20 = .ok (.iastore, 1) := by decide +kernel
theorem dX3_add_21 : decode cX3_add 21 = .ok (.aload_n 0, 1) := by decide +kernel
theorem dX3_add_22 : decode cX3_add 22 = .ok (.getfield 15, 3) := by decide +kernel
theorem dX3_add_25 : decode cX3_add 25 = .ok (.aload_n 0, 1) := by decide +kernel
theorem dX3_add_26 : decode cX3_add 26 = .ok (.getfield 21, 3) := by decide +kernel
theorem dX3_add_29 : decode cX3_add 29 = .ok (.iload_n 2, 1) := by decide +kernel
theorem dX3_add_30 : decode cX3_add 30 = .ok (.iastore, 1) := by decide +kernel
theorem dX3_add_31 : decode cX3_add 31 = .ok (.aload_n 0, 1) := by decide +kernel
theorem dX3_add_32 : decode cX3_add 32 = .ok (.dup, 1) := by decide +kernel
theorem dX3_add_33 : decode cX3_add 33 = .ok (.getfield 21, 3) := by decide +kernel
theorem dX3_add_36 : decode cX3_add 36 = .ok (.iconst 1, 1) := by decide +kernel
theorem dX3_add_37 : decode cX3_add 37 = .ok (.iadd, 1) := by decide +kernel
theorem dX3_add_38 : decode cX3_add 38 = .ok (.putfield 21, 3) := by decide +kernel
theorem dX3_add_41 : decode cX3_add 41 = .ok (.iconst 1, 1) := by decide +kernel
theorem dX3_add_42 : decode cX3_add 42 = .ok (.ireturn, 1) := by decide +kernel
set_option maxRecDepth 20000 in
theorem ggX3_findShort_X3_fitsAll : GoodIn wsX3_findShort wsX3_fitsAll := goodIn_r _ [7, 8, 9, 10, 11, 12, 13, 14, 15, 16, 17, 18, 19, 20, 21, 22] (by decide +kernel) (by decide +kernel)
set_option maxRecDepth 20000 in
theorem gX3_findShort_X3_fitsAll : GoodIn wsX3_findShort (wsV RX3 36 RX3 yX3_fitsAll wsX3_fitsAll) := goodIn_app (goodIn_of _ (by decide +kernel)) ggX3_findShort_X3_fitsAll
theorem dX3_findShort_0 : decode cX3_findShort 0 = .ok (.aload_n 0, 1) := by decide +kernel
theorem dX3_findShort_1 : decode cX3_findShort 1 = .ok (.iconst 0, 1) := by decide +kernel
theorem dX3_findShort_2 : decode cX3_findShort 2 = .ok (.putfield 25, 3) := by decide +kernel
theorem dX3_findShort_5 : decode cX3_findShort 5 = .ok (.iconst 1, 1) := by decide +kernel
theorem dX3_findShort_6 : decode cX3_findShort 6 = .ok (.istore_n 2, 1) := by decide +kernel
theorem dX3_findShort_7 : decode cX3_findShort 7 = .ok (.iload_n 2, 1) := by decide +kernel
theorem dX3_findShort_8 : decode cX3_findShort 8 = .ok (.bipush 9, 2) := by decide +kernel
theorem dX3_findShort_10 : decode cX3_findShort 10 = .ok (.if_icmp .gt 75, 3) := by decide +kernel
theorem dX3_findShort_13 : decode cX3_findShort 13 = .ok (.aload_n 0, 1) := by decide +kernel
theorem dX3_findShort_14 : decode cX3_findShort 14 = .ok (.getfield 18, 3) := by decide +kernel
theorem dX3_findShort_17 : decode cX3_findShort 17 = .ok (.iload_n 2, 1) := by decide +kernel
theorem dX3_findShort_18 : decode cX3_findShort 18 = .ok (.iconst 0, 1) := by decide +kernel
theorem dX3_findShort_19 : decode cX3_findShort 19 = .ok (.iastore, 1) := by decide +kernel
theorem dX3_findShort_20 : decode cX3_findShort 20 = .ok (.iconst 0, 1) := by decide +kernel
theorem dX3_findShort_21 : decode cX3_findShort 21 = .ok (.istore_n 3, 1) := by decide +kernel
theorem dX3_findShort_22 : decode cX3_findShort 22 = .ok (.iload_n 3, 1) := by decide +kernel
theorem dX3_findShort_23 : decode cX3_findShort 23 = .ok (.aload_n 1, 1) := by decide +kernel
theorem dX3_findShort_24 : decode cX3_findShort 24 = .ok (.getfield 28, 3) := by decide +kernel
theorem dX3_findShort_27 : decode cX3_findShort 27 = .ok (.if_icmp .ge 52, 3) := by decide +kernel
theorem dX3_findShort_30 : decode cX3_findShort 30 = .ok (.iload_n 2, 1) := by decide +kernel
theorem dX3_findShort_31 : decode cX3_findShort 31 = .ok (.aload_n 1, 1) := by decide +kernel
theorem dX3_findShort_32 : decode cX3_findShort 32 = .ok (.getfield 33, 3) := by decide +kernel
theorem dX3_findShort_35 : decode cX3_findShort 35 = .ok (.if_icmp .gt 44, 3) := by decide +kernel
theorem dX3_findShort_38 : decode cX3_findShort 38 = .ok (.aload_n 0, 1) := by decide +kernel
theorem dX3_findShort_39 : decode cX3_findShort 39 = .ok (.iload_n 3, 1) := by decide +kernel
theorem dX3_findShort_40 : decode cX3_findShort 40 = .ok (.iload_n 2, 1) := by decide +kernel
theorem dX3_findShort_41 : decode cX3_findShort 41 = .ok (.aload_n 1, 1) := by decide +kernel
theorem dX3_findShort_42 : decode cX3_findShort 42 = .ok (.getfield 33, 3) := by decide +kernel
theorem dX3_findShort_45 : decode cX3_findShort 45 = .ok (.invokevirtual 36, 3) := by decide +kernel
theorem dX3_findShort_48 : decode cX3_findShort 48 = .ok (.ifCond .eq 25, 3) := by decide +kernel
theorem dX3_findShort_51 : decode cX3_findShort 51 = .ok (.aload_n 0, 1) := by decide +kernel
theorem dX3_findShort_52 : decode cX3_findShort 52 = .ok (.getfield 18, 3) := by decide +kernel
theorem dX3_findShort_55 : decode cX3_findShort 55 = .ok (.iload_n 2, 1) := by decide +kernel
theorem dX3_findShort_56 : decode cX3_findShort 56 = .ok (.dup2, 1) := by decide +kernel
theorem dX3_findShort_57 : decode cX3_findShort 57 = .ok (.iaload, 1) := by decide +kernel
theorem dX3_findShort_58 : decode cX3_findShort 58 = .ok (.iconst 1, 1) := by decide +kernel
theorem dX3_findShort_59 : decode cX3_findShort 59 = .ok (.iload_n 3, 1) := by decide +kernel
theorem dX3_findShort_60 : decode cX3_findShort 60 = .ok (.ishl, 1) := by decide +kernel
theorem dX3_findShort_61 : decode cX3_findShort 61 = .ok (.ior, 1) := by decide +kernel
theorem dX3_findShort_62 : decode cX3_findShort 62 = .ok (.iastore, 1) := by decide +kernel
theorem dX3_findShort_63 : decode cX3_findShort 63 = .ok (.aload_n 0, 1) := by decide +kernel
theorem dX3_findShort_64 : decode cX3_findShort 64 = .ok (.dup, 1) := by decide +kernel
theorem dX3_findShort_65 : decode cX3_findShort 65 = .ok (.getfield 25, 3) := by decide +kernel
theorem dX3_findShort_68 : decode cX3_findShort 68 = .ok (.iconst 1, 1) := by decide +kernel
theorem dX3_findShort_69 : decode cX3_findShort 69 = .ok (.iadd, 1) := by decide +kernel
theorem dX3_findShort_70 : decode cX3_findShort 70 = .ok (.putfield 25, 3) := by decide +kernel
theorem dX3_findShort_73 : decode cX3_findShort 73 = .ok (.iinc 3 1, 3) := by decide +kernel
theorem dX3_findShort_76 : decode cX3_findShort 76 = .ok (.goto (-54), 3) := by decide +kernel
theorem dX3_findShort_79 : decode cX3_findShort 79 = .ok (.iinc 2 1, 3) := by decide +kernel
theorem dX3_findShort_82 : decode cX3_findShort 82 = .ok (.goto (-75), 3) := by decide +kernel
theorem dX3_findShort_85 : decode cX3_findShort 85 = .ok (.return_, 1) := by decide +kernel
set_option maxRecDepth 20000 in
theorem ggX3_fitsAll_J6_bitCount_0f7a4 : GoodIn wsX3_fitsAll wsJ6_bitCount_0f7a4 := goodIn_r _ [7, 8, 9, 10] (by decide +kernel) (by decide +kernel)
set_option maxRecDepth 20000 in
theorem gX3_fitsAll_J6_bitCount_0f7a4 : GoodIn wsX3_fitsAll (va_wsS RX3 40 yJ6_bitCount_0f7a4 wsJ6_bitCount_0f7a4) := goodIn_app (goodIn_of _ (by decide +kernel)) ggX3_fitsAll_J6_bitCount_0f7a4
theorem dX3_fitsAll_0 : decode cX3_fitsAll 0 = .ok (.iconst 0, 1) := by decide +kernel
theorem dX3_fitsAll_1 : decode cX3_fitsAll 1 = .ok (.istore 4, 2) := by decide +kernel
theorem dX3_fitsAll_3 : decode cX3_fitsAll 3 = .ok (.iload 4, 2) := by decide +kernel
theorem dX3_fitsAll_5 : decode cX3_fitsAll 5 = .ok (.aload_n 0, 1) := by decide +kernel
theorem dX3_fitsAll_6 : decode cX3_fitsAll 6 = .ok (.getfield 21, 3) := by decide +kernel
theorem dX3_fitsAll_9 : decode cX3_fitsAll 9 = .ok (.if_icmp .ge 51, 3) := by decide +kernel
theorem dX3_fitsAll_12 : decode cX3_fitsAll 12 = .ok (.aload_n 0, 1) := by decide +kernel
theorem dX3_fitsAll_13 : decode cX3_fitsAll 13 = .ok (.getfield 9, 3) := by decide +kernel
theorem dX3_fitsAll_16 : decode cX3_fitsAll 16 = .ok (.iload 4, 2) := by decide +kernel
theorem dX3_fitsAll_18 : decode cX3_fitsAll 18 = .ok (.iaload, 1) := by decide +kernel
theorem dX3_fitsAll_19 : decode cX3_fitsAll 19 = .ok (.iload_n 1, 1) := by decide +kernel
theorem dX3_fitsAll_20 : decode cX3_fitsAll 20 = .ok (.ishr, 1) := by decide +kernel
theorem dX3_fitsAll_21 : decode cX3_fitsAll 21 = .ok (.iconst 1, 1) := by decide +kernel
theorem dX3_fitsAll_22 : decode cX3_fitsAll 22 = .ok (.iand, 1) := by decide +kernel
theorem dX3_fitsAll_23 : decode cX3_fitsAll 23 = .ok (.iload_n 2, 1) := by decide +kernel
theorem dX3_fitsAll_24 : decode cX3_fitsAll 24 = .ok (.imul, 1) := by decide +kernel
theorem dX3_fitsAll_25 : decode cX3_fitsAll 25 = .ok (.istore 5, 2) := by decide +kernel
theorem dX3_fitsAll_27 : decode cX3_fitsAll 27 = .ok (.aload_n 0, 1) := by decide +kernel
theorem dX3_fitsAll_28 : decode cX3_fitsAll 28 = .ok (.getfield 9, 3) := by decide +kernel
theorem dX3_fitsAll_31 : decode cX3_fitsAll 31 = .ok (.iload 4, 2) := by decide +kernel
theorem dX3_fitsAll_33 : decode cX3_fitsAll 33 = .ok (.iaload, 1) := by decide +kernel
theorem dX3_fitsAll_34 : decode cX3_fitsAll 34 = .ok (.invokestatic 40, 3) := by decide +kernel
theorem dX3_fitsAll_37 : decode cX3_fitsAll 37 = .ok (.iload_n 3, 1) := by decide +kernel
theorem dX3_fitsAll_38 : decode cX3_fitsAll 38 = .ok (.imul, 1) := by decide +kernel
theorem dX3_fitsAll_39 : decode cX3_fitsAll 39 = .ok (.iload 5, 2) := by decide +kernel
theorem dX3_fitsAll_41 : decode cX3_fitsAll 41 = .ok (.isub, 1) := by decide +kernel
theorem dX3_fitsAll_42 : decode cX3_fitsAll 42 = .ok (.aload_n 0, 1) := by decide +kernel
theorem dX3_fitsAll_43 : decode cX3_fitsAll 43 = .ok (.getfield 15, 3) := by decide +kernel
theorem dX3_fitsAll_46 : decode cX3_fitsAll 46 = .ok (.iload 4, 2) := by decide +kernel
theorem dX3_fitsAll_48 : decode cX3_fitsAll 48 = .ok (.iaload, 1) := by decide +kernel
theorem dX3_fitsAll_49 : decode cX3_fitsAll 49 = .ok (.if_icmp .eq 5, 3) := by decide +kernel
theorem dX3_fitsAll_52 : decode cX3_fitsAll 52 = .ok (.iconst 0, 1) := by decide +kernel
theorem dX3_fitsAll_53 : decode cX3_fitsAll 53 = .ok (.ireturn, 1) := by decide +kernel
theorem dX3_fitsAll_54 : decode cX3_fitsAll 54 = .ok (.iinc 4 1, 3) := by decide +kernel
theorem dX3_fitsAll_57 : decode cX3_fitsAll 57 = .ok (.goto (-54), 3) := by decide +kernel
theorem dX3_fitsAll_60 : decode cX3_fitsAll 60 = .ok (.iconst 1, 1) := by decide +kernel
theorem dX3_fitsAll_61 : decode cX3_fitsAll 61 = .ok (.ireturn, 1) := by decide +kernel
theorem dX3_fitAt_0 : decode cX3_fitAt 0 = .ok (.iconst 0, 1) := by decide +kernel
theorem dX3_fitAt_1 : decode cX3_fitAt 1 = .ok (.istore_n 3, 1) := by decide +kernel
theorem dX3_fitAt_2 : decode cX3_fitAt 2 = .ok (.iconst 0, 1) := by decide +kernel
theorem dX3_fitAt_3 : decode cX3_fitAt 3 = .ok (.istore 4, 2) := by decide +kernel
theorem dX3_fitAt_5 : decode cX3_fitAt 5 = .ok (.iload 4, 2) := by decide +kernel
theorem dX3_fitAt_7 : decode cX3_fitAt 7 = .ok (.aload_n 2, 1) := by decide +kernel
theorem dX3_fitAt_8 : decode cX3_fitAt 8 = .ok (.getfield 28, 3) := by decide +kernel
theorem dX3_fitAt_11 : decode cX3_fitAt 11 = .ok (.if_icmp .ge 57, 3) := by decide +kernel
theorem dX3_fitAt_14 : decode cX3_fitAt 14 = .ok (.iconst 1, 1) := by decide +kernel
theorem dX3_fitAt_15 : decode cX3_fitAt 15 = .ok (.istore 5, 2) := by decide +kernel
theorem dX3_fitAt_17 : decode cX3_fitAt 17 = .ok (.iload 5, 2) := by decide +kernel
theorem dX3_fitAt_19 : decode cX3_fitAt 19 = .ok (.bipush 9, 2) := by decide +kernel
theorem dX3_fitAt_21 : decode cX3_fitAt 21 = .ok (.if_icmp .gt 41, 3) := by decide +kernel
theorem dX3_fitAt_24 : decode cX3_fitAt 24 = .ok (.aload_n 0, 1) := by decide +kernel
theorem dX3_fitAt_25 : decode cX3_fitAt 25 = .ok (.getfield 18, 3) := by decide +kernel
theorem dX3_fitAt_28 : decode cX3_fitAt 28 = .ok (.iload 5, 2) := by decide +kernel
theorem dX3_fitAt_30 : decode cX3_fitAt 30 = .ok (.iaload, 1) := by decide +kernel
theorem dX3_fitAt_31 : decode cX3_fitAt 31 = .ok (.iload 4, 2) := by decide +kernel
theorem dX3_fitAt_33 : decode cX3_fitAt 33 = .ok (.ishr, 1) := by decide +kernel
theorem dX3_fitAt_34 : decode cX3_fitAt 34 = .ok (.iconst 1, 1) := by decide +kernel
theorem dX3_fitAt_35 : decode cX3_fitAt 35 = .ok (.iand, 1) := by decide +kernel
theorem dX3_fitAt_36 : decode cX3_fitAt 36 = .ok (.ifCond .eq 20, 3) := by decide +kernel
theorem dX3_fitAt_39 : decode cX3_fitAt 39 = .ok (.iload_n 3, 1) := by decide +kernel
theorem dX3_fitAt_40 : decode cX3_fitAt 40 = .ok (.iload_n 1, 1) := by decide +kernel
theorem dX3_fitAt_41 : decode cX3_fitAt 41 = .ok (.if_icmp .ne 12, 3) := by decide +kernel
theorem dX3_fitAt_44 : decode cX3_fitAt 44 = .ok (.bipush 10, 2) := by decide +kernel
theorem dX3_fitAt_46 : decode cX3_fitAt 46 = .ok (.iload 4, 2) := by decide +kernel
theorem dX3_fitAt_48 : decode cX3_fitAt 48 = .ok (.imul, 1) := by decide +kernel
theorem dX3_fitAt_49 : decode cX3_fitAt 49 = .ok (.iload 5, 2) := by decide +kernel
theorem dX3_fitAt_51 : decode cX3_fitAt 51 = .ok (.iadd, 1) := by decide +kernel
theorem dX3_fitAt_52 : decode cX3_fitAt 52 = .ok (.ireturn, 1) := by decide +kernel
theorem dX3_fitAt_53 : decode cX3_fitAt 53 = .ok (.iinc 3 1, 3) := by decide +kernel
theorem dX3_fitAt_56 : decode cX3_fitAt 56 = .ok (.iinc 5 1, 3) := by decide +kernel
theorem dX3_fitAt_59 : decode cX3_fitAt 59 = .ok (.goto (-42), 3) := by decide +kernel
theorem dX3_fitAt_62 : decode cX3_fitAt 62 = .ok (.iinc 4 1, 3) := by decide +kernel
theorem dX3_fitAt_65 : decode cX3_fitAt 65 = .ok (.goto (-60), 3) := by decide +kernel
theorem dX3_fitAt_68 : decode cX3_fitAt 68 = .ok (.iconst (-1), 1) := by decide +kernel
theorem dX3_fitAt_69 : decode cX3_fitAt 69 = .ok (.ireturn, 1) := by decide +kernel
set_option maxRecDepth 20000 in
theorem ggX3_nextSet_X3_greatestAlike : GoodIn wsX3_nextSet wsX3_greatestAlike := goodIn_r _ [6, 1, 7, 8, 9, 10, 11, 12, 13, 14, 15, 16, 17, 18, 19, 20, 21, 22, 23] (by decide +kernel) (by decide +kernel)
set_option maxRecDepth 20000 in
theorem gX3_nextSet_X3_greatestAlike : GoodIn wsX3_nextSet (wsV RX3 46 RX3 yX3_greatestAlike wsX3_greatestAlike) := goodIn_app (goodIn_of _ (by decide +kernel)) ggX3_nextSet_X3_greatestAlike
theorem dX3_nextSet_0 : decode cX3_nextSet 0 = .ok (.iconst (-1), 1) := by decide +kernel
theorem dX3_nextSet_1 : decode cX3_nextSet 1 = .ok (.istore_n 2, 1) := by decide +kernel
theorem dX3_nextSet_2 : decode cX3_nextSet 2 = .ok (.aload_n 0, 1) := by decide +kernel
theorem dX3_nextSet_3 : decode cX3_nextSet 3 = .ok (.getfield 25, 3) := by decide +kernel
theorem dX3_nextSet_6 : decode cX3_nextSet 6 = .ok (.istore_n 3, 1) := by decide +kernel
theorem dX3_nextSet_7 : decode cX3_nextSet 7 = .ok (.iconst 1, 1) := by decide +kernel
theorem dX3_nextSet_8 : decode cX3_nextSet 8 = .ok (.istore 4, 2) := by decide +kernel
theorem dX3_nextSet_10 : decode cX3_nextSet 10 = .ok (.iload 4, 2) := by decide +kernel
theorem dX3_nextSet_12 : decode cX3_nextSet 12 = .ok (.iconst 1, 1) := by decide +kernel
theorem dX3_nextSet_13 : decode cX3_nextSet 13 = .ok (.aload_n 1, 1) := by decide +kernel
theorem dX3_nextSet_14 : decode cX3_nextSet 14 = .ok (.getfield 28, 3) := by decide +kernel
theorem dX3_nextSet_17 : decode cX3_nextSet 17 = .ok (.ishl, 1) := by decide +kernel
theorem dX3_nextSet_18 : decode cX3_nextSet 18 = .ok (.if_icmp .ge 29, 3) := by decide +kernel
theorem dX3_nextSet_21 : decode cX3_nextSet 21 = .ok (.aload_n 0, 1) := by decide +kernel
theorem dX3_nextSet_22 : decode cX3_nextSet 22 = .ok (.iload 4, 2) := by decide +kernel
theorem dX3_nextSet_24 : decode cX3_nextSet 24 = .ok (.invokevirtual 46, 3) := by decide +kernel
theorem dX3_nextSet_27 : decode cX3_nextSet 27 = .ok (.istore 5, 2) := by decide +kernel
theorem dX3_nextSet_29 : decode cX3_nextSet 29 = .ok (.iload 5, 2) := by decide +kernel
theorem dX3_nextSet_31 : decode cX3_nextSet 31 = .ok (.iload_n 3, 1) := by decide +kernel
theorem dX3_nextSet_32 : decode cX3_nextSet 32 = .ok (.if_icmp .ge 9, 3) := by decide +kernel
theorem dX3_nextSet_35 : decode cX3_nextSet 35 = .ok (.iload 5, 2) := by decide +kernel
theorem dX3_nextSet_37 : decode cX3_nextSet 37 = .ok (.istore_n 3, 1) := by decide +kernel
theorem dX3_nextSet_38 : decode cX3_nextSet 38 = .ok (.iload 4, 2) := by decide +kernel
theorem dX3_nextSet_40 : decode cX3_nextSet 40 = .ok (.istore_n 2, 1) := by decide +kernel
theorem dX3_nextSet_41 : decode cX3_nextSet 41 = .ok (.iinc 4 1, 3) := by decide +kernel
theorem dX3_nextSet_44 : decode cX3_nextSet 44 = .ok (.goto (-34), 3) := by decide +kernel
theorem dX3_nextSet_47 : decode cX3_nextSet 47 = .ok (.iload_n 2, 1) := by decide +kernel
theorem dX3_nextSet_48 : decode cX3_nextSet 48 = .ok (.ireturn, 1) := by decide +kernel
set_option maxRecDepth 20000 in
theorem ggX3_greatestAlike_J6_bitCount_0f7a4 : GoodIn wsX3_greatestAlike wsJ6_bitCount_0f7a4 := goodIn_r _ [10, 11, 12, 13] (by decide +kernel) (by decide +kernel)
set_option maxRecDepth 20000 in
theorem gX3_greatestAlike_J6_bitCount_0f7a4 : GoodIn wsX3_greatestAlike (va_wsS RX3 40 yJ6_bitCount_0f7a4 wsJ6_bitCount_0f7a4) := goodIn_app (goodIn_of _ (by decide +kernel)) ggX3_greatestAlike_J6_bitCount_0f7a4
theorem dX3_greatestAlike_0 : decode cX3_greatestAlike 0 = .ok (.aload_n 0, 1) := by decide +kernel
theorem dX3_greatestAlike_1 : decode cX3_greatestAlike 1 = .ok (.getfield 25, 3) := by decide +kernel
theorem dX3_greatestAlike_4 : decode cX3_greatestAlike 4 = .ok (.istore_n 2, 1) := by decide +kernel
theorem dX3_greatestAlike_5 : decode cX3_greatestAlike 5 = .ok (.iconst 0, 1) := by decide +kernel
theorem dX3_greatestAlike_6 : decode cX3_greatestAlike 6 = .ok (.istore_n 3, 1) := by decide +kernel
theorem dX3_greatestAlike_7 : decode cX3_greatestAlike 7 = .ok (.iconst 1, 1) := by decide +kernel
theorem dX3_greatestAlike_8 : decode cX3_greatestAlike 8 = .ok (.istore 4, 2) := by decide +kernel
theorem dX3_greatestAlike_10 : decode cX3_greatestAlike 10 = .ok (.iload 4, 2) := by decide +kernel
theorem dX3_greatestAlike_12 : decode cX3_greatestAlike 12 = .ok (.bipush 9, 2) := by decide +kernel
theorem dX3_greatestAlike_14 : decode cX3_greatestAlike 14 = .ok (.if_icmp .gt 35, 3) := by decide +kernel
theorem dX3_greatestAlike_17 : decode cX3_greatestAlike 17 = .ok (.aload_n 0, 1) := by decide +kernel
theorem dX3_greatestAlike_18 : decode cX3_greatestAlike 18 = .ok (.getfield 18, 3) := by decide +kernel
theorem dX3_greatestAlike_21 : decode cX3_greatestAlike 21 = .ok (.iload 4, 2) := by decide +kernel
theorem dX3_greatestAlike_23 : decode cX3_greatestAlike 23 = .ok (.iaload, 1) := by decide +kernel
theorem dX3_greatestAlike_24 : decode cX3_greatestAlike 24 = .ok (.iload_n 1, 1) := by decide +kernel
theorem dX3_greatestAlike_25 : decode cX3_greatestAlike 25 = .ok (.iand, 1) := by decide +kernel
theorem dX3_greatestAlike_26 : decode cX3_greatestAlike 26 = .ok (.invokestatic 40, 3) := by decide +kernel
theorem dX3_greatestAlike_29 : decode cX3_greatestAlike 29 = .ok (.istore 5, 2) := by decide +kernel
theorem dX3_greatestAlike_31 : decode cX3_greatestAlike 31 = .ok (.iload_n 2, 1) := by decide +kernel
theorem dX3_greatestAlike_32 : decode cX3_greatestAlike 32 = .ok (.iload 5, 2) := by decide +kernel
theorem dX3_greatestAlike_34 : decode cX3_greatestAlike 34 = .ok (.isub, 1) := by decide +kernel
theorem dX3_greatestAlike_35 : decode cX3_greatestAlike 35 = .ok (.istore_n 2, 1) := by decide +kernel
theorem dX3_greatestAlike_36 : decode cX3_greatestAlike 36 = .ok (.iload_n 3, 1) := by decide +kernel
theorem dX3_greatestAlike_37 : decode cX3_greatestAlike 37 = .ok (.iload 5, 2) := by decide +kernel
theorem dX3_greatestAlike_39 : decode cX3_greatestAlike 39 = .ok (.invokestatic 49, 3) := by decide +kernel
theorem dX3_greatestAlike_42 : decode cX3_greatestAlike 42 = .ok (.istore_n 3, 1) := by decide +kernel
theorem dX3_greatestAlike_43 : decode cX3_greatestAlike 43 = .ok (.iinc 4 1, 3) := by decide +kernel
theorem dX3_greatestAlike_46 : decode cX3_greatestAlike 46 = .ok (.goto (-36), 3) := by decide +kernel
theorem dX3_greatestAlike_49 : decode cX3_greatestAlike 49 = .ok (.iload_n 3, 1) := by decide +kernel
theorem dX3_greatestAlike_50 : decode cX3_greatestAlike 50 = .ok (.iload_n 2, 1) := by decide +kernel
theorem dX3_greatestAlike_51 : decode cX3_greatestAlike 51 = .ok (.invokestatic 49, 3) := by decide +kernel
theorem dX3_greatestAlike_54 : decode cX3_greatestAlike 54 = .ok (.ireturn, 1) := by decide +kernel
theorem dX4_init_0 : decode cX4_init 0 = .ok (.aload_n 0, 1) := by decide +kernel
theorem dX4_init_1 : decode cX4_init 1 = .ok (.invokespecial 3, 3) := by decide +kernel
theorem dX4_init_4 : decode cX4_init 4 = .ok (.aload_n 0, 1) := by decide +kernel
theorem dX4_init_5 : decode cX4_init 5 = .ok (.bipush 30, 2) := by decide +kernel
theorem dX4_init_7 : decode cX4_init 7 = .ok (.newarray .int, 2) := by decide +kernel
theorem dX4_init_9 : decode cX4_init 9 = .ok (.putfield 11, 3) := by decide +kernel
theorem dX4_init_12 : decode cX4_init 12 = .ok (.aload_n 0, 1) := by decide +kernel
theorem dX4_init_13 : decode cX4_init 13 = .ok (.bipush 30, 2) := by decide +kernel
theorem dX4_init_15 : decode cX4_init 15 = .ok (.newarray .int, 2) := by decide +kernel
theorem dX4_init_17 : decode cX4_init 17 = .ok (.putfield 15, 3) := by decide +kernel
theorem dX4_init_20 : decode cX4_init 20 = .ok (.aload_n 0, 1) := by decide +kernel
theorem dX4_init_21 : decode cX4_init 21 = .ok (.bipush 7, 2) := by decide +kernel
theorem dX4_init_23 : decode cX4_init 23 = .ok (.newarray .int, 2) := by decide +kernel
theorem dX4_init_25 : decode cX4_init 25 = .ok (.putfield 18, 3) := by decide +kernel
theorem dX4_init_28 : decode cX4_init 28 = .ok (.aload_n 0, 1) := by decide +kernel
theorem dX4_init_29 : decode cX4_init 29 = .ok (.bipush 6, 2) := by decide +kernel
theorem dX4_init_31 : decode cX4_init 31 = .ok (.newarray .int, 2) := by decide +kernel
theorem dX4_init_33 : decode cX4_init 33 = .ok (.putfield 21, 3) := by decide +kernel
theorem dX4_init_36 : decode cX4_init 36 = .ok (.aload_n 0, 1) := by decide +kernel
theorem dX4_init_37 : decode cX4_init 37 = .ok (.bipush 6, 2) := by decide +kernel
theorem dX4_init_39 : decode cX4_init 39 = .ok (.newarray .int, 2) := by decide +kernel
theorem dX4_init_41 : decode cX4_init 41 = .ok (.putfield 24, 3) := by decide +kernel
theorem dX4_init_44 : decode cX4_init 44 = .ok (.return_, 1) := by decide +kernel
set_option maxRecDepth 20000 in
theorem ggX4_find_X4_layOut : GoodIn wsX4_find wsX4_layOut := goodIn_r _ [10, 11, 12, 13, 14, 15, 16, 17, 18, 19, 20, 21, 22, 23, 46, 47, 48, 49, 50, 51, 52, 53] (by decide +kernel) (by decide +kernel)
set_option maxRecDepth 20000 in
theorem gX4_find_X4_layOut : GoodIn wsX4_find (wsV RX4 49 RX4 yX4_layOut wsX4_layOut) := goodIn_app (goodIn_of _ (by decide +kernel)) ggX4_find_X4_layOut
set_option maxRecDepth 20000 in
theorem ggX4_find_X4_tryFrom : GoodIn wsX4_find wsX4_tryFrom := goodIn_r _ [27, 4, 5, 2, 1, 28, 29, 30, 31, 32, 33, 11, 12, 24, 25, 26, 9, 46, 47, 48, 49, 50, 51, 52, 53] (by decide +kernel) (by decide +kernel)
set_option maxRecDepth 20000 in
theorem gX4_find_X4_tryFrom : GoodIn wsX4_find (wsV RX4 53 RX4 yX4_tryFrom wsX4_tryFrom) := goodIn_app (goodIn_of _ (by decide +kernel)) ggX4_find_X4_tryFrom
theorem dX4_find_0 : decode cX4_find 0 = .ok (.aload_n 0, 1) := by decide +kernel
theorem dX4_find_1 : decode cX4_find 1 = .ok (.aload_n 2, 1) := by decide +kernel
theorem dX4_find_2 : decode cX4_find 2 = .ok (.getfield 27, 3) := by decide +kernel
theorem dX4_find_5 : decode cX4_find 5 = .ok (.putfield 33, 3) := by decide +kernel
theorem dX4_find_8 : decode cX4_find 8 = .ok (.aload_n 0, 1) := by decide +kernel
theorem dX4_find_9 : decode cX4_find 9 = .ok (.iload_n 3, 1) := by decide +kernel
theorem dX4_find_10 : decode cX4_find 10 = .ok (.putfield 34, 3) := by decide +kernel
theorem dX4_find_13 : decode cX4_find 13 = .ok (.aload_n 0, 1) := by decide +kernel
theorem dX4_find_14 : decode cX4_find 14 = .ok (.ldc 37, 2) := by decide +kernel
theorem dX4_find_16 : decode cX4_find 16 = .ok (.putfield 38, 3) := by decide +kernel
theorem dX4_find_19 : decode cX4_find 19 = .ok (.aload_n 0, 1) := by decide +kernel
theorem dX4_find_20 : decode cX4_find 20 = .ok (.getfield 18, 3) := by decide +kernel
theorem dX4_find_23 : decode cX4_find 23 = .ok (.aload_n 0, 1) := by decide +kernel
theorem dX4_find_24 : decode cX4_find 24 = .ok (.getfield 33, 3) := by decide +kernel
theorem dX4_find_27 : decode cX4_find 27 = .ok (.iconst 0, 1) := by decide +kernel
theorem dX4_find_28 : decode cX4_find 28 = .ok (.iastore, 1) := by decide +kernel
theorem dX4_find_29 : decode cX4_find 29 = .ok (.aload_n 0, 1) := by decide +kernel
theorem dX4_find_30 : decode cX4_find 30 = .ok (.getfield 33, 3) := by decide +kernel
theorem dX4_find_33 : decode cX4_find 33 = .ok (.iconst 1, 1) := by decide +kernel
theorem dX4_find_34 : decode cX4_find 34 = .ok (.isub, 1) := by decide +kernel
theorem dX4_find_35 : decode cX4_find 35 = .ok (.istore 4, 2) := by decide +kernel
theorem dX4_find_37 : decode cX4_find 37 = .ok (.iload 4, 2) := by decide +kernel
theorem dX4_find_39 : decode cX4_find 39 = .ok (.ifCond .lt 46, 3) := by decide +kernel
theorem dX4_find_42 : decode cX4_find 42 = .ok (.aload_n 0, 1) := by decide +kernel
theorem dX4_find_43 : decode cX4_find 43 = .ok (.getfield 18, 3) := by decide +kernel
theorem dX4_find_46 : decode cX4_find 46 = .ok (.iload 4, 2) := by decide +kernel
theorem dX4_find_48 : decode cX4_find 48 = .ok (.aload_n 0, 1) := by decide +kernel
theorem dX4_find_49 : decode cX4_find 49 = .ok (.getfield 18, 3) := by decide +kernel
theorem dX4_find_52 : decode cX4_find 52 = .ok (.iload 4, 2) := by decide +kernel
theorem dX4_find_54 : decode cX4_find 54 = .ok (.iconst 1, 1) := by decide +kernel
theorem dX4_find_55 : decode cX4_find 55 = .ok (.iadd, 1) := by decide +kernel
theorem dX4_find_56 : decode cX4_find 56 = .ok (.iaload, 1) := by decide +kernel
theorem dX4_find_57 : decode cX4_find 57 = .ok (.aload_n 0, 1) := by decide +kernel
theorem dX4_find_58 : decode cX4_find 58 = .ok (.iload 4, 2) := by decide +kernel
theorem dX4_find_60 : decode cX4_find 60 = .ok (.aload_n 1, 1) := by decide +kernel
theorem dX4_find_61 : decode cX4_find 61 = .ok (.getfield 41, 3) := by decide +kernel
theorem dX4_find_64 : decode cX4_find 64 = .ok (.iload 4, 2) := by decide +kernel
theorem dX4_find_66 : decode cX4_find 66 = .ok (.iaload, 1) := by decide +kernel
theorem dX4_find_67 : decode cX4_find 67 = .ok (.aload_n 2, 1) := by decide +kernel
theorem dX4_find_68 : decode cX4_find 68 = .ok (.getfield 46, 3) := by decide +kernel
theorem dX4_find_71 : decode cX4_find 71 = .ok (.iload 4, 2) := by decide +kernel
theorem dX4_find_73 : decode cX4_find 73 = .ok (.iaload, 1) := by decide +kernel
theorem dX4_find_74 : decode cX4_find 74 = .ok (.invokevirtual 49, 3) := by decide +kernel
theorem dX4_find_77 : decode cX4_find 77 = .ok (.iadd, 1) := by decide +kernel
theorem dX4_find_78 : decode cX4_find 78 = .ok (.iastore, 1) := by decide +kernel
theorem dX4_find_79 : decode cX4_find 79 = .ok (.iinc 4 (-1), 3) := by decide +kernel
theorem dX4_find_82 : decode cX4_find 82 = .ok (.goto (-45), 3) := by decide +kernel
theorem dX4_find_85 : decode cX4_find 85 = .ok (.aload_n 0, 1) := by decide +kernel
theorem dX4_find_86 : decode cX4_find 86 = .ok (.iconst 0, 1) := by decide +kernel
theorem dX4_find_87 : decode cX4_find 87 = .ok (.iconst 0, 1) := by decide +kernel
theorem dX4_find_88 : decode cX4_find 88 = .ok (.iconst 0, 1) := by decide +kernel
theorem dX4_find_89 : decode cX4_find 89 = .ok (.invokevirtual 53, 3) := by decide +kernel
theorem dX4_find_92 : decode cX4_find 92 = .ok (.aload_n 0, 1) := by decide +kernel
theorem dX4_find_93 : decode cX4_find 93 = .ok (.getfield 38, 3) := by decide +kernel
theorem dX4_find_96 : decode cX4_find 96 = .ok (.ldc 37, 2) := by decide +kernel
theorem dX4_find_98 : decode cX4_find 98 = .ok (.if_icmp .eq 7, 3) := by decide +kernel
theorem dX4_find_101 : decode cX4_find 101 = .ok (.iconst 1, 1) := by decide +kernel
theorem dX4_find_102 : decode cX4_find 102 = .ok (.goto 4, 3) := by decide +kernel
theorem dX4_find_105 : decode cX4_find 105 = .ok (.iconst 0, 1) := by decide +kernel
theorem dX4_find_106 : decode cX4_find 106 = .ok (.ireturn, 1) := by decide +kernel
set_option maxRecDepth 20000 in
theorem ggX4_layOut_X8_pays : GoodIn wsX4_layOut wsX8_pays := goodIn_r _ [9, 10, 11, 8, 12, 13, 4, 5, 6] (by decide +kernel) (by decide +kernel)
set_option maxRecDepth 20000 in
theorem gX4_layOut_X8_pays_n57 : GoodIn wsX4_layOut (wsX8_pays) := ggX4_layOut_X8_pays
set_option maxRecDepth 20000 in
theorem ggX4_layOut_X8_tells : GoodIn wsX4_layOut wsX8_tells := goodIn_r _ [12, 13, 4, 5, 6] (by decide +kernel) (by decide +kernel)
set_option maxRecDepth 20000 in
theorem gX4_layOut_X8_tells_n60 : GoodIn wsX4_layOut (wsX8_tells) := ggX4_layOut_X8_tells
theorem dX4_layOut_0 : decode cX4_layOut 0 = .ok (.iconst 0, 1) := by decide +kernel
theorem dX4_layOut_1 : decode cX4_layOut 1 = .ok (.istore 4, 2) := by decide +kernel
theorem dX4_layOut_3 : decode cX4_layOut 3 = .ok (.iconst 0, 1) := by decide +kernel
theorem dX4_layOut_4 : decode cX4_layOut 4 = .ok (.istore 5, 2) := by decide +kernel
theorem dX4_layOut_6 : decode cX4_layOut 6 = .ok (.iload 5, 2) := by decide +kernel
theorem dX4_layOut_8 : decode cX4_layOut 8 = .ok (.iconst 5, 1) := by decide +kernel
theorem dX4_layOut_9 : decode cX4_layOut 9 = .ok (.if_icmp .ge 67, 3) := by decide +kernel
theorem dX4_layOut_12 : decode cX4_layOut 12 = .ok (.iload_n 1, 1) := by decide +kernel
theorem dX4_layOut_13 : decode cX4_layOut 13 = .ok (.iconst 5, 1) := by decide +kernel
theorem dX4_layOut_14 : decode cX4_layOut 14 = .ok (.imul, 1) := by decide +kernel
theorem dX4_layOut_15 : decode cX4_layOut 15 = .ok (.iload 5, 2) := by decide +kernel
theorem dX4_layOut_17 : decode cX4_layOut 17 = .ok (.iadd, 1) := by decide +kernel
theorem dX4_layOut_18 : decode cX4_layOut 18 = .ok (.istore 6, 2) := by decide +kernel
theorem dX4_layOut_20 : decode cX4_layOut 20 = .ok (.aload_n 0, 1) := by decide +kernel
theorem dX4_layOut_21 : decode cX4_layOut 21 = .ok (.getfield 11, 3) := by decide +kernel
theorem dX4_layOut_24 : decode cX4_layOut 24 = .ok (.iload 6, 2) := by decide +kernel
theorem dX4_layOut_26 : decode cX4_layOut 26 = .ok (.iload_n 2, 1) := by decide +kernel
theorem dX4_layOut_27 : decode cX4_layOut 27 = .ok (.iload_n 3, 1) := by decide +kernel
theorem dX4_layOut_28 : decode cX4_layOut 28 = .ok (.iload 5, 2) := by decide +kernel
theorem dX4_layOut_30 : decode cX4_layOut 30 = .ok (.bipush 25, 2) := by decide +kernel
theorem dX4_layOut_32 : decode cX4_layOut 32 = .ok (.imul, 1) := by decide +kernel
theorem dX4_layOut_33 : decode cX4_layOut 33 = .ok (.invokestatic 57, 3) := by decide +kernel
theorem dX4_layOut_36 : decode cX4_layOut 36 = .ok (.iastore, 1) := by decide +kernel
theorem dX4_layOut_37 : decode cX4_layOut 37 = .ok (.aload_n 0, 1) := by decide +kernel
theorem dX4_layOut_38 : decode cX4_layOut 38 = .ok (.getfield 15, 3) := by decide +kernel
theorem dX4_layOut_41 : decode cX4_layOut 41 = .ok (.iload 6, 2) := by decide +kernel
theorem dX4_layOut_43 : decode cX4_layOut 43 = .ok (.iload_n 2, 1) := by decide +kernel
theorem dX4_layOut_44 : decode cX4_layOut 44 = .ok (.iload_n 2, 1) := by decide +kernel
theorem dX4_layOut_45 : decode cX4_layOut 45 = .ok (.iload_n 3, 1) := by decide +kernel
theorem dX4_layOut_46 : decode cX4_layOut 46 = .ok (.iload 5, 2) := by decide +kernel
theorem dX4_layOut_48 : decode cX4_layOut 48 = .ok (.bipush 25, 2) := by decide +kernel
theorem dX4_layOut_50 : decode cX4_layOut 50 = .ok (.imul, 1) := by decide +kernel
theorem dX4_layOut_51 : decode cX4_layOut 51 = .ok (.invokestatic 60, 3) := by decide +kernel
theorem dX4_layOut_54 : decode cX4_layOut 54 = .ok (.isub, 1) := by decide +kernel
theorem dX4_layOut_55 : decode cX4_layOut 55 = .ok (.iastore, 1) := by decide +kernel
theorem dX4_layOut_56 : decode cX4_layOut 56 = .ok (.iload 4, 2) := by decide +kernel
theorem dX4_layOut_58 : decode cX4_layOut 58 = .ok (.aload_n 0, 1) := by decide +kernel
theorem dX4_layOut_59 : decode cX4_layOut 59 = .ok (.getfield 11, 3) := by decide +kernel
theorem dX4_layOut_62 : decode cX4_layOut 62 = .ok (.iload 6, 2) := by decide +kernel
theorem dX4_layOut_64 : decode cX4_layOut 64 = .ok (.iaload, 1) := by decide +kernel
theorem dX4_layOut_65 : decode cX4_layOut 65 = .ok (.invokestatic 63, 3) := by decide +kernel
theorem dX4_layOut_68 : decode cX4_layOut 68 = .ok (.istore 4, 2) := by decide +kernel
theorem dX4_layOut_70 : decode cX4_layOut 70 = .ok (.iinc 5 1, 3) := by decide +kernel
theorem dX4_layOut_73 : decode cX4_layOut 73 = .ok (.goto (-67), 3) := by decide +kernel
theorem dX4_layOut_76 : decode cX4_layOut 76 = .ok (.iload 4, 2) := by decide +kernel
theorem dX4_layOut_78 : decode cX4_layOut 78 = .ok (.ireturn, 1) := by decide +kernel
set_option maxRecDepth 20000 in
theorem ggX4_tryFrom_X4_tryFrom : GoodIn wsX4_tryFrom wsX4_tryFrom := goodIn_r _ [0, 1, 2, 3, 4, 5, 6, 7, 8, 9, 10, 11, 12, 13, 14, 15, 16, 17, 18, 19, 20, 21, 22, 23, 24] (by decide +kernel) (by decide +kernel)
set_option maxRecDepth 20000 in
theorem gX4_tryFrom_X4_tryFrom : GoodIn wsX4_tryFrom (wsV RX4 53 RX4 yX4_tryFrom wsX4_tryFrom) := goodIn_app (goodIn_of _ (by decide +kernel)) ggX4_tryFrom_X4_tryFrom
theorem dX4_tryFrom_0 : decode cX4_tryFrom 0 = .ok (.iload_n 3, 1) := by decide +kernel
theorem dX4_tryFrom_1 : decode cX4_tryFrom 1 = .ok (.aload_n 0, 1) := by decide +kernel
theorem dX4_tryFrom_2 : decode cX4_tryFrom 2 = .ok (.getfield 38, 3) := by decide +kernel
theorem dX4_tryFrom_5 : decode cX4_tryFrom 5 = .ok (.if_icmp .ge 18, 3) := by decide +kernel
theorem dX4_tryFrom_8 : decode cX4_tryFrom 8 = .ok (.iload_n 2, 1) := by decide +kernel
theorem dX4_tryFrom_9 : decode cX4_tryFrom 9 = .ok (.aload_n 0, 1) := by decide +kernel
theorem dX4_tryFrom_10 : decode cX4_tryFrom 10 = .ok (.getfield 18, 3) := by decide +kernel
theorem dX4_tryFrom_13 : decode cX4_tryFrom 13 = .ok (.iload_n 1, 1) := by decide +kernel
theorem dX4_tryFrom_14 : decode cX4_tryFrom 14 = .ok (.iaload, 1) := by decide +kernel
theorem dX4_tryFrom_15 : decode cX4_tryFrom 15 = .ok (.iadd, 1) := by decide +kernel
theorem dX4_tryFrom_16 : decode cX4_tryFrom 16 = .ok (.aload_n 0, 1) := by decide +kernel
theorem dX4_tryFrom_17 : decode cX4_tryFrom 17 = .ok (.getfield 34, 3) := by decide +kernel
theorem dX4_tryFrom_20 : decode cX4_tryFrom 20 = .ok (.if_icmp .ge 4, 3) := by decide +kernel
theorem dX4_tryFrom_23 : decode cX4_tryFrom 23 = .ok (.return_, 1) := by decide +kernel
theorem dX4_tryFrom_24 : decode cX4_tryFrom 24 = .ok (.iload_n 1, 1) := by decide +kernel
theorem dX4_tryFrom_25 : decode cX4_tryFrom 25 = .ok (.aload_n 0, 1) := by decide +kernel
theorem dX4_tryFrom_26 : decode cX4_tryFrom 26 = .ok (.getfield 33, 3) := by decide +kernel
theorem dX4_tryFrom_29 : decode cX4_tryFrom 29 = .ok (.if_icmp .lt 24, 3) := by decide +kernel
theorem dX4_tryFrom_32 : decode cX4_tryFrom 32 = .ok (.aload_n 0, 1) := by decide +kernel
theorem dX4_tryFrom_33 : decode cX4_tryFrom 33 = .ok (.iload_n 3, 1) := by decide +kernel
theorem dX4_tryFrom_34 : decode cX4_tryFrom 34 = .ok (.putfield 38, 3) := by decide +kernel
theorem dX4_tryFrom_37 : decode cX4_tryFrom 37 = .ok (.aload_n 0, 1) := by decide +kernel
theorem dX4_tryFrom_38 : decode cX4_tryFrom 38 = .ok (.getfield 21, 3) := by decide +kernel
theorem dX4_tryFrom_41 : decode cX4_tryFrom 41 = .ok (.iconst 0, 1) := by decide +kernel
theorem dX4_tryFrom_42 : decode cX4_tryFrom 42 = .ok (.aload_n 0, 1) := by decide +kernel
theorem dX4_tryFrom_43 : decode cX4_tryFrom 43 = .ok (.getfield 24, 3) := by decide +kernel
theorem dX4_tryFrom_46 : decode cX4_tryFrom 46 = .ok (.iconst 0, 1) := by decide +kernel
theorem dX4_tryFrom_47 : decode cX4_tryFrom 47 = .ok (.bipush 6, 2) := by decide +kernel
theorem dX4_tryFrom_49 : decode cX4_tryFrom 49 = .ok (.invokestatic 69, 3) := by decide +kernel
theorem dX4_tryFrom_52 : decode cX4_tryFrom 52 = .ok (.return_, 1) := by decide +kernel
theorem dX4_tryFrom_53 : decode cX4_tryFrom 53 = .ok (.iconst 0, 1) := by decide +kernel
theorem dX4_tryFrom_54 : decode cX4_tryFrom 54 = .ok (.istore 4, 2) := by decide +kernel
theorem dX4_tryFrom_56 : decode cX4_tryFrom 56 = .ok (.iload 4, 2) := by decide +kernel
theorem dX4_tryFrom_58 : decode cX4_tryFrom 58 = .ok (.iconst 5, 1) := by decide +kernel
theorem dX4_tryFrom_59 : decode cX4_tryFrom 59 = .ok (.if_icmp .ge 53, 3) := by decide +kernel
theorem dX4_tryFrom_62 : decode cX4_tryFrom 62 = .ok (.iload_n 1, 1) := by decide +kernel
theorem dX4_tryFrom_63 : decode cX4_tryFrom 63 = .ok (.iconst 5, 1) := by decide +kernel
theorem dX4_tryFrom_64 : decode cX4_tryFrom 64 = .ok (.imul, 1) := by decide +kernel
theorem dX4_tryFrom_65 : decode cX4_tryFrom 65 = .ok (.iload 4, 2) := by decide +kernel
theorem dX4_tryFrom_67 : decode cX4_tryFrom 67 = .ok (.iadd, 1) := by decide +kernel
theorem dX4_tryFrom_68 : decode cX4_tryFrom 68 = .ok (.istore 5, 2) := by decide +kernel
theorem dX4_tryFrom_70 : decode cX4_tryFrom 70 = .ok (.aload_n 0, 1) := by decide +kernel
theorem dX4_tryFrom_71 : decode cX4_tryFrom 71 = .ok (.getfield 21, 3) := by decide +kernel
theorem dX4_tryFrom_74 : decode cX4_tryFrom 74 = .ok (.iload_n 1, 1) := by decide +kernel
theorem dX4_tryFrom_75 : decode cX4_tryFrom 75 = .ok (.iload 4, 2) := by decide +kernel
theorem dX4_tryFrom_77 : decode cX4_tryFrom 77 = .ok (.bipush 25, 2) := by decide +kernel
theorem dX4_tryFrom_79 : decode cX4_tryFrom 79 = .ok (.imul, 1) := by decide +kernel
theorem dX4_tryFrom_80 : decode cX4_tryFrom 80 = .ok (.iastore, 1) := by decide +kernel
theorem dX4_tryFrom_81 : decode cX4_tryFrom 81 = .ok (.aload_n 0, 1) := by decide +kernel
theorem dX4_tryFrom_82 : decode cX4_tryFrom 82 = .ok (.iload_n 1, 1) := by decide +kernel
theorem dX4_tryFrom_83 : decode cX4_tryFrom 83 = .ok (.iconst 1, 1) := by decide +kernel
theorem dX4_tryFrom_84 : decode cX4_tryFrom 84 = .ok (.iadd, 1) := by decide +kernel
theorem dX4_tryFrom_85 : decode cX4_tryFrom 85 = .ok (.iload_n 2, 1) := by decide +kernel
theorem dX4_tryFrom_86 : decode cX4_tryFrom 86 = .ok (.aload_n 0, 1) := by decide +kernel
theorem dX4_tryFrom_87 : decode cX4_tryFrom 87 = .ok (.getfield 11, 3) := by decide +kernel
theorem dX4_tryFrom_90 : decode cX4_tryFrom 90 = .ok (.iload 5, 2) := by decide +kernel
theorem dX4_tryFrom_92 : decode cX4_tryFrom 92 = .ok (.iaload, 1) := by decide +kernel
theorem dX4_tryFrom_93 : decode cX4_tryFrom 93 = .ok (.iadd, 1) := by decide +kernel
theorem dX4_tryFrom_94 : decode cX4_tryFrom 94 = .ok (.iload_n 3, 1) := by decide +kernel
theorem dX4_tryFrom_95 : decode cX4_tryFrom 95 = .ok (.aload_n 0, 1) := by decide +kernel
theorem dX4_tryFrom_96 : decode cX4_tryFrom 96 = .ok (.getfield 15, 3) := by decide +kernel
theorem dX4_tryFrom_99 : decode cX4_tryFrom 99 = .ok (.iload 5, 2) := by decide +kernel
theorem dX4_tryFrom_101 : decode cX4_tryFrom 101 = .ok (.iaload, 1) := by decide +kernel
theorem dX4_tryFrom_102 : decode cX4_tryFrom 102 = .ok (.iadd, 1) := by decide +kernel
theorem dX4_tryFrom_103 : decode cX4_tryFrom 103 = .ok (.invokevirtual 53, 3) := by decide +kernel
theorem dX4_tryFrom_106 : decode cX4_tryFrom 106 = .ok (.iinc 4 1, 3) := by decide +kernel
theorem dX4_tryFrom_109 : decode cX4_tryFrom 109 = .ok (.goto (-53), 3) := by decide +kernel
theorem dX4_tryFrom_112 : decode cX4_tryFrom 112 = .ok (.return_, 1) := by decide +kernel
theorem dX5_init_0 : decode cX5_init 0 = .ok (.aload_n 0, 1) := by decide +kernel
theorem dX5_init_1 : decode cX5_init 1 = .ok (.invokespecial 3, 3) := by decide +kernel
theorem dX5_init_4 : decode cX5_init 4 = .ok (.aload_n 0, 1) := by decide +kernel
theorem dX5_init_5 : decode cX5_init 5 = .ok (.bipush 6, 2) := by decide +kernel
theorem dX5_init_7 : decode cX5_init 7 = .ok (.newarray .int, 2) := by decide +kernel
theorem dX5_init_9 : decode cX5_init 9 = .ok (.putfield 9, 3) := by decide +kernel
theorem dX5_init_12 : decode cX5_init 12 = .ok (.aload_n 0, 1) := by decide +kernel
theorem dX5_init_13 : decode cX5_init 13 = .ok (.bipush 6, 2) := by decide +kernel
theorem dX5_init_15 : decode cX5_init 15 = .ok (.newarray .int, 2) := by decide +kernel
theorem dX5_init_17 : decode cX5_init 17 = .ok (.putfield 15, 3) := by decide +kernel
theorem dX5_init_20 : decode cX5_init 20 = .ok (.return_, 1) := by decide +kernel
theorem dX5_begin_0 : decode cX5_begin 0 = .ok (.aload_n 0, 1) := by decide +kernel
theorem dX5_begin_1 : decode cX5_begin 1 = .ok (.aload_n 1, 1) := by decide +kernel
theorem dX5_begin_2 : decode cX5_begin 2 = .ok (.getfield 18, 3) := by decide +kernel
theorem dX5_begin_5 : decode cX5_begin 5 = .ok (.putfield 24, 3) := by decide +kernel
theorem dX5_begin_8 : decode cX5_begin 8 = .ok (.aload_n 0, 1) := by decide +kernel
theorem dX5_begin_9 : decode cX5_begin 9 = .ok (.iconst 0, 1) := by decide +kernel
theorem dX5_begin_10 : decode cX5_begin 10 = .ok (.putfield 25, 3) := by decide +kernel
theorem dX5_begin_13 : decode cX5_begin 13 = .ok (.aload_n 0, 1) := by decide +kernel
theorem dX5_begin_14 : decode cX5_begin 14 = .ok (.iconst 0, 1) := by decide +kernel
theorem dX5_begin_15 : decode cX5_begin 15 = .ok (.putfield 28, 3) := by decide +kernel
theorem dX5_begin_18 : decode cX5_begin 18 = .ok (.aload_n 0, 1) := by decide +kernel
theorem dX5_begin_19 : decode cX5_begin 19 = .ok (.iconst 0, 1) := by decide +kernel
theorem dX5_begin_20 : decode cX5_begin 20 = .ok (.putfield 31, 3) := by decide +kernel
theorem dX5_begin_23 : decode cX5_begin 23 = .ok (.aload_n 0, 1) := by decide +kernel
theorem dX5_begin_24 : decode cX5_begin 24 = .ok (.iconst 0, 1) := by decide +kernel
theorem dX5_begin_25 : decode cX5_begin 25 = .ok (.putfield 34, 3) := by decide +kernel
theorem dX5_begin_28 : decode cX5_begin 28 = .ok (.iconst 0, 1) := by decide +kernel
theorem dX5_begin_29 : decode cX5_begin 29 = .ok (.istore_n 2, 1) := by decide +kernel
theorem dX5_begin_30 : decode cX5_begin 30 = .ok (.iload_n 2, 1) := by decide +kernel
theorem dX5_begin_31 : decode cX5_begin 31 = .ok (.bipush 6, 2) := by decide +kernel
theorem dX5_begin_33 : decode cX5_begin 33 = .ok (.if_icmp .ge 28, 3) := by decide +kernel
theorem dX5_begin_36 : decode cX5_begin 36 = .ok (.aload_n 0, 1) := by decide +kernel
theorem dX5_begin_37 : decode cX5_begin 37 = .ok (.getfield 9, 3) := by decide +kernel
theorem dX5_begin_40 : decode cX5_begin 40 = .ok (.iload_n 2, 1) := by decide +kernel
theorem dX5_begin_41 : decode cX5_begin 41 = .ok (.aload_n 1, 1) := by decide +kernel
theorem dX5_begin_42 : decode cX5_begin 42 = .ok (.getfield 37, 3) := by decide +kernel
theorem dX5_begin_45 : decode cX5_begin 45 = .ok (.iload_n 2, 1) := by decide +kernel
theorem dX5_begin_46 : decode cX5_begin 46 = .ok (.iaload, 1) := by decide +kernel
theorem dX5_begin_47 : decode cX5_begin 47 = .ok (.iastore, 1) := by decide +kernel
theorem dX5_begin_48 : decode cX5_begin 48 = .ok (.aload_n 0, 1) := by decide +kernel
theorem dX5_begin_49 : decode cX5_begin 49 = .ok (.getfield 15, 3) := by decide +kernel
theorem dX5_begin_52 : decode cX5_begin 52 = .ok (.iload_n 2, 1) := by decide +kernel
theorem dX5_begin_53 : decode cX5_begin 53 = .ok (.iconst 0, 1) := by decide +kernel
theorem dX5_begin_54 : decode cX5_begin 54 = .ok (.iastore, 1) := by decide +kernel
theorem dX5_begin_55 : decode cX5_begin 55 = .ok (.iinc 2 1, 3) := by decide +kernel
theorem dX5_begin_58 : decode cX5_begin 58 = .ok (.goto (-28), 3) := by decide +kernel
theorem dX5_begin_61 : decode cX5_begin 61 = .ok (.return_, 1) := by decide +kernel
theorem dX5_become_0 : decode cX5_become 0 = .ok (.aload_n 0, 1) := by decide +kernel
theorem dX5_become_1 : decode cX5_become 1 = .ok (.aload_n 1, 1) := by decide +kernel
theorem dX5_become_2 : decode cX5_become 2 = .ok (.getfield 24, 3) := by decide +kernel
theorem dX5_become_5 : decode cX5_become 5 = .ok (.putfield 24, 3) := by decide +kernel
theorem dX5_become_8 : decode cX5_become 8 = .ok (.aload_n 0, 1) := by decide +kernel
theorem dX5_become_9 : decode cX5_become 9 = .ok (.aload_n 1, 1) := by decide +kernel
theorem dX5_become_10 : decode cX5_become 10 = .ok (.getfield 25, 3) := by decide +kernel
theorem dX5_become_13 : decode cX5_become 13 = .ok (.putfield 25, 3) := by decide +kernel
theorem dX5_become_16 : decode cX5_become 16 = .ok (.aload_n 0, 1) := by decide +kernel
theorem dX5_become_17 : decode cX5_become 17 = .ok (.aload_n 1, 1) := by decide +kernel
theorem dX5_become_18 : decode cX5_become 18 = .ok (.getfield 28, 3) := by decide +kernel
theorem dX5_become_21 : decode cX5_become 21 = .ok (.putfield 28, 3) := by decide +kernel
theorem dX5_become_24 : decode cX5_become 24 = .ok (.aload_n 0, 1) := by decide +kernel
theorem dX5_become_25 : decode cX5_become 25 = .ok (.aload_n 1, 1) := by decide +kernel
theorem dX5_become_26 : decode cX5_become 26 = .ok (.getfield 31, 3) := by decide +kernel
theorem dX5_become_29 : decode cX5_become 29 = .ok (.putfield 31, 3) := by decide +kernel
theorem dX5_become_32 : decode cX5_become 32 = .ok (.aload_n 0, 1) := by decide +kernel
theorem dX5_become_33 : decode cX5_become 33 = .ok (.aload_n 1, 1) := by decide +kernel
theorem dX5_become_34 : decode cX5_become 34 = .ok (.getfield 34, 3) := by decide +kernel
theorem dX5_become_37 : decode cX5_become 37 = .ok (.putfield 34, 3) := by decide +kernel
theorem dX5_become_40 : decode cX5_become 40 = .ok (.iconst 0, 1) := by decide +kernel
theorem dX5_become_41 : decode cX5_become 41 = .ok (.istore_n 2, 1) := by decide +kernel
theorem dX5_become_42 : decode cX5_become 42 = .ok (.iload_n 2, 1) := by decide +kernel
theorem dX5_become_43 : decode cX5_become 43 = .ok (.bipush 6, 2) := by decide +kernel
theorem dX5_become_45 : decode cX5_become 45 = .ok (.if_icmp .ge 33, 3) := by decide +kernel
theorem dX5_become_48 : decode cX5_become 48 = .ok (.aload_n 0, 1) := by decide +kernel
theorem dX5_become_49 : decode cX5_become 49 = .ok (.getfield 9, 3) := by decide +kernel
theorem dX5_become_52 : decode cX5_become 52 = .ok (.iload_n 2, 1) := by decide +kernel
theorem dX5_become_53 : decode cX5_become 53 = .ok (.aload_n 1, 1) := by decide +kernel
theorem dX5_become_54 : decode cX5_become 54 = .ok (.getfield 9, 3) := by decide +kernel
theorem dX5_become_57 : decode cX5_become 57 = .ok (.iload_n 2, 1) := by decide +kernel
theorem dX5_become_58 : decode cX5_become 58 = .ok (.iaload, 1) := by decide +kernel
theorem dX5_become_59 : decode cX5_become 59 = .ok (.iastore, 1) := by decide +kernel
theorem dX5_become_60 : decode cX5_become 60 = .ok (.aload_n 0, 1) := by decide +kernel
theorem dX5_become_61 : decode cX5_become 61 = .ok (.getfield 15, 3) := by decide +kernel
theorem dX5_become_64 : decode cX5_become 64 = .ok (.iload_n 2, 1) := by decide +kernel
theorem dX5_become_65 : decode cX5_become 65 = .ok (.aload_n 1, 1) := by decide +kernel
theorem dX5_become_66 : decode cX5_become 66 = .ok (.getfield 15, 3) := by decide +kernel
theorem dX5_become_69 : decode cX5_become 69 = .ok (.iload_n 2, 1) := by decide +kernel
theorem dX5_become_70 : decode cX5_become 70 = .ok (.iaload, 1) := by decide +kernel
theorem dX5_become_71 : decode cX5_become 71 = .ok (.iastore, 1) := by decide +kernel
theorem dX5_become_72 : decode cX5_become 72 = .ok (.iinc 2 1, 3) := by decide +kernel
theorem dX5_become_75 : decode cX5_become 75 = .ok (.goto (-33), 3) := by decide +kernel
theorem dX5_become_78 : decode cX5_become 78 = .ok (.return_, 1) := by decide +kernel
set_option maxRecDepth 20000 in
theorem ggX5_cost_J6_bitCount_0f7a4 : GoodIn wsX5_cost wsJ6_bitCount_0f7a4 := goodIn_r _ [10, 11, 12, 13] (by decide +kernel) (by decide +kernel)
set_option maxRecDepth 20000 in
theorem gX5_cost_J6_bitCount_0f7a4 : GoodIn wsX5_cost (va_wsS RX5 38 yJ6_bitCount_0f7a4 wsJ6_bitCount_0f7a4) := goodIn_app (goodIn_of _ (by decide +kernel)) ggX5_cost_J6_bitCount_0f7a4
theorem dX5_cost_0 : decode cX5_cost 0 = .ok (.iconst 0, 1) := by decide +kernel
theorem dX5_cost_1 : decode cX5_cost 1 = .ok (.aload_n 0, 1) := by decide +kernel
theorem dX5_cost_2 : decode cX5_cost 2 = .ok (.getfield 24, 3) := by decide +kernel
theorem dX5_cost_5 : decode cX5_cost 5 = .ok (.bipush 10, 2) := by decide +kernel
theorem dX5_cost_7 : decode cX5_cost 7 = .ok (.aload_n 0, 1) := by decide +kernel
theorem dX5_cost_8 : decode cX5_cost 8 = .ok (.getfield 31, 3) := by decide +kernel
theorem dX5_cost_11 : decode cX5_cost 11 = .ok (.invokestatic 38, 3) := by decide +kernel
theorem dX5_cost_14 : decode cX5_cost 14 = .ok (.imul, 1) := by decide +kernel
theorem dX5_cost_15 : decode cX5_cost 15 = .ok (.isub, 1) := by decide +kernel
theorem dX5_cost_16 : decode cX5_cost 16 = .ok (.invokestatic 44, 3) := by decide +kernel
theorem dX5_cost_19 : decode cX5_cost 19 = .ok (.ireturn, 1) := by decide +kernel
set_option maxRecDepth 20000 in
theorem ggX5_passMonth_X8_pays : GoodIn wsX5_passMonth wsX8_pays := goodIn_r _ [7, 8, 9, 6, 10, 11, 12, 13, 14] (by decide +kernel) (by decide +kernel)
set_option maxRecDepth 20000 in
theorem gX5_passMonth_X8_pays_n56 : GoodIn wsX5_passMonth (wsX8_pays) := ggX5_passMonth_X8_pays
theorem dX5_passMonth_0 : decode cX5_passMonth 0 = .ok (.iconst 0, 1) := by decide +kernel
theorem dX5_passMonth_1 : decode cX5_passMonth 1 = .ok (.istore_n 2, 1) := by decide +kernel
theorem dX5_passMonth_2 : decode cX5_passMonth 2 = .ok (.iload_n 2, 1) := by decide +kernel
theorem dX5_passMonth_3 : decode cX5_passMonth 3 = .ok (.aload_n 1, 1) := by decide +kernel
theorem dX5_passMonth_4 : decode cX5_passMonth 4 = .ok (.getfield 50, 3) := by decide +kernel
theorem dX5_passMonth_7 : decode cX5_passMonth 7 = .ok (.if_icmp .ge 51, 3) := by decide +kernel
theorem dX5_passMonth_10 : decode cX5_passMonth 10 = .ok (.aload_n 0, 1) := by decide +kernel
theorem dX5_passMonth_11 : decode cX5_passMonth 11 = .ok (.getfield 9, 3) := by decide +kernel
theorem dX5_passMonth_14 : decode cX5_passMonth 14 = .ok (.iload_n 2, 1) := by decide +kernel
theorem dX5_passMonth_15 : decode cX5_passMonth 15 = .ok (.iaload, 1) := by decide +kernel
theorem dX5_passMonth_16 : decode cX5_passMonth 16 = .ok (.aload_n 1, 1) := by decide +kernel
theorem dX5_passMonth_17 : decode cX5_passMonth 17 = .ok (.getfield 53, 3) := by decide +kernel
theorem dX5_passMonth_20 : decode cX5_passMonth 20 = .ok (.iload_n 2, 1) := by decide +kernel
theorem dX5_passMonth_21 : decode cX5_passMonth 21 = .ok (.iaload, 1) := by decide +kernel
theorem dX5_passMonth_22 : decode cX5_passMonth 22 = .ok (.aload_n 0, 1) := by decide +kernel
theorem dX5_passMonth_23 : decode cX5_passMonth 23 = .ok (.getfield 15, 3) := by decide +kernel
theorem dX5_passMonth_26 : decode cX5_passMonth 26 = .ok (.iload_n 2, 1) := by decide +kernel
theorem dX5_passMonth_27 : decode cX5_passMonth 27 = .ok (.iaload, 1) := by decide +kernel
theorem dX5_passMonth_28 : decode cX5_passMonth 28 = .ok (.invokestatic 56, 3) := by decide +kernel
theorem dX5_passMonth_31 : decode cX5_passMonth 31 = .ok (.istore_n 3, 1) := by decide +kernel
theorem dX5_passMonth_32 : decode cX5_passMonth 32 = .ok (.aload_n 0, 1) := by decide +kernel
theorem dX5_passMonth_33 : decode cX5_passMonth 33 = .ok (.getfield 9, 3) := by decide +kernel
theorem dX5_passMonth_36 : decode cX5_passMonth 36 = .ok (.iload_n 2, 1) := by decide +kernel
theorem dX5_passMonth_37 : decode cX5_passMonth 37 = .ok (.dup2, 1) := by decide +kernel
theorem dX5_passMonth_38 : decode cX5_passMonth 38 = .ok (.iaload, 1) := by decide +kernel
theorem dX5_passMonth_39 : decode cX5_passMonth 39 = .ok (.iload_n 3, 1) := by decide +kernel
theorem dX5_passMonth_40 : decode cX5_passMonth 40 = .ok (.isub, 1) := by decide +kernel
theorem dX5_passMonth_41 : decode cX5_passMonth 41 = .ok (.iastore, 1) := by decide +kernel
theorem dX5_passMonth_42 : decode cX5_passMonth 42 = .ok (.aload_n 0, 1) := by decide +kernel
theorem dX5_passMonth_43 : decode cX5_passMonth 43 = .ok (.dup, 1) := by decide +kernel
theorem dX5_passMonth_44 : decode cX5_passMonth 44 = .ok (.getfield 28, 3) := by decide +kernel
theorem dX5_passMonth_47 : decode cX5_passMonth 47 = .ok (.iload_n 3, 1) := by decide +kernel
theorem dX5_passMonth_48 : decode cX5_passMonth 48 = .ok (.iadd, 1) := by decide +kernel
theorem dX5_passMonth_49 : decode cX5_passMonth 49 = .ok (.putfield 28, 3) := by decide +kernel
theorem dX5_passMonth_52 : decode cX5_passMonth 52 = .ok (.iinc 2 1, 3) := by decide +kernel
theorem dX5_passMonth_55 : decode cX5_passMonth 55 = .ok (.goto (-53), 3) := by decide +kernel
theorem dX5_passMonth_58 : decode cX5_passMonth 58 = .ok (.aload_n 0, 1) := by decide +kernel
theorem dX5_passMonth_59 : decode cX5_passMonth 59 = .ok (.dup, 1) := by decide +kernel
theorem dX5_passMonth_60 : decode cX5_passMonth 60 = .ok (.getfield 25, 3) := by decide +kernel
theorem dX5_passMonth_63 : decode cX5_passMonth 63 = .ok (.iconst 1, 1) := by decide +kernel
theorem dX5_passMonth_64 : decode cX5_passMonth 64 = .ok (.iadd, 1) := by decide +kernel
theorem dX5_passMonth_65 : decode cX5_passMonth 65 = .ok (.putfield 25, 3) := by decide +kernel
theorem dX5_passMonth_68 : decode cX5_passMonth 68 = .ok (.return_, 1) := by decide +kernel
theorem dX6_init_0 : decode cX6_init 0 = .ok (.aload_n 0, 1) := by decide +kernel
theorem dX6_init_1 : decode cX6_init 1 = .ok (.invokespecial 3, 3) := by decide +kernel
theorem dX6_init_4 : decode cX6_init 4 = .ok (.aload_n 0, 1) := by decide +kernel
theorem dX6_init_5 : decode cX6_init 5 = .ok (.bipush 6, 2) := by decide +kernel
theorem dX6_init_7 : decode cX6_init 7 = .ok (.newarray .int, 2) := by decide +kernel
theorem dX6_init_9 : decode cX6_init 9 = .ok (.putfield 9, 3) := by decide +kernel
theorem dX6_init_12 : decode cX6_init 12 = .ok (.aload_n 0, 1) := by decide +kernel
theorem dX6_init_13 : decode cX6_init 13 = .ok (.bipush 6, 2) := by decide +kernel
theorem dX6_init_15 : decode cX6_init 15 = .ok (.newarray .int, 2) := by decide +kernel
theorem dX6_init_17 : decode cX6_init 17 = .ok (.putfield 15, 3) := by decide +kernel
theorem dX6_init_20 : decode cX6_init 20 = .ok (.aload_n 0, 1) := by decide +kernel
theorem dX6_init_21 : decode cX6_init 21 = .ok (.bipush 9, 2) := by decide +kernel
theorem dX6_init_23 : decode cX6_init 23 = .ok (.newarray .int, 2) := by decide +kernel
theorem dX6_init_25 : decode cX6_init 25 = .ok (.putfield 18, 3) := by decide +kernel
theorem dX6_init_28 : decode cX6_init 28 = .ok (.aload_n 0, 1) := by decide +kernel
theorem dX6_init_29 : decode cX6_init 29 = .ok (.bipush 6, 2) := by decide +kernel
theorem dX6_init_31 : decode cX6_init 31 = .ok (.newarray .int, 2) := by decide +kernel
theorem dX6_init_33 : decode cX6_init 33 = .ok (.putfield 21, 3) := by decide +kernel
theorem dX6_init_36 : decode cX6_init 36 = .ok (.return_, 1) := by decide +kernel
theorem dX6_clear_0 : decode cX6_clear 0 = .ok (.aload_n 0, 1) := by decide +kernel
theorem dX6_clear_1 : decode cX6_clear 1 = .ok (.iconst 0, 1) := by decide +kernel
theorem dX6_clear_2 : decode cX6_clear 2 = .ok (.putfield 24, 3) := by decide +kernel
theorem dX6_clear_5 : decode cX6_clear 5 = .ok (.aload_n 0, 1) := by decide +kernel
theorem dX6_clear_6 : decode cX6_clear 6 = .ok (.iconst 0, 1) := by decide +kernel
theorem dX6_clear_7 : decode cX6_clear 7 = .ok (.putfield 28, 3) := by decide +kernel
theorem dX6_clear_10 : decode cX6_clear 10 = .ok (.aload_n 0, 1) := by decide +kernel
theorem dX6_clear_11 : decode cX6_clear 11 = .ok (.iconst 0, 1) := by decide +kernel
theorem dX6_clear_12 : decode cX6_clear 12 = .ok (.putfield 32, 3) := by decide +kernel
theorem dX6_clear_15 : decode cX6_clear 15 = .ok (.aload_n 0, 1) := by decide +kernel
theorem dX6_clear_16 : decode cX6_clear 16 = .ok (.iconst 0, 1) := by decide +kernel
theorem dX6_clear_17 : decode cX6_clear 17 = .ok (.putfield 35, 3) := by decide +kernel
theorem dX6_clear_20 : decode cX6_clear 20 = .ok (.aload_n 0, 1) := by decide +kernel
theorem dX6_clear_21 : decode cX6_clear 21 = .ok (.iconst 0, 1) := by decide +kernel
theorem dX6_clear_22 : decode cX6_clear 22 = .ok (.putfield 38, 3) := by decide +kernel
theorem dX6_clear_25 : decode cX6_clear 25 = .ok (.aload_n 0, 1) := by decide +kernel
theorem dX6_clear_26 : decode cX6_clear 26 = .ok (.iconst 0, 1) := by decide +kernel
theorem dX6_clear_27 : decode cX6_clear 27 = .ok (.putfield 41, 3) := by decide +kernel
theorem dX6_clear_30 : decode cX6_clear 30 = .ok (.aload_n 0, 1) := by decide +kernel
theorem dX6_clear_31 : decode cX6_clear 31 = .ok (.iconst 0, 1) := by decide +kernel
theorem dX6_clear_32 : decode cX6_clear 32 = .ok (.putfield 44, 3) := by decide +kernel
theorem dX6_clear_35 : decode cX6_clear 35 = .ok (.aload_n 0, 1) := by decide +kernel
theorem dX6_clear_36 : decode cX6_clear 36 = .ok (.iconst 0, 1) := by decide +kernel
theorem dX6_clear_37 : decode cX6_clear 37 = .ok (.putfield 47, 3) := by decide +kernel
theorem dX6_clear_40 : decode cX6_clear 40 = .ok (.return_, 1) := by decide +kernel
theorem dX6_addPayer_0 : decode cX6_addPayer 0 = .ok (.aload_n 0, 1) := by decide +kernel
theorem dX6_addPayer_1 : decode cX6_addPayer 1 = .ok (.getfield 35, 3) := by decide +kernel
theorem dX6_addPayer_4 : decode cX6_addPayer 4 = .ok (.bipush 6, 2) := by decide +kernel
theorem dX6_addPayer_6 : decode cX6_addPayer 6 = .ok (.if_icmp .ge 33, 3) := by decide +kernel
theorem dX6_addPayer_9 : decode cX6_addPayer 9 = .ok (.aload_n 0, 1) := by decide +kernel
theorem dX6_addPayer_10 : decode cX6_addPayer 10 = .ok (.getfield 9, 3) := by decide +kernel
theorem dX6_addPayer_13 : decode cX6_addPayer 13 = .ok (.aload_n 0, 1) := by decide +kernel
theorem dX6_addPayer_14 : decode cX6_addPayer 14 = .ok (.getfield 35, 3) := by decide +kernel
theorem dX6_addPayer_17 : decode cX6_addPayer 17 = .ok (.iload_n 1, 1) := by decide +kernel
theorem dX6_addPayer_18 : decode cX6_addPayer 18 = .ok (.iastore, 1) := by decide +kernel
theorem dX6_addPayer_19 : decode cX6_addPayer 19 = .ok (.aload_n 0, 1) := by decide +kernel
theorem dX6_addPayer_20 : decode cX6_addPayer 20 = .ok (.getfield 15, 3) := by decide +kernel
theorem dX6_addPayer_23 : decode cX6_addPayer 23 = .ok (.aload_n 0, 1) := by decide +kernel
theorem dX6_addPayer_24 : decode cX6_addPayer 24 = .ok (.getfield 35, 3) := by decide +kernel
theorem dX6_addPayer_27 : decode cX6_addPayer 27 = .ok (.iload_n 2, 1) := by decide +kernel
theorem dX6_addPayer_28 : decode cX6_addPayer 28 = .ok (.iastore, 1) := by decide +kernel
theorem dX6_addPayer_29 : decode cX6_addPayer 29 = .ok (.aload_n 0, 1) := by decide +kernel
theorem dX6_addPayer_30 : decode cX6_addPayer 30 = .ok (.dup, 1) := by decide +kernel
theorem dX6_addPayer_31 : decode cX6_addPayer 31 = .ok (.getfield 35, 3) := by decide +kernel
theorem dX6_addPayer_34 : decode cX6_addPayer 34 = .ok (.iconst 1, 1) := by decide +kernel
theorem dX6_addPayer_35 : decode cX6_addPayer 35 = .ok (.iadd, 1) := by decide +kernel
theorem dX6_addPayer_36 : decode cX6_addPayer 36 = .ok (.putfield 35, 3) := by decide +kernel
theorem dX6_addPayer_39 : decode cX6_addPayer 39 = .ok (.return_, 1) := by decide +kernel
theorem dX6_addBid_0 : decode cX6_addBid 0 = .ok (.aload_n 0, 1) := by decide +kernel
theorem dX6_addBid_1 : decode cX6_addBid 1 = .ok (.getfield 38, 3) := by decide +kernel
theorem dX6_addBid_4 : decode cX6_addBid 4 = .ok (.bipush 9, 2) := by decide +kernel
theorem dX6_addBid_6 : decode cX6_addBid 6 = .ok (.if_icmp .ge 23, 3) := by decide +kernel
theorem dX6_addBid_9 : decode cX6_addBid 9 = .ok (.aload_n 0, 1) := by decide +kernel
theorem dX6_addBid_10 : decode cX6_addBid 10 = .ok (.getfield 18, 3) := by decide +kernel
theorem dX6_addBid_13 : decode cX6_addBid 13 = .ok (.aload_n 0, 1) := by decide +kernel
theorem dX6_addBid_14 : decode cX6_addBid 14 = .ok (.getfield 38, 3) := by decide +kernel
theorem dX6_addBid_17 : decode cX6_addBid 17 = .ok (.iload_n 1, 1) := by decide +kernel
theorem dX6_addBid_18 : decode cX6_addBid 18 = .ok (.iastore, 1) := by decide +kernel
theorem dX6_addBid_19 : decode cX6_addBid 19 = .ok (.aload_n 0, 1) := by decide +kernel
theorem dX6_addBid_20 : decode cX6_addBid 20 = .ok (.dup, 1) := by decide +kernel
theorem dX6_addBid_21 : decode cX6_addBid 21 = .ok (.getfield 38, 3) := by decide +kernel
theorem dX6_addBid_24 : decode cX6_addBid 24 = .ok (.iconst 1, 1) := by decide +kernel
theorem dX6_addBid_25 : decode cX6_addBid 25 = .ok (.iadd, 1) := by decide +kernel
theorem dX6_addBid_26 : decode cX6_addBid 26 = .ok (.putfield 38, 3) := by decide +kernel
theorem dX6_addBid_29 : decode cX6_addBid 29 = .ok (.return_, 1) := by decide +kernel
theorem dX6_addHostage_0 : decode cX6_addHostage 0 = .ok (.aload_n 0, 1) := by decide +kernel
theorem dX6_addHostage_1 : decode cX6_addHostage 1 = .ok (.getfield 41, 3) := by decide +kernel
theorem dX6_addHostage_4 : decode cX6_addHostage 4 = .ok (.bipush 6, 2) := by decide +kernel
theorem dX6_addHostage_6 : decode cX6_addHostage 6 = .ok (.if_icmp .ge 23, 3) := by decide +kernel
theorem dX6_addHostage_9 : decode cX6_addHostage 9 = .ok (.aload_n 0, 1) := by decide +kernel
theorem dX6_addHostage_10 : decode cX6_addHostage 10 = .ok (.getfield 21, 3) := by decide +kernel
theorem dX6_addHostage_13 : decode cX6_addHostage 13 = .ok (.aload_n 0, 1) := by decide +kernel
theorem dX6_addHostage_14 : decode cX6_addHostage 14 = .ok (.getfield 41, 3) := by decide +kernel
theorem dX6_addHostage_17 : decode cX6_addHostage 17 = .ok (.iload_n 1, 1) := by decide +kernel
theorem dX6_addHostage_18 : decode cX6_addHostage 18 = .ok (.iastore, 1) := by decide +kernel
theorem dX6_addHostage_19 : decode cX6_addHostage 19 = .ok (.aload_n 0, 1) := by decide +kernel
theorem dX6_addHostage_20 : decode cX6_addHostage 20 = .ok (.dup, 1) := by decide +kernel
theorem dX6_addHostage_21 : decode cX6_addHostage 21 = .ok (.getfield 41, 3) := by decide +kernel
theorem dX6_addHostage_24 : decode cX6_addHostage 24 = .ok (.iconst 1, 1) := by decide +kernel
theorem dX6_addHostage_25 : decode cX6_addHostage 25 = .ok (.iadd, 1) := by decide +kernel
theorem dX6_addHostage_26 : decode cX6_addHostage 26 = .ok (.putfield 41, 3) := by decide +kernel
theorem dX6_addHostage_29 : decode cX6_addHostage 29 = .ok (.return_, 1) := by decide +kernel
theorem dX7_init_0 : decode cX7_init 0 = .ok (.aload_n 0, 1) := by decide +kernel
theorem dX7_init_1 : decode cX7_init 1 = .ok (.invokespecial 3, 3) := by decide +kernel
theorem dX7_init_4 : decode cX7_init 4 = .ok (.aload_n 0, 1) := by decide +kernel
theorem dX7_init_5 : decode cX7_init 5 = .ok (.sipush 240, 3) := by decide +kernel
theorem dX7_init_8 : decode cX7_init 8 = .ok (.newarray .int, 2) := by decide +kernel
theorem dX7_init_10 : decode cX7_init 10 = .ok (.putfield 9, 3) := by decide +kernel
theorem dX7_init_13 : decode cX7_init 13 = .ok (.aload_n 0, 1) := by decide +kernel
theorem dX7_init_14 : decode cX7_init 14 = .ok (.iconst (-1), 1) := by decide +kernel
theorem dX7_init_15 : decode cX7_init 15 = .ok (.putfield 15, 3) := by decide +kernel
theorem dX7_init_18 : decode cX7_init 18 = .ok (.return_, 1) := by decide +kernel
theorem dX7_add_0 : decode cX7_add 0 = .ok (.aload_n 0, 1) := by decide +kernel
theorem dX7_add_1 : decode cX7_add 1 = .ok (.getfield 19, 3) := by decide +kernel
theorem dX7_add_4 : decode cX7_add 4 = .ok (.sipush 240, 3) := by decide +kernel
theorem dX7_add_7 : decode cX7_add 7 = .ok (.if_icmp .lt 5, 3) := by decide +kernel
theorem dX7_add_10 : decode cX7_add 10 = .ok (.iconst 0, 1) := by decide +kernel
theorem dX7_add_11 : decode cX7_add 11 = .ok (.ireturn, 1) := by decide +kernel
theorem dX7_add_12 : decode cX7_add 12 = .ok (.aload_n 0, 1) := by decide +kernel
theorem dX7_add_13 : decode cX7_add 13 = .ok (.getfield 9, 3) := by decide +kernel
theorem dX7_add_16 : decode cX7_add 16 = .ok (.aload_n 0, 1) := by decide +kernel
theorem dX7_add_17 : decode cX7_add 17 = .ok (.getfield 19, 3) := by decide +kernel
theorem dX7_add_20 : decode cX7_add 20 = .ok (.iload_n 1, 1) := by decide +kernel
theorem dX7_add_21 : decode cX7_add 21 = .ok (.iastore, 1) := by decide +kernel
theorem dX7_add_22 : decode cX7_add 22 = .ok (.aload_n 0, 1) := by decide +kernel
theorem dX7_add_23 : decode cX7_add 23 = .ok (.dup, 1) := by decide +kernel
theorem dX7_add_24 : decode cX7_add 24 = .ok (.getfield 19, 3) := by decide +kernel
theorem dX7_add_27 : decode cX7_add 27 = .ok (.iconst 1, 1) := by decide +kernel
theorem dX7_add_28 : decode cX7_add 28 = .ok (.iadd, 1) := by decide +kernel
theorem dX7_add_29 : decode cX7_add 29 = .ok (.putfield 19, 3) := by decide +kernel
theorem dX7_add_32 : decode cX7_add 32 = .ok (.iconst 1, 1) := by decide +kernel
theorem dX7_add_33 : decode cX7_add 33 = .ok (.ireturn, 1) := by decide +kernel
set_option maxRecDepth 20000 in
theorem ggX7_readInto_X6_clear : GoodIn wsX7_readInto wsX6_clear := goodIn_r _ [8, 9, 10, 11, 12, 13, 14, 15, 16, 92, 93, 94, 95, 96, 97, 98, 99, 100, 101, 102, 103] (by decide +kernel) (by decide +kernel)
set_option maxRecDepth 20000 in
theorem gX7_readInto_X6_clear_n22 : GoodIn wsX7_readInto (wsX6_clear) := ggX7_readInto_X6_clear
set_option maxRecDepth 20000 in
theorem ggX7_readInto_X7_skipBlanks : GoodIn wsX7_readInto wsX7_skipBlanks := goodIn_r _ [21, 1, 22, 23, 24, 20, 25, 4, 26, 87, 88, 89, 90, 91] (by decide +kernel) (by decide +kernel)
set_option maxRecDepth 20000 in
theorem gX7_readInto_X7_skipBlanks : GoodIn wsX7_readInto (wsV RX7 33 RX7 yX7_skipBlanks wsX7_skipBlanks) := goodIn_app (goodIn_of _ (by decide +kernel)) ggX7_readInto_X7_skipBlanks
set_option maxRecDepth 20000 in
theorem ggX7_readInto_X7_readClause : GoodIn wsX7_readInto wsX7_readClause := goodIn_r _ [30, 1, 22, 23, 24, 20, 25, 4, 26, 31, 32, 33, 34, 2, 3, 35, 36, 37, 38, 39, 40, 41, 42, 43, 44, 45, 46, 17, 18, 19, 21, 47, 48, 49, 50, 51, 52, 53, 54, 55, 56, 57, 58, 59, 60, 61, 62, 6, 63, 64, 12, 65, 66, 67, 68, 69, 70, 71, 72, 73, 13, 74, 75, 76, 77, 78, 79, 80, 81, 14, 82, 83, 84, 85, 86, 92, 93, 94, 95, 96, 97, 98, 99, 100, 101, 102, 103, 87, 88, 89, 90, 91] (by decide +kernel) (by decide +kernel)
set_option maxRecDepth 20000 in
theorem gX7_readInto_X7_readClause : GoodIn wsX7_readInto (wsV RX7 36 RX7 yX7_readClause wsX7_readClause) := goodIn_app (goodIn_of _ (by decide +kernel)) ggX7_readInto_X7_readClause
theorem dX7_readInto_0 : decode cX7_readInto 0 = .ok (.aload_n 1, 1) := by decide +kernel
theorem dX7_readInto_1 : decode cX7_readInto 1 = .ok (.invokevirtual 22, 3) := by decide +kernel
theorem dX7_readInto_4 : decode cX7_readInto 4 = .ok (.aload_n 0, 1) := by decide +kernel
theorem dX7_readInto_5 : decode cX7_readInto 5 = .ok (.iconst 0, 1) := by decide +kernel
theorem dX7_readInto_6 : decode cX7_readInto 6 = .ok (.putfield 27, 3) := by decide +kernel
theorem dX7_readInto_9 : decode cX7_readInto 9 = .ok (.aload_n 0, 1) := by decide +kernel
theorem dX7_readInto_10 : decode cX7_readInto 10 = .ok (.iconst 0, 1) := by decide +kernel
theorem dX7_readInto_11 : decode cX7_readInto 11 = .ok (.putfield 30, 3) := by decide +kernel
theorem dX7_readInto_14 : decode cX7_readInto 14 = .ok (.aload_n 0, 1) := by decide +kernel
theorem dX7_readInto_15 : decode cX7_readInto 15 = .ok (.iconst (-1), 1) := by decide +kernel
theorem dX7_readInto_16 : decode cX7_readInto 16 = .ok (.putfield 15, 3) := by decide +kernel
theorem dX7_readInto_19 : decode cX7_readInto 19 = .ok (.aload_n 0, 1) := by decide +kernel
theorem dX7_readInto_20 : decode cX7_readInto 20 = .ok (.invokevirtual 33, 3) := by decide +kernel
theorem dX7_readInto_23 : decode cX7_readInto 23 = .ok (.iconst 0, 1) := by decide +kernel
theorem dX7_readInto_24 : decode cX7_readInto 24 = .ok (.istore_n 2, 1) := by decide +kernel
theorem dX7_readInto_25 : decode cX7_readInto 25 = .ok (.iload_n 2, 1) := by decide +kernel
theorem dX7_readInto_26 : decode cX7_readInto 26 = .ok (.sipush 240, 3) := by decide +kernel
theorem dX7_readInto_29 : decode cX7_readInto 29 = .ok (.if_icmp .ge 36, 3) := by decide +kernel
theorem dX7_readInto_32 : decode cX7_readInto 32 = .ok (.aload_n 0, 1) := by decide +kernel
theorem dX7_readInto_33 : decode cX7_readInto 33 = .ok (.getfield 27, 3) := by decide +kernel
theorem dX7_readInto_36 : decode cX7_readInto 36 = .ok (.aload_n 0, 1) := by decide +kernel
theorem dX7_readInto_37 : decode cX7_readInto 37 = .ok (.getfield 19, 3) := by decide +kernel
theorem dX7_readInto_40 : decode cX7_readInto 40 = .ok (.if_icmp .ge 25, 3) := by decide +kernel
theorem dX7_readInto_43 : decode cX7_readInto 43 = .ok (.aload_n 0, 1) := by decide +kernel
theorem dX7_readInto_44 : decode cX7_readInto 44 = .ok (.getfield 30, 3) := by decide +kernel
theorem dX7_readInto_47 : decode cX7_readInto 47 = .ok (.ifCond .ne 18, 3) := by decide +kernel
theorem dX7_readInto_50 : decode cX7_readInto 50 = .ok (.aload_n 0, 1) := by decide +kernel
theorem dX7_readInto_51 : decode cX7_readInto 51 = .ok (.aload_n 1, 1) := by decide +kernel
theorem dX7_readInto_52 : decode cX7_readInto 52 = .ok (.invokevirtual 36, 3) := by decide +kernel
theorem dX7_readInto_55 : decode cX7_readInto 55 = .ok (.aload_n 0, 1) := by decide +kernel
theorem dX7_readInto_56 : decode cX7_readInto 56 = .ok (.invokevirtual 33, 3) := by decide +kernel
theorem dX7_readInto_59 : decode cX7_readInto 59 = .ok (.iinc 2 1, 3) := by decide +kernel
theorem dX7_readInto_62 : decode cX7_readInto 62 = .ok (.goto (-37), 3) := by decide +kernel
theorem dX7_readInto_65 : decode cX7_readInto 65 = .ok (.aload_n 0, 1) := by decide +kernel
theorem dX7_readInto_66 : decode cX7_readInto 66 = .ok (.iconst 0, 1) := by decide +kernel
theorem dX7_readInto_67 : decode cX7_readInto 67 = .ok (.putfield 19, 3) := by decide +kernel
theorem dX7_readInto_70 : decode cX7_readInto 70 = .ok (.return_, 1) := by decide +kernel
set_option maxRecDepth 20000 in
theorem ggX7_readClause_X7_here : GoodIn wsX7_readClause wsX7_here := goodIn_r _ [6, 1, 7, 8, 87, 88, 89, 90, 91] (by decide +kernel) (by decide +kernel)
set_option maxRecDepth 20000 in
theorem gX7_readClause_X7_here : GoodIn wsX7_readClause (wsV RX7 40 RX7 yX7_here wsX7_here) := goodIn_app (goodIn_of _ (by decide +kernel)) ggX7_readClause_X7_here
set_option maxRecDepth 20000 in
theorem ggX7_readClause_X7_fail : GoodIn wsX7_readClause wsX7_fail := goodIn_r _ [12, 13, 14, 87, 88, 89, 90, 91] (by decide +kernel) (by decide +kernel)
set_option maxRecDepth 20000 in
theorem gX7_readClause_X7_fail : GoodIn wsX7_readClause (wsV RX7 48 RX7 yX7_fail wsX7_fail) := goodIn_app (goodIn_of _ (by decide +kernel)) ggX7_readClause_X7_fail
set_option maxRecDepth 20000 in
theorem ggX7_readClause_X7_readKing : GoodIn wsX7_readClause wsX7_readKing := goodIn_r _ [18, 19, 20, 21, 5, 22, 1, 9, 10, 11, 12, 13, 14, 23, 24, 25, 26, 27, 28, 29, 30, 2, 3, 4, 6, 7, 8, 31, 32, 33, 34, 35, 36, 37, 38, 39, 40, 41, 75, 76, 77, 78, 79, 80, 81, 82, 83, 84, 85, 86, 87, 88, 89, 90, 91] (by decide +kernel) (by decide +kernel)
set_option maxRecDepth 20000 in
theorem gX7_readClause_X7_readKing : GoodIn wsX7_readClause (wsV RX7 52 RX7 yX7_readKing wsX7_readKing) := goodIn_app (goodIn_of _ (by decide +kernel)) ggX7_readClause_X7_readKing
set_option maxRecDepth 20000 in
theorem ggX7_readClause_X7_readPayer : GoodIn wsX7_readClause wsX7_readPayer := goodIn_r _ [45, 19, 20, 21, 5, 22, 1, 9, 10, 11, 12, 13, 14, 23, 24, 25, 26, 27, 28, 29, 30, 2, 3, 4, 6, 7, 8, 31, 32, 33, 46, 47, 48, 49, 50, 51, 52, 34, 35, 36, 37, 38, 39, 40, 41, 75, 76, 77, 78, 79, 80, 81, 82, 83, 84, 85, 86, 87, 88, 89, 90, 91] (by decide +kernel) (by decide +kernel)
set_option maxRecDepth 20000 in
theorem gX7_readClause_X7_readPayer : GoodIn wsX7_readClause (wsV RX7 55 RX7 yX7_readPayer wsX7_readPayer) := goodIn_app (goodIn_of _ (by decide +kernel)) ggX7_readClause_X7_readPayer
set_option maxRecDepth 20000 in
theorem ggX7_readClause_X7_readBids : GoodIn wsX7_readClause wsX7_readBids := goodIn_r _ [56, 19, 20, 21, 5, 22, 1, 9, 10, 11, 12, 13, 14, 23, 24, 25, 26, 27, 28, 29, 30, 2, 3, 4, 6, 7, 8, 31, 32, 33, 57, 47, 58, 59, 60, 61, 38, 39, 40, 41, 34, 35, 36, 37, 75, 76, 77, 78, 79, 80, 81, 82, 83, 84, 85, 86, 87, 88, 89, 90, 91] (by decide +kernel) (by decide +kernel)
set_option maxRecDepth 20000 in
theorem gX7_readClause_X7_readBids : GoodIn wsX7_readClause (wsV RX7 58 RX7 yX7_readBids wsX7_readBids) := goodIn_app (goodIn_of _ (by decide +kernel)) ggX7_readClause_X7_readBids
set_option maxRecDepth 20000 in
theorem ggX7_readClause_X7_readHostage : GoodIn wsX7_readClause wsX7_readHostage := goodIn_r _ [65, 19, 20, 21, 5, 22, 1, 9, 10, 11, 12, 13, 14, 23, 24, 25, 26, 27, 28, 29, 30, 2, 3, 4, 6, 7, 8, 31, 32, 33, 66, 47, 67, 68, 69, 70, 34, 35, 36, 37, 38, 39, 40, 41, 75, 76, 77, 78, 79, 80, 81, 82, 83, 84, 85, 86, 87, 88, 89, 90, 91] (by decide +kernel) (by decide +kernel)
set_option maxRecDepth 20000 in
theorem gX7_readClause_X7_readHostage : GoodIn wsX7_readClause (wsV RX7 61 RX7 yX7_readHostage wsX7_readHostage) := goodIn_app (goodIn_of _ (by decide +kernel)) ggX7_readClause_X7_readHostage
set_option maxRecDepth 20000 in
theorem ggX7_readClause_X7_readBags : GoodIn wsX7_readClause wsX7_readBags := goodIn_r _ [74, 19, 20, 21, 5, 22, 1, 9, 10, 11, 12, 13, 14, 23, 24, 25, 26, 27, 28, 29, 30, 2, 3, 4, 6, 7, 8, 31, 32, 33, 34, 35, 36, 37, 38, 39, 40, 41, 75, 76, 77, 78, 79, 80, 81, 82, 83, 84, 85, 86, 87, 88, 89, 90, 91] (by decide +kernel) (by decide +kernel)
set_option maxRecDepth 20000 in
theorem gX7_readClause_X7_readBags : GoodIn wsX7_readClause (wsV RX7 64 RX7 yX7_readBags wsX7_readBags) := goodIn_app (goodIn_of _ (by decide +kernel)) ggX7_readClause_X7_readBags
theorem dX7_readClause_0 : decode cX7_readClause 0 = .ok (.aload_n 0, 1) := by decide +kernel
theorem dX7_readClause_1 : decode cX7_readClause 1 = .ok (.invokevirtual 40, 3) := by decide +kernel
theorem dX7_readClause_4 : decode cX7_readClause 4 = .ok (.istore_n 2, 1) := by decide +kernel
theorem dX7_readClause_5 : decode cX7_readClause 5 = .ok (.aload_n 1, 1) := by decide +kernel
theorem dX7_readClause_6 : decode cX7_readClause 6 = .ok (.getfield 44, 3) := by decide +kernel
theorem dX7_readClause_9 : decode cX7_readClause 9 = .ok (.ifCond .ne 19, 3) := by decide +kernel
theorem dX7_readClause_12 : decode cX7_readClause 12 = .ok (.iload_n 2, 1) := by decide +kernel
theorem dX7_readClause_13 : decode cX7_readClause 13 = .ok (.bipush 107, 2) := by decide +kernel
theorem dX7_readClause_15 : decode cX7_readClause 15 = .ok (.if_icmp .eq 13, 3) := by decide +kernel
theorem dX7_readClause_18 : decode cX7_readClause 18 = .ok (.aload_n 0, 1) := by decide +kernel
theorem dX7_readClause_19 : decode cX7_readClause 19 = .ok (.iconst 1, 1) := by decide +kernel
theorem dX7_readClause_20 : decode cX7_readClause 20 = .ok (.aload_n 0, 1) := by decide +kernel
theorem dX7_readClause_21 : decode cX7_readClause 21 = .ok (.getfield 27, 3) := by decide +kernel
theorem dX7_readClause_24 : decode cX7_readClause 24 = .ok (.invokevirtual 48, 3) := by decide +kernel
theorem dX7_readClause_27 : decode cX7_readClause 27 = .ok (.return_, 1) := by decide +kernel
theorem dX7_readClause_28 : decode cX7_readClause 28 = .ok (.iload_n 2, 1) := by decide +kernel
theorem dX7_readClause_29 : decode cX7_readClause 29 = .ok (.lookupswitch 91 #[(98, 67), (104, 75), (107, 51), (112, 59), (119, 83)], 51) := by decide +kernel
theorem dX7_readClause_80 : decode cX7_readClause 80 = .ok (.aload_n 0, 1) := by decide +kernel
theorem dX7_readClause_81 : decode cX7_readClause 81 = .ok (.aload_n 1, 1) := by decide +kernel
theorem dX7_readClause_82 : decode cX7_readClause 82 = .ok (.invokevirtual 52, 3) := by decide +kernel
theorem dX7_readClause_85 : decode cX7_readClause 85 = .ok (.goto 44, 3) := by decide +kernel
theorem dX7_readClause_88 : decode cX7_readClause 88 = .ok (.aload_n 0, 1) := by decide +kernel
theorem dX7_readClause_89 : decode cX7_readClause 89 = .ok (.aload_n 1, 1) := by decide +kernel
theorem dX7_readClause_90 : decode cX7_readClause 90 = .ok (.invokevirtual 55, 3) := by decide +kernel
theorem dX7_readClause_93 : decode cX7_readClause 93 = .ok (.goto 36, 3) := by decide +kernel
theorem dX7_readClause_96 : decode cX7_readClause 96 = .ok (.aload_n 0, 1) := by decide +kernel
theorem dX7_readClause_97 : decode cX7_readClause 97 = .ok (.aload_n 1, 1) := by decide +kernel
theorem dX7_readClause_98 : decode cX7_readClause 98 = .ok (.invokevirtual 58, 3) := by decide +kernel
theorem dX7_readClause_101 : decode cX7_readClause 101 = .ok (.goto 28, 3) := by decide +kernel
theorem dX7_readClause_104 : decode cX7_readClause 104 = .ok (.aload_n 0, 1) := by decide +kernel
theorem dX7_readClause_105 : decode cX7_readClause 105 = .ok (.aload_n 1, 1) := by decide +kernel
theorem dX7_readClause_106 : decode cX7_readClause 106 = .ok (.invokevirtual 61, 3) := by decide +kernel
theorem dX7_readClause_109 : decode cX7_readClause 109 = .ok (.goto 20, 3) := by decide +kernel
theorem dX7_readClause_112 : decode cX7_readClause 112 = .ok (.aload_n 0, 1) := by decide +kernel
theorem dX7_readClause_113 : decode cX7_readClause 113 = .ok (.aload_n 1, 1) := by decide +kernel
theorem dX7_readClause_114 : decode cX7_readClause 114 = .ok (.invokevirtual 64, 3) := by decide +kernel
theorem dX7_readClause_117 : decode cX7_readClause 117 = .ok (.goto 12, 3) := by decide +kernel
theorem dX7_readClause_120 : decode cX7_readClause 120 = .ok (.aload_n 0, 1) := by decide +kernel
theorem dX7_readClause_121 : decode cX7_readClause 121 = .ok (.iconst 1, 1) := by decide +kernel
theorem dX7_readClause_122 : decode cX7_readClause 122 = .ok (.aload_n 0, 1) := by decide +kernel
theorem dX7_readClause_123 : decode cX7_readClause 123 = .ok (.getfield 27, 3) := by decide +kernel
theorem dX7_readClause_126 : decode cX7_readClause 126 = .ok (.invokevirtual 48, 3) := by decide +kernel
theorem dX7_readClause_129 : decode cX7_readClause 129 = .ok (.return_, 1) := by decide +kernel
set_option maxRecDepth 20000 in
theorem ggX7_readKing_X7_takeWord : GoodIn wsX7_readKing wsX7_takeWord := goodIn_r _ [5, 6, 7, 8, 9, 4, 10, 11, 12, 50, 51, 52, 53, 54] (by decide +kernel) (by decide +kernel)
set_option maxRecDepth 20000 in
theorem gX7_readKing_X7_takeWord : GoodIn wsX7_readKing (wsV RX7 67 RX7 yX7_takeWord wsX7_takeWord) := goodIn_app (goodIn_of _ (by decide +kernel)) ggX7_readKing_X7_takeWord
set_option maxRecDepth 20000 in
theorem ggX7_readKing_X7_number : GoodIn wsX7_readKing wsX7_number := goodIn_r _ [16, 6, 17, 18, 19, 4, 20, 21, 22, 23, 24, 25, 26, 27, 28, 29, 7, 8, 9, 10, 11, 12, 50, 51, 52, 53, 54] (by decide +kernel) (by decide +kernel)
set_option maxRecDepth 20000 in
theorem gX7_readKing_X7_number : GoodIn wsX7_readKing (wsV RX7 71 RX7 yX7_number wsX7_number) := goodIn_app (goodIn_of _ (by decide +kernel)) ggX7_readKing_X7_number
set_option maxRecDepth 20000 in
theorem ggX7_readKing_X7_close : GoodIn wsX7_readKing wsX7_close := goodIn_r _ [33, 6, 34, 35, 36, 4, 37, 17, 18, 19, 20, 21, 22, 23, 24, 25, 26, 7, 8, 9, 10, 11, 12, 50, 51, 52, 53, 54] (by decide +kernel) (by decide +kernel)
set_option maxRecDepth 20000 in
theorem gX7_readKing_X7_close : GoodIn wsX7_readKing (wsV RX7 81 RX7 yX7_close wsX7_close) := goodIn_app (goodIn_of _ (by decide +kernel)) ggX7_readKing_X7_close
theorem dX7_readKing_0 : decode cX7_readKing 0 = .ok (.aload_n 0, 1) := by decide +kernel
theorem dX7_readKing_1 : decode cX7_readKing 1 = .ok (.aload_n 1, 1) := by decide +kernel
theorem dX7_readKing_2 : decode cX7_readKing 2 = .ok (.getfield 44, 3) := by decide +kernel
theorem dX7_readKing_5 : decode cX7_readKing 5 = .ok (.invokevirtual 67, 3) := by decide +kernel
theorem dX7_readKing_8 : decode cX7_readKing 8 = .ok (.aload_n 1, 1) := by decide +kernel
theorem dX7_readKing_9 : decode cX7_readKing 9 = .ok (.iconst 1, 1) := by decide +kernel
theorem dX7_readKing_10 : decode cX7_readKing 10 = .ok (.putfield 44, 3) := by decide +kernel
theorem dX7_readKing_13 : decode cX7_readKing 13 = .ok (.aload_n 1, 1) := by decide +kernel
theorem dX7_readKing_14 : decode cX7_readKing 14 = .ok (.aload_n 0, 1) := by decide +kernel
theorem dX7_readKing_15 : decode cX7_readKing 15 = .ok (.iconst 1, 1) := by decide +kernel
theorem dX7_readKing_16 : decode cX7_readKing 16 = .ok (.sipush 999, 3) := by decide +kernel
theorem dX7_readKing_19 : decode cX7_readKing 19 = .ok (.invokevirtual 71, 3) := by decide +kernel
theorem dX7_readKing_22 : decode cX7_readKing 22 = .ok (.putfield 75, 3) := by decide +kernel
theorem dX7_readKing_25 : decode cX7_readKing 25 = .ok (.aload_n 1, 1) := by decide +kernel
theorem dX7_readKing_26 : decode cX7_readKing 26 = .ok (.aload_n 0, 1) := by decide +kernel
theorem dX7_readKing_27 : decode cX7_readKing 27 = .ok (.iconst 0, 1) := by decide +kernel
theorem dX7_readKing_28 : decode cX7_readKing 28 = .ok (.bipush 99, 2) := by decide +kernel
theorem dX7_readKing_30 : decode cX7_readKing 30 = .ok (.invokevirtual 71, 3) := by decide +kernel
theorem dX7_readKing_33 : decode cX7_readKing 33 = .ok (.putfield 78, 3) := by decide +kernel
theorem dX7_readKing_36 : decode cX7_readKing 36 = .ok (.aload_n 0, 1) := by decide +kernel
theorem dX7_readKing_37 : decode cX7_readKing 37 = .ok (.invokevirtual 81, 3) := by decide +kernel
theorem dX7_readKing_40 : decode cX7_readKing 40 = .ok (.return_, 1) := by decide +kernel
set_option maxRecDepth 20000 in
theorem ggX7_readPayer_X7_takeWord : GoodIn wsX7_readPayer wsX7_takeWord := goodIn_r _ [5, 6, 7, 8, 9, 4, 10, 11, 12, 57, 58, 59, 60, 61] (by decide +kernel) (by decide +kernel)
set_option maxRecDepth 20000 in
theorem gX7_readPayer_X7_takeWord : GoodIn wsX7_readPayer (wsV RX7 67 RX7 yX7_takeWord wsX7_takeWord) := goodIn_app (goodIn_of _ (by decide +kernel)) ggX7_readPayer_X7_takeWord
set_option maxRecDepth 20000 in
theorem ggX7_readPayer_X7_number : GoodIn wsX7_readPayer wsX7_number := goodIn_r _ [16, 6, 17, 18, 19, 4, 20, 21, 22, 23, 24, 25, 26, 27, 28, 29, 7, 8, 9, 10, 11, 12, 57, 58, 59, 60, 61] (by decide +kernel) (by decide +kernel)
set_option maxRecDepth 20000 in
theorem gX7_readPayer_X7_number : GoodIn wsX7_readPayer (wsV RX7 71 RX7 yX7_number wsX7_number) := goodIn_app (goodIn_of _ (by decide +kernel)) ggX7_readPayer_X7_number
set_option maxRecDepth 20000 in
theorem ggX7_readPayer_X6_addPayer : GoodIn wsX7_readPayer wsX6_addPayer := goodIn_r _ [33, 34, 35, 36, 45, 46, 47, 48, 49, 50, 51, 52, 53, 54, 55, 56] (by decide +kernel) (by decide +kernel)
set_option maxRecDepth 20000 in
theorem gX7_readPayer_X6_addPayer_n87 : GoodIn wsX7_readPayer (wsX6_addPayer) := ggX7_readPayer_X6_addPayer
set_option maxRecDepth 20000 in
theorem ggX7_readPayer_X7_close : GoodIn wsX7_readPayer wsX7_close := goodIn_r _ [40, 6, 41, 42, 43, 4, 44, 17, 18, 19, 20, 21, 22, 23, 24, 25, 26, 7, 8, 9, 10, 11, 12, 57, 58, 59, 60, 61] (by decide +kernel) (by decide +kernel)
set_option maxRecDepth 20000 in
theorem gX7_readPayer_X7_close : GoodIn wsX7_readPayer (wsV RX7 81 RX7 yX7_close wsX7_close) := goodIn_app (goodIn_of _ (by decide +kernel)) ggX7_readPayer_X7_close
theorem dX7_readPayer_0 : decode cX7_readPayer 0 = .ok (.aload_n 0, 1) := by decide +kernel
theorem dX7_readPayer_1 : decode cX7_readPayer 1 = .ok (.aload_n 1, 1) := by decide +kernel
theorem dX7_readPayer_2 : decode cX7_readPayer 2 = .ok (.getfield 84, 3) := by decide +kernel
theorem dX7_readPayer_5 : decode cX7_readPayer 5 = .ok (.bipush 6, 2) := by decide +kernel
theorem dX7_readPayer_7 : decode cX7_readPayer 7 = .ok (.if_icmp .lt 7, 3) := by decide +kernel
theorem dX7_readPayer_10 : decode cX7_readPayer 10 = .ok (.iconst 1, 1) := by decide +kernel
theorem dX7_readPayer_11 : decode cX7_readPayer 11 = .ok (.goto 4, 3) := by decide +kernel
theorem dX7_readPayer_14 : decode cX7_readPayer 14 = .ok (.iconst 0, 1) := by decide +kernel
theorem dX7_readPayer_15 : decode cX7_readPayer 15 = .ok (.invokevirtual 67, 3) := by decide +kernel
theorem dX7_readPayer_18 : decode cX7_readPayer 18 = .ok (.aload_n 0, 1) := by decide +kernel
theorem dX7_readPayer_19 : decode cX7_readPayer 19 = .ok (.iconst 0, 1) := by decide +kernel
theorem dX7_readPayer_20 : decode cX7_readPayer 20 = .ok (.sipush 999, 3) := by decide +kernel
theorem dX7_readPayer_23 : decode cX7_readPayer 23 = .ok (.invokevirtual 71, 3) := by decide +kernel
theorem dX7_readPayer_26 : decode cX7_readPayer 26 = .ok (.istore_n 2, 1) := by decide +kernel
theorem dX7_readPayer_27 : decode cX7_readPayer 27 = .ok (.aload_n 0, 1) := by decide +kernel
theorem dX7_readPayer_28 : decode cX7_readPayer 28 = .ok (.iconst 0, 1) := by decide +kernel
theorem dX7_readPayer_29 : decode cX7_readPayer 29 = .ok (.bipush 9, 2) := by decide +kernel
theorem dX7_readPayer_31 : decode cX7_readPayer 31 = .ok (.invokevirtual 71, 3) := by decide +kernel
theorem dX7_readPayer_34 : decode cX7_readPayer 34 = .ok (.istore_n 3, 1) := by decide +kernel
theorem dX7_readPayer_35 : decode cX7_readPayer 35 = .ok (.aload_n 1, 1) := by decide +kernel
theorem dX7_readPayer_36 : decode cX7_readPayer 36 = .ok (.iload_n 2, 1) := by decide +kernel
theorem dX7_readPayer_37 : decode cX7_readPayer 37 = .ok (.iload_n 3, 1) := by decide +kernel
theorem dX7_readPayer_38 : decode cX7_readPayer 38 = .ok (.invokevirtual 87, 3) := by decide +kernel
theorem dX7_readPayer_41 : decode cX7_readPayer 41 = .ok (.aload_n 0, 1) := by decide +kernel
theorem dX7_readPayer_42 : decode cX7_readPayer 42 = .ok (.invokevirtual 81, 3) := by decide +kernel
theorem dX7_readPayer_45 : decode cX7_readPayer 45 = .ok (.return_, 1) := by decide +kernel
set_option maxRecDepth 20000 in
theorem ggX7_readBids_X7_takeWord : GoodIn wsX7_readBids wsX7_takeWord := goodIn_r _ [5, 6, 7, 8, 9, 4, 10, 11, 12, 56, 57, 58, 59, 60] (by decide +kernel) (by decide +kernel)
set_option maxRecDepth 20000 in
theorem gX7_readBids_X7_takeWord : GoodIn wsX7_readBids (wsV RX7 67 RX7 yX7_takeWord wsX7_takeWord) := goodIn_app (goodIn_of _ (by decide +kernel)) ggX7_readBids_X7_takeWord
set_option maxRecDepth 20000 in
theorem ggX7_readBids_X7_number : GoodIn wsX7_readBids wsX7_number := goodIn_r _ [16, 6, 17, 18, 19, 4, 20, 21, 22, 23, 24, 25, 26, 27, 28, 29, 7, 8, 9, 10, 11, 12, 56, 57, 58, 59, 60] (by decide +kernel) (by decide +kernel)
set_option maxRecDepth 20000 in
theorem gX7_readBids_X7_number : GoodIn wsX7_readBids (wsV RX7 71 RX7 yX7_number wsX7_number) := goodIn_app (goodIn_of _ (by decide +kernel)) ggX7_readBids_X7_number
set_option maxRecDepth 20000 in
theorem ggX7_readBids_X6_addBid : GoodIn wsX7_readBids wsX6_addBid := goodIn_r _ [33, 34, 35, 44, 45, 46, 47, 48, 49, 50, 51, 52, 53, 54, 55] (by decide +kernel) (by decide +kernel)
set_option maxRecDepth 20000 in
theorem gX7_readBids_X6_addBid_n93 : GoodIn wsX7_readBids (wsX6_addBid) := ggX7_readBids_X6_addBid
set_option maxRecDepth 20000 in
theorem ggX7_readBids_X7_takes : GoodIn wsX7_readBids wsX7_takes := goodIn_r _ [39, 6, 17, 18, 19, 4, 20, 21, 22, 23, 24, 25, 26, 56, 57, 58, 59, 60] (by decide +kernel) (by decide +kernel)
set_option maxRecDepth 20000 in
theorem gX7_readBids_X7_takes : GoodIn wsX7_readBids (wsV RX7 97 RX7 yX7_takes wsX7_takes) := goodIn_app (goodIn_of _ (by decide +kernel)) ggX7_readBids_X7_takes
set_option maxRecDepth 20000 in
theorem ggX7_readBids_X7_close : GoodIn wsX7_readBids wsX7_close := goodIn_r _ [43, 6, 36, 37, 38, 4, 39, 17, 18, 19, 20, 21, 22, 23, 24, 25, 26, 7, 8, 9, 10, 11, 12, 56, 57, 58, 59, 60] (by decide +kernel) (by decide +kernel)
set_option maxRecDepth 20000 in
theorem gX7_readBids_X7_close : GoodIn wsX7_readBids (wsV RX7 81 RX7 yX7_close wsX7_close) := goodIn_app (goodIn_of _ (by decide +kernel)) ggX7_readBids_X7_close
theorem dX7_readBids_0 : decode cX7_readBids 0 = .ok (.aload_n 0, 1) := by decide +kernel
theorem dX7_readBids_1 : decode cX7_readBids 1 = .ok (.aload_n 1, 1) := by decide +kernel
theorem dX7_readBids_2 : decode cX7_readBids 2 = .ok (.getfield 90, 3) := by decide +kernel
theorem dX7_readBids_5 : decode cX7_readBids 5 = .ok (.ifCond .le 7, 3) := by decide +kernel
theorem dX7_readBids_8 : decode cX7_readBids 8 = .ok (.iconst 1, 1) := by decide +kernel
theorem dX7_readBids_9 : decode cX7_readBids 9 = .ok (.goto 4, 3) := by decide +kernel
theorem dX7_readBids_12 : decode cX7_readBids 12 = .ok (.iconst 0, 1) := by decide +kernel
theorem dX7_readBids_13 : decode cX7_readBids 13 = .ok (.invokevirtual 67, 3) := by decide +kernel
theorem dX7_readBids_16 : decode cX7_readBids 16 = .ok (.iconst 1, 1) := by decide +kernel
theorem dX7_readBids_17 : decode cX7_readBids 17 = .ok (.istore_n 2, 1) := by decide +kernel
theorem dX7_readBids_18 : decode cX7_readBids 18 = .ok (.iconst 1, 1) := by decide +kernel
theorem dX7_readBids_19 : decode cX7_readBids 19 = .ok (.istore_n 3, 1) := by decide +kernel
theorem dX7_readBids_20 : decode cX7_readBids 20 = .ok (.iload_n 3, 1) := by decide +kernel
theorem dX7_readBids_21 : decode cX7_readBids 21 = .ok (.bipush 9, 2) := by decide +kernel
theorem dX7_readBids_23 : decode cX7_readBids 23 = .ok (.if_icmp .gt 46, 3) := by decide +kernel
theorem dX7_readBids_26 : decode cX7_readBids 26 = .ok (.iload_n 2, 1) := by decide +kernel
theorem dX7_readBids_27 : decode cX7_readBids 27 = .ok (.ifCond .eq 42, 3) := by decide +kernel
theorem dX7_readBids_30 : decode cX7_readBids 30 = .ok (.aload_n 1, 1) := by decide +kernel
theorem dX7_readBids_31 : decode cX7_readBids 31 = .ok (.aload_n 0, 1) := by decide +kernel
theorem dX7_readBids_32 : decode cX7_readBids 32 = .ok (.iconst 0, 1) := by decide +kernel
theorem dX7_readBids_33 : decode cX7_readBids 33 = .ok (.sipush 999, 3) := by decide +kernel
theorem dX7_readBids_36 : decode cX7_readBids 36 = .ok (.invokevirtual 71, 3) := by decide +kernel
theorem dX7_readBids_39 : decode cX7_readBids 39 = .ok (.invokevirtual 93, 3) := by decide +kernel
theorem dX7_readBids_42 : decode cX7_readBids 42 = .ok (.iload_n 3, 1) := by decide +kernel
theorem dX7_readBids_43 : decode cX7_readBids 43 = .ok (.bipush 9, 2) := by decide +kernel
theorem dX7_readBids_45 : decode cX7_readBids 45 = .ok (.if_icmp .ge 16, 3) := by decide +kernel
theorem dX7_readBids_48 : decode cX7_readBids 48 = .ok (.aload_n 0, 1) := by decide +kernel
theorem dX7_readBids_49 : decode cX7_readBids 49 = .ok (.bipush 44, 2) := by decide +kernel
theorem dX7_readBids_51 : decode cX7_readBids 51 = .ok (.invokevirtual 97, 3) := by decide +kernel
theorem dX7_readBids_54 : decode cX7_readBids 54 = .ok (.ifCond .eq 7, 3) := by decide +kernel
theorem dX7_readBids_57 : decode cX7_readBids 57 = .ok (.iconst 1, 1) := by decide +kernel
theorem dX7_readBids_58 : decode cX7_readBids 58 = .ok (.goto 4, 3) := by decide +kernel
theorem dX7_readBids_61 : decode cX7_readBids 61 = .ok (.iconst 0, 1) := by decide +kernel
theorem dX7_readBids_62 : decode cX7_readBids 62 = .ok (.istore_n 2, 1) := by decide +kernel
theorem dX7_readBids_63 : decode cX7_readBids 63 = .ok (.iinc 3 1, 3) := by decide +kernel
theorem dX7_readBids_66 : decode cX7_readBids 66 = .ok (.goto (-46), 3) := by decide +kernel
theorem dX7_readBids_69 : decode cX7_readBids 69 = .ok (.aload_n 0, 1) := by decide +kernel
theorem dX7_readBids_70 : decode cX7_readBids 70 = .ok (.invokevirtual 81, 3) := by decide +kernel
theorem dX7_readBids_73 : decode cX7_readBids 73 = .ok (.return_, 1) := by decide +kernel
set_option maxRecDepth 20000 in
theorem ggX7_readHostage_X7_takeWord : GoodIn wsX7_readHostage wsX7_takeWord := goodIn_r _ [5, 6, 7, 8, 9, 4, 10, 11, 12, 56, 57, 58, 59, 60] (by decide +kernel) (by decide +kernel)
set_option maxRecDepth 20000 in
theorem gX7_readHostage_X7_takeWord : GoodIn wsX7_readHostage (wsV RX7 67 RX7 yX7_takeWord wsX7_takeWord) := goodIn_app (goodIn_of _ (by decide +kernel)) ggX7_readHostage_X7_takeWord
set_option maxRecDepth 20000 in
theorem ggX7_readHostage_X7_number : GoodIn wsX7_readHostage wsX7_number := goodIn_r _ [16, 6, 17, 18, 19, 4, 20, 21, 22, 23, 24, 25, 26, 27, 28, 29, 7, 8, 9, 10, 11, 12, 56, 57, 58, 59, 60] (by decide +kernel) (by decide +kernel)
set_option maxRecDepth 20000 in
theorem gX7_readHostage_X7_number : GoodIn wsX7_readHostage (wsV RX7 71 RX7 yX7_number wsX7_number) := goodIn_app (goodIn_of _ (by decide +kernel)) ggX7_readHostage_X7_number
set_option maxRecDepth 20000 in
theorem ggX7_readHostage_X6_addHostage : GoodIn wsX7_readHostage wsX6_addHostage := goodIn_r _ [33, 34, 35, 44, 45, 46, 47, 48, 49, 50, 51, 52, 53, 54, 55] (by decide +kernel) (by decide +kernel)
set_option maxRecDepth 20000 in
theorem gX7_readHostage_X6_addHostage_n104 : GoodIn wsX7_readHostage (wsX6_addHostage) := ggX7_readHostage_X6_addHostage
set_option maxRecDepth 20000 in
theorem ggX7_readHostage_X7_close : GoodIn wsX7_readHostage wsX7_close := goodIn_r _ [39, 6, 40, 41, 42, 4, 43, 17, 18, 19, 20, 21, 22, 23, 24, 25, 26, 7, 8, 9, 10, 11, 12, 56, 57, 58, 59, 60] (by decide +kernel) (by decide +kernel)
set_option maxRecDepth 20000 in
theorem gX7_readHostage_X7_close : GoodIn wsX7_readHostage (wsV RX7 81 RX7 yX7_close wsX7_close) := goodIn_app (goodIn_of _ (by decide +kernel)) ggX7_readHostage_X7_close
theorem dX7_readHostage_0 : decode cX7_readHostage 0 = .ok (.aload_n 0, 1) := by decide +kernel
theorem dX7_readHostage_1 : decode cX7_readHostage 1 = .ok (.aload_n 1, 1) := by decide +kernel
theorem dX7_readHostage_2 : decode cX7_readHostage 2 = .ok (.getfield 101, 3) := by decide +kernel
theorem dX7_readHostage_5 : decode cX7_readHostage 5 = .ok (.bipush 6, 2) := by decide +kernel
theorem dX7_readHostage_7 : decode cX7_readHostage 7 = .ok (.if_icmp .lt 7, 3) := by decide +kernel
theorem dX7_readHostage_10 : decode cX7_readHostage 10 = .ok (.iconst 1, 1) := by decide +kernel
theorem dX7_readHostage_11 : decode cX7_readHostage 11 = .ok (.goto 4, 3) := by decide +kernel
theorem dX7_readHostage_14 : decode cX7_readHostage 14 = .ok (.iconst 0, 1) := by decide +kernel
theorem dX7_readHostage_15 : decode cX7_readHostage 15 = .ok (.invokevirtual 67, 3) := by decide +kernel
theorem dX7_readHostage_18 : decode cX7_readHostage 18 = .ok (.aload_n 1, 1) := by decide +kernel
theorem dX7_readHostage_19 : decode cX7_readHostage 19 = .ok (.aload_n 0, 1) := by decide +kernel
theorem dX7_readHostage_20 : decode cX7_readHostage 20 = .ok (.iconst 1, 1) := by decide +kernel
theorem dX7_readHostage_21 : decode cX7_readHostage 21 = .ok (.bipush 99, 2) := by decide +kernel
theorem dX7_readHostage_23 : decode cX7_readHostage 23 = .ok (.invokevirtual 71, 3) := by decide +kernel
theorem dX7_readHostage_26 : decode cX7_readHostage 26 = .ok (.invokevirtual 104, 3) := by decide +kernel
theorem dX7_readHostage_29 : decode cX7_readHostage 29 = .ok (.aload_n 0, 1) := by decide +kernel
theorem dX7_readHostage_30 : decode cX7_readHostage 30 = .ok (.invokevirtual 81, 3) := by decide +kernel
theorem dX7_readHostage_33 : decode cX7_readHostage 33 = .ok (.return_, 1) := by decide +kernel
set_option maxRecDepth 20000 in
theorem ggX7_readBags_X7_takeWord : GoodIn wsX7_readBags wsX7_takeWord := goodIn_r _ [5, 6, 7, 8, 9, 4, 10, 11, 12, 50, 51, 52, 53, 54] (by decide +kernel) (by decide +kernel)
set_option maxRecDepth 20000 in
theorem gX7_readBags_X7_takeWord : GoodIn wsX7_readBags (wsV RX7 67 RX7 yX7_takeWord wsX7_takeWord) := goodIn_app (goodIn_of _ (by decide +kernel)) ggX7_readBags_X7_takeWord
set_option maxRecDepth 20000 in
theorem ggX7_readBags_X7_number : GoodIn wsX7_readBags wsX7_number := goodIn_r _ [16, 6, 17, 18, 19, 4, 20, 21, 22, 23, 24, 25, 26, 27, 28, 29, 7, 8, 9, 10, 11, 12, 50, 51, 52, 53, 54] (by decide +kernel) (by decide +kernel)
set_option maxRecDepth 20000 in
theorem gX7_readBags_X7_number : GoodIn wsX7_readBags (wsV RX7 71 RX7 yX7_number wsX7_number) := goodIn_app (goodIn_of _ (by decide +kernel)) ggX7_readBags_X7_number
set_option maxRecDepth 20000 in
theorem ggX7_readBags_X7_close : GoodIn wsX7_readBags wsX7_close := goodIn_r _ [33, 6, 34, 35, 36, 4, 37, 17, 18, 19, 20, 21, 22, 23, 24, 25, 26, 7, 8, 9, 10, 11, 12, 50, 51, 52, 53, 54] (by decide +kernel) (by decide +kernel)
set_option maxRecDepth 20000 in
theorem gX7_readBags_X7_close : GoodIn wsX7_readBags (wsV RX7 81 RX7 yX7_close wsX7_close) := goodIn_app (goodIn_of _ (by decide +kernel)) ggX7_readBags_X7_close
theorem dX7_readBags_0 : decode cX7_readBags 0 = .ok (.aload_n 0, 1) := by decide +kernel
theorem dX7_readBags_1 : decode cX7_readBags 1 = .ok (.aload_n 1, 1) := by decide +kernel
theorem dX7_readBags_2 : decode cX7_readBags 2 = .ok (.getfield 107, 3) := by decide +kernel
theorem dX7_readBags_5 : decode cX7_readBags 5 = .ok (.ifCond .le 7, 3) := by decide +kernel
theorem dX7_readBags_8 : decode cX7_readBags 8 = .ok (.iconst 1, 1) := by decide +kernel
theorem dX7_readBags_9 : decode cX7_readBags 9 = .ok (.goto 4, 3) := by decide +kernel
theorem dX7_readBags_12 : decode cX7_readBags 12 = .ok (.iconst 0, 1) := by decide +kernel
theorem dX7_readBags_13 : decode cX7_readBags 13 = .ok (.invokevirtual 67, 3) := by decide +kernel
theorem dX7_readBags_16 : decode cX7_readBags 16 = .ok (.aload_n 1, 1) := by decide +kernel
theorem dX7_readBags_17 : decode cX7_readBags 17 = .ok (.aload_n 0, 1) := by decide +kernel
theorem dX7_readBags_18 : decode cX7_readBags 18 = .ok (.iconst 1, 1) := by decide +kernel
theorem dX7_readBags_19 : decode cX7_readBags 19 = .ok (.bipush 99, 2) := by decide +kernel
theorem dX7_readBags_21 : decode cX7_readBags 21 = .ok (.invokevirtual 71, 3) := by decide +kernel
theorem dX7_readBags_24 : decode cX7_readBags 24 = .ok (.putfield 110, 3) := by decide +kernel
theorem dX7_readBags_27 : decode cX7_readBags 27 = .ok (.aload_n 1, 1) := by decide +kernel
theorem dX7_readBags_28 : decode cX7_readBags 28 = .ok (.aload_n 0, 1) := by decide +kernel
theorem dX7_readBags_29 : decode cX7_readBags 29 = .ok (.iconst 1, 1) := by decide +kernel
theorem dX7_readBags_30 : decode cX7_readBags 30 = .ok (.bipush 8, 2) := by decide +kernel
theorem dX7_readBags_32 : decode cX7_readBags 32 = .ok (.invokevirtual 71, 3) := by decide +kernel
theorem dX7_readBags_35 : decode cX7_readBags 35 = .ok (.putfield 107, 3) := by decide +kernel
theorem dX7_readBags_38 : decode cX7_readBags 38 = .ok (.aload_n 0, 1) := by decide +kernel
theorem dX7_readBags_39 : decode cX7_readBags 39 = .ok (.invokevirtual 81, 3) := by decide +kernel
theorem dX7_readBags_42 : decode cX7_readBags 42 = .ok (.return_, 1) := by decide +kernel
set_option maxRecDepth 20000 in
theorem ggX7_takeWord_X7_fail : GoodIn wsX7_takeWord wsX7_fail := goodIn_r _ [6, 7, 8, 9, 10, 11, 12, 13] (by decide +kernel) (by decide +kernel)
set_option maxRecDepth 20000 in
theorem gX7_takeWord_X7_fail : GoodIn wsX7_takeWord (wsV RX7 48 RX7 yX7_fail wsX7_fail) := goodIn_app (goodIn_of _ (by decide +kernel)) ggX7_takeWord_X7_fail
theorem dX7_takeWord_0 : decode cX7_takeWord 0 = .ok (.iload_n 1, 1) := by decide +kernel
theorem dX7_takeWord_1 : decode cX7_takeWord 1 = .ok (.ifCond .eq 12, 3) := by decide +kernel
theorem dX7_takeWord_4 : decode cX7_takeWord 4 = .ok (.aload_n 0, 1) := by decide +kernel
theorem dX7_takeWord_5 : decode cX7_takeWord 5 = .ok (.iconst 3, 1) := by decide +kernel
theorem dX7_takeWord_6 : decode cX7_takeWord 6 = .ok (.aload_n 0, 1) := by decide +kernel
theorem dX7_takeWord_7 : decode cX7_takeWord 7 = .ok (.getfield 27, 3) := by decide +kernel
theorem dX7_takeWord_10 : decode cX7_takeWord 10 = .ok (.invokevirtual 48, 3) := by decide +kernel
theorem dX7_takeWord_13 : decode cX7_takeWord 13 = .ok (.aload_n 0, 1) := by decide +kernel
theorem dX7_takeWord_14 : decode cX7_takeWord 14 = .ok (.dup, 1) := by decide +kernel
theorem dX7_takeWord_15 : decode cX7_takeWord 15 = .ok (.getfield 27, 3) := by decide +kernel
theorem dX7_takeWord_18 : decode cX7_takeWord 18 = .ok (.iconst 1, 1) := by decide +kernel
theorem dX7_takeWord_19 : decode cX7_takeWord 19 = .ok (.iadd, 1) := by decide +kernel
theorem dX7_takeWord_20 : decode cX7_takeWord 20 = .ok (.putfield 27, 3) := by decide +kernel
theorem dX7_takeWord_23 : decode cX7_takeWord 23 = .ok (.return_, 1) := by decide +kernel
set_option maxRecDepth 20000 in
theorem ggX7_number_X7_skipBlanks : GoodIn wsX7_number wsX7_skipBlanks := goodIn_r _ [6, 1, 7, 8, 9, 5, 10, 11, 12, 22, 23, 24, 25, 26] (by decide +kernel) (by decide +kernel)
set_option maxRecDepth 20000 in
theorem gX7_number_X7_skipBlanks : GoodIn wsX7_number (wsV RX7 33 RX7 yX7_skipBlanks wsX7_skipBlanks) := goodIn_app (goodIn_of _ (by decide +kernel)) ggX7_number_X7_skipBlanks
set_option maxRecDepth 20000 in
theorem ggX7_number_X7_here : GoodIn wsX7_number wsX7_here := goodIn_r _ [10, 1, 11, 12, 22, 23, 24, 25, 26] (by decide +kernel) (by decide +kernel)
set_option maxRecDepth 20000 in
theorem gX7_number_X7_here : GoodIn wsX7_number (wsV RX7 40 RX7 yX7_here wsX7_here) := goodIn_app (goodIn_of _ (by decide +kernel)) ggX7_number_X7_here
set_option maxRecDepth 20000 in
theorem ggX7_number_X7_isFigure : GoodIn wsX7_number wsX7_isFigure := goodIn_r _ [15] (by decide +kernel) (by decide +kernel)
set_option maxRecDepth 20000 in
theorem gX7_number_X7_isFigure : GoodIn wsX7_number (va_wsS RX7 113 yX7_isFigure wsX7_isFigure) := goodIn_app (goodIn_of _ (by decide +kernel)) ggX7_number_X7_isFigure
set_option maxRecDepth 20000 in
theorem ggX7_number_X7_fail : GoodIn wsX7_number wsX7_fail := goodIn_r _ [19, 20, 21, 22, 23, 24, 25, 26] (by decide +kernel) (by decide +kernel)
set_option maxRecDepth 20000 in
theorem gX7_number_X7_fail : GoodIn wsX7_number (wsV RX7 48 RX7 yX7_fail wsX7_fail) := goodIn_app (goodIn_of _ (by decide +kernel)) ggX7_number_X7_fail
theorem dX7_number_0 : decode cX7_number 0 = .ok (.aload_n 0, 1) := by decide +kernel
theorem dX7_number_1 : decode cX7_number 1 = .ok (.invokevirtual 33, 3) := by decide +kernel
theorem dX7_number_4 : decode cX7_number 4 = .ok (.aload_n 0, 1) := by decide +kernel
theorem dX7_number_5 : decode cX7_number 5 = .ok (.getfield 27, 3) := by decide +kernel
theorem dX7_number_8 : decode cX7_number 8 = .ok (.istore_n 3, 1) := by decide +kernel
theorem dX7_number_9 : decode cX7_number 9 = .ok (.iconst 0, 1) := by decide +kernel
theorem dX7_number_10 : decode cX7_number 10 = .ok (.istore 4, 2) := by decide +kernel
theorem dX7_number_12 : decode cX7_number 12 = .ok (.iconst 0, 1) := by decide +kernel
theorem dX7_number_13 : decode cX7_number 13 = .ok (.istore 5, 2) := by decide +kernel
theorem dX7_number_15 : decode cX7_number 15 = .ok (.iload 5, 2) := by decide +kernel
theorem dX7_number_17 : decode cX7_number 17 = .ok (.sipush 240, 3) := by decide +kernel
theorem dX7_number_20 : decode cX7_number 20 = .ok (.if_icmp .ge 50, 3) := by decide +kernel
theorem dX7_number_23 : decode cX7_number 23 = .ok (.aload_n 0, 1) := by decide +kernel
theorem dX7_number_24 : decode cX7_number 24 = .ok (.invokevirtual 40, 3) := by decide +kernel
theorem dX7_number_27 : decode cX7_number 27 = .ok (.invokestatic 113, 3) := by decide +kernel
theorem dX7_number_30 : decode cX7_number 30 = .ok (.ifCond .eq 40, 3) := by decide +kernel
theorem dX7_number_33 : decode cX7_number 33 = .ok (.iload 5, 2) := by decide +kernel
theorem dX7_number_35 : decode cX7_number 35 = .ok (.iconst 3, 1) := by decide +kernel
theorem dX7_number_36 : decode cX7_number 36 = .ok (.if_icmp .ge 18, 3) := by decide +kernel
theorem dX7_number_39 : decode cX7_number 39 = .ok (.iload 4, 2) := by decide +kernel
theorem dX7_number_41 : decode cX7_number 41 = .ok (.bipush 10, 2) := by decide +kernel
theorem dX7_number_43 : decode cX7_number 43 = .ok (.imul, 1) := by decide +kernel
theorem dX7_number_44 : decode cX7_number 44 = .ok (.aload_n 0, 1) := by decide +kernel
theorem dX7_number_45 : decode cX7_number 45 = .ok (.invokevirtual 40, 3) := by decide +kernel
theorem dX7_number_48 : decode cX7_number 48 = .ok (.iadd, 1) := by decide +kernel
theorem dX7_number_49 : decode cX7_number 49 = .ok (.bipush 48, 2) := by decide +kernel
theorem dX7_number_51 : decode cX7_number 51 = .ok (.isub, 1) := by decide +kernel
theorem dX7_number_52 : decode cX7_number 52 = .ok (.istore 4, 2) := by decide +kernel
theorem dX7_number_54 : decode cX7_number 54 = .ok (.aload_n 0, 1) := by decide +kernel
theorem dX7_number_55 : decode cX7_number 55 = .ok (.dup, 1) := by decide +kernel
theorem dX7_number_56 : decode cX7_number 56 = .ok (.getfield 27, 3) := by decide +kernel
theorem dX7_number_59 : decode cX7_number 59 = .ok (.iconst 1, 1) := by decide +kernel
theorem dX7_number_60 : decode cX7_number 60 = .ok (.iadd, 1) := by decide +kernel
theorem dX7_number_61 : decode cX7_number 61 = .ok (.putfield 27, 3) := by decide +kernel
theorem dX7_number_64 : decode cX7_number 64 = .ok (.iinc 5 1, 3) := by decide +kernel
theorem dX7_number_67 : decode cX7_number 67 = .ok (.goto (-52), 3) := by decide +kernel
theorem dX7_number_70 : decode cX7_number 70 = .ok (.aload_n 0, 1) := by decide +kernel
theorem dX7_number_71 : decode cX7_number 71 = .ok (.getfield 27, 3) := by decide +kernel
theorem dX7_number_74 : decode cX7_number 74 = .ok (.iload_n 3, 1) := by decide +kernel
theorem dX7_number_75 : decode cX7_number 75 = .ok (.if_icmp .ne 12, 3) := by decide +kernel
theorem dX7_number_78 : decode cX7_number 78 = .ok (.aload_n 0, 1) := by decide +kernel
theorem dX7_number_79 : decode cX7_number 79 = .ok (.iconst 1, 1) := by decide +kernel
theorem dX7_number_80 : decode cX7_number 80 = .ok (.iload_n 3, 1) := by decide +kernel
theorem dX7_number_81 : decode cX7_number 81 = .ok (.invokevirtual 48, 3) := by decide +kernel
theorem dX7_number_84 : decode cX7_number 84 = .ok (.goto 31, 3) := by decide +kernel
theorem dX7_number_87 : decode cX7_number 87 = .ok (.aload_n 0, 1) := by decide +kernel
theorem dX7_number_88 : decode cX7_number 88 = .ok (.getfield 27, 3) := by decide +kernel
theorem dX7_number_91 : decode cX7_number 91 = .ok (.iload_n 3, 1) := by decide +kernel
theorem dX7_number_92 : decode cX7_number 92 = .ok (.isub, 1) := by decide +kernel
theorem dX7_number_93 : decode cX7_number 93 = .ok (.iconst 3, 1) := by decide +kernel
theorem dX7_number_94 : decode cX7_number 94 = .ok (.if_icmp .gt 15, 3) := by decide +kernel
theorem dX7_number_97 : decode cX7_number 97 = .ok (.iload 4, 2) := by decide +kernel
theorem dX7_number_99 : decode cX7_number 99 = .ok (.iload_n 1, 1) := by decide +kernel
theorem dX7_number_100 : decode cX7_number 100 = .ok (.if_icmp .lt 9, 3) := by decide +kernel
theorem dX7_number_103 : decode cX7_number 103 = .ok (.iload 4, 2) := by decide +kernel
theorem dX7_number_105 : decode cX7_number 105 = .ok (.iload_n 2, 1) := by decide +kernel
theorem dX7_number_106 : decode cX7_number 106 = .ok (.if_icmp .le 9, 3) := by decide +kernel
theorem dX7_number_109 : decode cX7_number 109 = .ok (.aload_n 0, 1) := by decide +kernel
theorem dX7_number_110 : decode cX7_number 110 = .ok (.iconst 2, 1) := by decide +kernel
theorem dX7_number_111 : decode cX7_number 111 = .ok (.iload_n 3, 1) := by decide +kernel
theorem dX7_number_112 : decode cX7_number 112 = .ok (.invokevirtual 48, 3) := by decide +kernel
theorem dX7_number_115 : decode cX7_number 115 = .ok (.iload 4, 2) := by decide +kernel
theorem dX7_number_117 : decode cX7_number 117 = .ok (.ireturn, 1) := by decide +kernel
set_option maxRecDepth 20000 in
theorem ggX7_close_X7_takes : GoodIn wsX7_close wsX7_takes := goodIn_r _ [6, 1, 7, 8, 9, 5, 10, 11, 12, 13, 14, 15, 16, 23, 24, 25, 26, 27] (by decide +kernel) (by decide +kernel)
set_option maxRecDepth 20000 in
theorem gX7_close_X7_takes : GoodIn wsX7_close (wsV RX7 97 RX7 yX7_takes wsX7_takes) := goodIn_app (goodIn_of _ (by decide +kernel)) ggX7_close_X7_takes
set_option maxRecDepth 20000 in
theorem ggX7_close_X7_fail : GoodIn wsX7_close wsX7_fail := goodIn_r _ [20, 21, 22, 23, 24, 25, 26, 27] (by decide +kernel) (by decide +kernel)
set_option maxRecDepth 20000 in
theorem gX7_close_X7_fail : GoodIn wsX7_close (wsV RX7 48 RX7 yX7_fail wsX7_fail) := goodIn_app (goodIn_of _ (by decide +kernel)) ggX7_close_X7_fail
theorem dX7_close_0 : decode cX7_close 0 = .ok (.aload_n 0, 1) := by decide +kernel
theorem dX7_close_1 : decode cX7_close 1 = .ok (.bipush 59, 2) := by decide +kernel
theorem dX7_close_3 : decode cX7_close 3 = .ok (.invokevirtual 97, 3) := by decide +kernel
theorem dX7_close_6 : decode cX7_close 6 = .ok (.ifCond .ne 12, 3) := by decide +kernel
theorem dX7_close_9 : decode cX7_close 9 = .ok (.aload_n 0, 1) := by decide +kernel
theorem dX7_close_10 : decode cX7_close 10 = .ok (.iconst 1, 1) := by decide +kernel
theorem dX7_close_11 : decode cX7_close 11 = .ok (.aload_n 0, 1) := by decide +kernel
theorem dX7_close_12 : decode cX7_close 12 = .ok (.getfield 27, 3) := by decide +kernel
theorem dX7_close_15 : decode cX7_close 15 = .ok (.invokevirtual 48, 3) := by decide +kernel
theorem dX7_close_18 : decode cX7_close 18 = .ok (.return_, 1) := by decide +kernel
set_option maxRecDepth 20000 in
theorem ggX7_takes_X7_skipBlanks : GoodIn wsX7_takes wsX7_skipBlanks := goodIn_r _ [6, 1, 7, 8, 9, 5, 10, 11, 12, 13, 14, 15, 16, 17] (by decide +kernel) (by decide +kernel)
set_option maxRecDepth 20000 in
theorem gX7_takes_X7_skipBlanks : GoodIn wsX7_takes (wsV RX7 33 RX7 yX7_skipBlanks wsX7_skipBlanks) := goodIn_app (goodIn_of _ (by decide +kernel)) ggX7_takes_X7_skipBlanks
set_option maxRecDepth 20000 in
theorem ggX7_takes_X7_here : GoodIn wsX7_takes wsX7_here := goodIn_r _ [10, 1, 11, 12, 13, 14, 15, 16, 17] (by decide +kernel) (by decide +kernel)
set_option maxRecDepth 20000 in
theorem gX7_takes_X7_here : GoodIn wsX7_takes (wsV RX7 40 RX7 yX7_here wsX7_here) := goodIn_app (goodIn_of _ (by decide +kernel)) ggX7_takes_X7_here
theorem dX7_takes_0 : decode cX7_takes 0 = .ok (.aload_n 0, 1) := by decide +kernel
theorem dX7_takes_1 : decode cX7_takes 1 = .ok (.invokevirtual 33, 3) := by decide +kernel
theorem dX7_takes_4 : decode cX7_takes 4 = .ok (.aload_n 0, 1) := by decide +kernel
theorem dX7_takes_5 : decode cX7_takes 5 = .ok (.invokevirtual 40, 3) := by decide +kernel
theorem dX7_takes_8 : decode cX7_takes 8 = .ok (.iload_n 1, 1) := by decide +kernel
theorem dX7_takes_9 : decode cX7_takes 9 = .ok (.if_icmp .eq 5, 3) := by decide +kernel
theorem dX7_takes_12 : decode cX7_takes 12 = .ok (.iconst 0, 1) := by decide +kernel
theorem dX7_takes_13 : decode cX7_takes 13 = .ok (.ireturn, 1) := by decide +kernel
theorem dX7_takes_14 : decode cX7_takes 14 = .ok (.aload_n 0, 1) := by decide +kernel
theorem dX7_takes_15 : decode cX7_takes 15 = .ok (.dup, 1) := by decide +kernel
theorem dX7_takes_16 : decode cX7_takes 16 = .ok (.getfield 27, 3) := by decide +kernel
theorem dX7_takes_19 : decode cX7_takes 19 = .ok (.iconst 1, 1) := by decide +kernel
theorem dX7_takes_20 : decode cX7_takes 20 = .ok (.iadd, 1) := by decide +kernel
theorem dX7_takes_21 : decode cX7_takes 21 = .ok (.putfield 27, 3) := by decide +kernel
theorem dX7_takes_24 : decode cX7_takes 24 = .ok (.iconst 1, 1) := by decide +kernel
theorem dX7_takes_25 : decode cX7_takes 25 = .ok (.ireturn, 1) := by decide +kernel
set_option maxRecDepth 20000 in
theorem ggX7_skipBlanks_X7_here : GoodIn wsX7_skipBlanks wsX7_here := goodIn_r _ [6, 1, 7, 8, 9, 10, 11, 12, 13] (by decide +kernel) (by decide +kernel)
set_option maxRecDepth 20000 in
theorem gX7_skipBlanks_X7_here : GoodIn wsX7_skipBlanks (wsV RX7 40 RX7 yX7_here wsX7_here) := goodIn_app (goodIn_of _ (by decide +kernel)) ggX7_skipBlanks_X7_here
theorem dX7_skipBlanks_0 : decode cX7_skipBlanks 0 = .ok (.iconst 0, 1) := by decide +kernel
theorem dX7_skipBlanks_1 : decode cX7_skipBlanks 1 = .ok (.istore_n 1, 1) := by decide +kernel
theorem dX7_skipBlanks_2 : decode cX7_skipBlanks 2 = .ok (.iload_n 1, 1) := by decide +kernel
theorem dX7_skipBlanks_3 : decode cX7_skipBlanks 3 = .ok (.sipush 240, 3) := by decide +kernel
theorem dX7_skipBlanks_6 : decode cX7_skipBlanks 6 = .ok (.if_icmp .ge 28, 3) := by decide +kernel
theorem dX7_skipBlanks_9 : decode cX7_skipBlanks 9 = .ok (.aload_n 0, 1) := by decide +kernel
theorem dX7_skipBlanks_10 : decode cX7_skipBlanks 10 = .ok (.invokevirtual 40, 3) := by decide +kernel
theorem dX7_skipBlanks_13 : decode cX7_skipBlanks 13 = .ok (.bipush 32, 2) := by decide +kernel
theorem dX7_skipBlanks_15 : decode cX7_skipBlanks 15 = .ok (.if_icmp .ne 19, 3) := by decide +kernel
theorem dX7_skipBlanks_18 : decode cX7_skipBlanks 18 = .ok (.aload_n 0, 1) := by decide +kernel
theorem dX7_skipBlanks_19 : decode cX7_skipBlanks 19 = .ok (.dup, 1) := by decide +kernel
theorem dX7_skipBlanks_20 : decode cX7_skipBlanks 20 = .ok (.getfield 27, 3) := by decide +kernel
theorem dX7_skipBlanks_23 : decode cX7_skipBlanks 23 = .ok (.iconst 1, 1) := by decide +kernel
theorem dX7_skipBlanks_24 : decode cX7_skipBlanks 24 = .ok (.iadd, 1) := by decide +kernel
theorem dX7_skipBlanks_25 : decode cX7_skipBlanks 25 = .ok (.putfield 27, 3) := by decide +kernel
theorem dX7_skipBlanks_28 : decode cX7_skipBlanks 28 = .ok (.iinc 1 1, 3) := by decide +kernel
theorem dX7_skipBlanks_31 : decode cX7_skipBlanks 31 = .ok (.goto (-29), 3) := by decide +kernel
theorem dX7_skipBlanks_34 : decode cX7_skipBlanks 34 = .ok (.return_, 1) := by decide +kernel
theorem dX7_here_0 : decode cX7_here 0 = .ok (.aload_n 0, 1) := by decide +kernel
theorem dX7_here_1 : decode cX7_here 1 = .ok (.getfield 27, 3) := by decide +kernel
theorem dX7_here_4 : decode cX7_here 4 = .ok (.ifCond .lt 26, 3) := by decide +kernel
theorem dX7_here_7 : decode cX7_here 7 = .ok (.aload_n 0, 1) := by decide +kernel
theorem dX7_here_8 : decode cX7_here 8 = .ok (.getfield 27, 3) := by decide +kernel
theorem dX7_here_11 : decode cX7_here 11 = .ok (.aload_n 0, 1) := by decide +kernel
theorem dX7_here_12 : decode cX7_here 12 = .ok (.getfield 19, 3) := by decide +kernel
theorem dX7_here_15 : decode cX7_here 15 = .ok (.if_icmp .ge 15, 3) := by decide +kernel
theorem dX7_here_18 : decode cX7_here 18 = .ok (.aload_n 0, 1) := by decide +kernel
theorem dX7_here_19 : decode cX7_here 19 = .ok (.getfield 9, 3) := by decide +kernel
theorem dX7_here_22 : decode cX7_here 22 = .ok (.aload_n 0, 1) := by decide +kernel
theorem dX7_here_23 : decode cX7_here 23 = .ok (.getfield 27, 3) := by decide +kernel
theorem dX7_here_26 : decode cX7_here 26 = .ok (.iaload, 1) := by decide +kernel
theorem dX7_here_27 : decode cX7_here 27 = .ok (.goto 4, 3) := by decide +kernel
theorem dX7_here_30 : decode cX7_here 30 = .ok (.iconst (-1), 1) := by decide +kernel
theorem dX7_here_31 : decode cX7_here 31 = .ok (.ireturn, 1) := by decide +kernel
theorem dX7_isFigure_0 : decode cX7_isFigure 0 = .ok (.iload_n 0, 1) := by decide +kernel
theorem dX7_isFigure_1 : decode cX7_isFigure 1 = .ok (.bipush 48, 2) := by decide +kernel
theorem dX7_isFigure_3 : decode cX7_isFigure 3 = .ok (.if_icmp .lt 13, 3) := by decide +kernel
theorem dX7_isFigure_6 : decode cX7_isFigure 6 = .ok (.iload_n 0, 1) := by decide +kernel
theorem dX7_isFigure_7 : decode cX7_isFigure 7 = .ok (.bipush 57, 2) := by decide +kernel
theorem dX7_isFigure_9 : decode cX7_isFigure 9 = .ok (.if_icmp .gt 7, 3) := by decide +kernel
theorem dX7_isFigure_12 : decode cX7_isFigure 12 = .ok (.iconst 1, 1) := by decide +kernel
theorem dX7_isFigure_13 : decode cX7_isFigure 13 = .ok (.goto 4, 3) := by decide +kernel
theorem dX7_isFigure_16 : decode cX7_isFigure 16 = .ok (.iconst 0, 1) := by decide +kernel
theorem dX7_isFigure_17 : decode cX7_isFigure 17 = .ok (.ireturn, 1) := by decide +kernel
theorem dX7_fail_0 : decode cX7_fail 0 = .ok (.aload_n 0, 1) := by decide +kernel
theorem dX7_fail_1 : decode cX7_fail 1 = .ok (.getfield 30, 3) := by decide +kernel
theorem dX7_fail_4 : decode cX7_fail 4 = .ok (.ifCond .ne 13, 3) := by decide +kernel
theorem dX7_fail_7 : decode cX7_fail 7 = .ok (.aload_n 0, 1) := by decide +kernel
theorem dX7_fail_8 : decode cX7_fail 8 = .ok (.iload_n 1, 1) := by decide +kernel
theorem dX7_fail_9 : decode cX7_fail 9 = .ok (.putfield 30, 3) := by decide +kernel
theorem dX7_fail_12 : decode cX7_fail 12 = .ok (.aload_n 0, 1) := by decide +kernel
theorem dX7_fail_13 : decode cX7_fail 13 = .ok (.iload_n 2, 1) := by decide +kernel
theorem dX7_fail_14 : decode cX7_fail 14 = .ok (.putfield 15, 3) := by decide +kernel
theorem dX7_fail_17 : decode cX7_fail 17 = .ok (.return_, 1) := by decide +kernel
theorem dJ6_bitCount_0f7a4_0 : decode cJ6_bitCount_0f7a4 0 = .ok (.iload_n 0, 1) := by decide +kernel
theorem dJ6_bitCount_0f7a4_1 : decode cJ6_bitCount_0f7a4 1 = .ok (.iload_n 0, 1) := by decide +kernel
theorem dJ6_bitCount_0f7a4_2 : decode cJ6_bitCount_0f7a4 2 = .ok (.iconst 1, 1) := by decide +kernel
theorem dJ6_bitCount_0f7a4_3 : decode cJ6_bitCount_0f7a4 3 = .ok (.iushr, 1) := by decide +kernel
theorem dJ6_bitCount_0f7a4_4 : decode cJ6_bitCount_0f7a4 4 = .ok (.ldc_w 265, 3) := by decide +kernel
theorem dJ6_bitCount_0f7a4_7 : decode cJ6_bitCount_0f7a4 7 = .ok (.iand, 1) := by decide +kernel
theorem dJ6_bitCount_0f7a4_8 : decode cJ6_bitCount_0f7a4 8 = .ok (.isub, 1) := by decide +kernel
theorem dJ6_bitCount_0f7a4_9 : decode cJ6_bitCount_0f7a4 9 = .ok (.istore_n 0, 1) := by decide +kernel
theorem dJ6_bitCount_0f7a4_10 : decode cJ6_bitCount_0f7a4 10 = .ok (.iload_n 0, 1) := by decide +kernel
theorem dJ6_bitCount_0f7a4_11 : decode cJ6_bitCount_0f7a4 11 = .ok (.ldc_w 266, 3) := by decide +kernel
theorem dJ6_bitCount_0f7a4_14 : decode cJ6_bitCount_0f7a4 14 = .ok (.iand, 1) := by decide +kernel
theorem dJ6_bitCount_0f7a4_15 : decode cJ6_bitCount_0f7a4 15 = .ok (.iload_n 0, 1) := by decide +kernel
theorem dJ6_bitCount_0f7a4_16 : decode cJ6_bitCount_0f7a4 16 = .ok (.iconst 2, 1) := by decide +kernel
theorem dJ6_bitCount_0f7a4_17 : decode cJ6_bitCount_0f7a4 17 = .ok (.iushr, 1) := by decide +kernel
theorem dJ6_bitCount_0f7a4_18 : decode cJ6_bitCount_0f7a4 18 = .ok (.ldc_w 266, 3) := by decide +kernel
theorem dJ6_bitCount_0f7a4_21 : decode cJ6_bitCount_0f7a4 21 = .ok (.iand, 1) := by decide +kernel
theorem dJ6_bitCount_0f7a4_22 : decode cJ6_bitCount_0f7a4 22 = .ok (.iadd, 1) := by decide +kernel
theorem dJ6_bitCount_0f7a4_23 : decode cJ6_bitCount_0f7a4 23 = .ok (.istore_n 0, 1) := by decide +kernel
theorem dJ6_bitCount_0f7a4_24 : decode cJ6_bitCount_0f7a4 24 = .ok (.iload_n 0, 1) := by decide +kernel
theorem dJ6_bitCount_0f7a4_25 : decode cJ6_bitCount_0f7a4 25 = .ok (.iload_n 0, 1) := by decide +kernel
theorem dJ6_bitCount_0f7a4_26 : decode cJ6_bitCount_0f7a4 26 = .ok (.iconst 4, 1) := by decide +kernel
theorem dJ6_bitCount_0f7a4_27 : decode cJ6_bitCount_0f7a4 27 = .ok (.iushr, 1) := by decide +kernel
theorem dJ6_bitCount_0f7a4_28 : decode cJ6_bitCount_0f7a4 28 = .ok (.iadd, 1) := by decide +kernel
theorem dJ6_bitCount_0f7a4_29 : decode cJ6_bitCount_0f7a4 29 = .ok (.ldc_w 267, 3) := by decide +kernel
theorem dJ6_bitCount_0f7a4_32 : decode cJ6_bitCount_0f7a4 32 = .ok (.iand, 1) := by decide +kernel
theorem dJ6_bitCount_0f7a4_33 : decode cJ6_bitCount_0f7a4 33 = .ok (.istore_n 0, 1) := by decide +kernel
theorem dJ6_bitCount_0f7a4_34 : decode cJ6_bitCount_0f7a4 34 = .ok (.iload_n 0, 1) := by decide +kernel
theorem dJ6_bitCount_0f7a4_35 : decode cJ6_bitCount_0f7a4 35 = .ok (.iload_n 0, 1) := by decide +kernel
theorem dJ6_bitCount_0f7a4_36 : decode cJ6_bitCount_0f7a4 36 = .ok (.bipush 8, 2) := by decide +kernel
theorem dJ6_bitCount_0f7a4_38 : decode cJ6_bitCount_0f7a4 38 = .ok (.iushr, 1) := by decide +kernel
theorem dJ6_bitCount_0f7a4_39 : decode cJ6_bitCount_0f7a4 39 = .ok (.iadd, 1) := by decide +kernel
theorem dJ6_bitCount_0f7a4_40 : decode cJ6_bitCount_0f7a4 40 = .ok (.istore_n 0, 1) := by decide +kernel
theorem dJ6_bitCount_0f7a4_41 : decode cJ6_bitCount_0f7a4 41 = .ok (.iload_n 0, 1) := by decide +kernel
theorem dJ6_bitCount_0f7a4_42 : decode cJ6_bitCount_0f7a4 42 = .ok (.iload_n 0, 1) := by decide +kernel
theorem dJ6_bitCount_0f7a4_43 : decode cJ6_bitCount_0f7a4 43 = .ok (.bipush 16, 2) := by decide +kernel
theorem dJ6_bitCount_0f7a4_45 : decode cJ6_bitCount_0f7a4 45 = .ok (.iushr, 1) := by decide +kernel
theorem dJ6_bitCount_0f7a4_46 : decode cJ6_bitCount_0f7a4 46 = .ok (.iadd, 1) := by decide +kernel
theorem dJ6_bitCount_0f7a4_47 : decode cJ6_bitCount_0f7a4 47 = .ok (.istore_n 0, 1) := by decide +kernel
theorem dJ6_bitCount_0f7a4_48 : decode cJ6_bitCount_0f7a4 48 = .ok (.iload_n 0, 1) := by decide +kernel
theorem dJ6_bitCount_0f7a4_49 : decode cJ6_bitCount_0f7a4 49 = .ok (.bipush 63, 2) := by decide +kernel
theorem dJ6_bitCount_0f7a4_51 : decode cJ6_bitCount_0f7a4 51 = .ok (.iand, 1) := by decide +kernel
theorem dJ6_bitCount_0f7a4_52 : decode cJ6_bitCount_0f7a4 52 = .ok (.ireturn, 1) := by decide +kernel
theorem dJ9_max_7cf53_0 : decode cJ9_max_7cf53 0 = .ok (.iload_n 0, 1) := by decide +kernel
theorem dJ9_max_7cf53_1 : decode cJ9_max_7cf53 1 = .ok (.iload_n 1, 1) := by decide +kernel
theorem dJ9_max_7cf53_2 : decode cJ9_max_7cf53 2 = .ok (.if_icmp .lt 7, 3) := by decide +kernel
theorem dJ9_max_7cf53_5 : decode cJ9_max_7cf53 5 = .ok (.iload_n 0, 1) := by decide +kernel
theorem dJ9_max_7cf53_6 : decode cJ9_max_7cf53 6 = .ok (.goto 4, 3) := by decide +kernel
theorem dJ9_max_7cf53_9 : decode cJ9_max_7cf53 9 = .ok (.iload_n 1, 1) := by decide +kernel
theorem dJ9_max_7cf53_10 : decode cJ9_max_7cf53 10 = .ok (.ireturn, 1) := by decide +kernel
theorem dJ9_min_7cf53_0 : decode cJ9_min_7cf53 0 = .ok (.iload_n 0, 1) := by decide +kernel
theorem dJ9_min_7cf53_1 : decode cJ9_min_7cf53 1 = .ok (.iload_n 1, 1) := by decide +kernel
theorem dJ9_min_7cf53_2 : decode cJ9_min_7cf53 2 = .ok (.if_icmp .gt 7, 3) := by decide +kernel
theorem dJ9_min_7cf53_5 : decode cJ9_min_7cf53 5 = .ok (.iload_n 0, 1) := by decide +kernel
theorem dJ9_min_7cf53_6 : decode cJ9_min_7cf53 6 = .ok (.goto 4, 3) := by decide +kernel
theorem dJ9_min_7cf53_9 : decode cJ9_min_7cf53 9 = .ok (.iload_n 1, 1) := by decide +kernel
theorem dJ9_min_7cf53_10 : decode cJ9_min_7cf53 10 = .ok (.ireturn, 1) := by decide +kernel
