theorem dX9_init_0 : decode cX9_init 0 = .ok (.aload_n 0, 1) := by decide +kernel
theorem dX9_init_1 : decode cX9_init 1 = .ok (.invokespecial 1, 3) := by decide +kernel
theorem dX9_init_4 : decode cX9_init 4 = .ok (.aload_n 0, 1) := by decide +kernel
theorem dX9_init_5 : decode cX9_init 5 = .ok (.bipush 37, 2) := by decide +kernel
theorem dX9_init_7 : decode cX9_init 7 = .ok (.newarray .int, 2) := by decide +kernel
theorem dX9_init_9 : decode cX9_init 9 = .ok (.putfield 7, 3) := by decide +kernel
theorem dX9_init_12 : decode cX9_init 12 = .ok (.aload_n 0, 1) := by decide +kernel
theorem dX9_init_13 : decode cX9_init 13 = .ok (.bipush 17, 2) := by decide +kernel
theorem dX9_init_15 : decode cX9_init 15 = .ok (.newarray .int, 2) := by decide +kernel
theorem dX9_init_17 : decode cX9_init 17 = .ok (.putfield 13, 3) := by decide +kernel
theorem dX9_init_20 : decode cX9_init 20 = .ok (.aload_n 0, 1) := by decide +kernel
theorem dX9_init_21 : decode cX9_init 21 = .ok (.sipush 240, 3) := by decide +kernel
theorem dX9_init_24 : decode cX9_init 24 = .ok (.newarray .int, 2) := by decide +kernel
theorem dX9_init_26 : decode cX9_init 26 = .ok (.putfield 16, 3) := by decide +kernel
theorem dX9_init_29 : decode cX9_init 29 = .ok (.aload_n 0, 1) := by decide +kernel
theorem dX9_init_30 : decode cX9_init 30 = .ok (.iconst (-1), 1) := by decide +kernel
theorem dX9_init_31 : decode cX9_init 31 = .ok (.putfield 19, 3) := by decide +kernel
theorem dX9_init_34 : decode cX9_init 34 = .ok (.aload_n 0, 1) := by decide +kernel
theorem dX9_init_35 : decode cX9_init 35 = .ok (.bipush 37, 2) := by decide +kernel
theorem dX9_init_37 : decode cX9_init 37 = .ok (.newarray .int, 2) := by decide +kernel
theorem dX9_init_39 : decode cX9_init 39 = .ok (.putfield 23, 3) := by decide +kernel
theorem dX9_init_42 : decode cX9_init 42 = .ok (.aload_n 0, 1) := by decide +kernel
theorem dX9_init_43 : decode cX9_init 43 = .ok (.sipush 340, 3) := by decide +kernel
theorem dX9_init_46 : decode cX9_init 46 = .ok (.newarray .int, 2) := by decide +kernel
theorem dX9_init_48 : decode cX9_init 48 = .ok (.putfield 26, 3) := by decide +kernel
theorem dX9_init_51 : decode cX9_init 51 = .ok (.aload_n 0, 1) := by decide +kernel
theorem dX9_init_52 : decode cX9_init 52 = .ok (.bipush 17, 2) := by decide +kernel
theorem dX9_init_54 : decode cX9_init 54 = .ok (.newarray .int, 2) := by decide +kernel
theorem dX9_init_56 : decode cX9_init 56 = .ok (.putfield 29, 3) := by decide +kernel
theorem dX9_init_59 : decode cX9_init 59 = .ok (.aload_n 0, 1) := by decide +kernel
theorem dX9_init_60 : decode cX9_init 60 = .ok (.bipush 12, 2) := by decide +kernel
theorem dX9_init_62 : decode cX9_init 62 = .ok (.newarray .int, 2) := by decide +kernel
theorem dX9_init_64 : decode cX9_init 64 = .ok (.putfield 32, 3) := by decide +kernel
theorem dX9_init_67 : decode cX9_init 67 = .ok (.aload_n 0, 1) := by decide +kernel
theorem dX9_init_68 : decode cX9_init 68 = .ok (.bipush 30, 2) := by decide +kernel
theorem dX9_init_70 : decode cX9_init 70 = .ok (.newarray .int, 2) := by decide +kernel
theorem dX9_init_72 : decode cX9_init 72 = .ok (.putfield 35, 3) := by decide +kernel
theorem dX9_init_75 : decode cX9_init 75 = .ok (.aload_n 0, 1) := by decide +kernel
theorem dX9_init_76 : decode cX9_init 76 = .ok (.iconst 2, 1) := by decide +kernel
theorem dX9_init_77 : decode cX9_init 77 = .ok (.newarray .boolean, 2) := by decide +kernel
theorem dX9_init_79 : decode cX9_init 79 = .ok (.putfield 38, 3) := by decide +kernel
theorem dX9_init_82 : decode cX9_init 82 = .ok (.aload_n 0, 1) := by decide +kernel
theorem dX9_init_83 : decode cX9_init 83 = .ok (.bipush 34, 2) := by decide +kernel
theorem dX9_init_85 : decode cX9_init 85 = .ok (.newarray .int, 2) := by decide +kernel
theorem dX9_init_87 : decode cX9_init 87 = .ok (.putfield 42, 3) := by decide +kernel
theorem dX9_init_90 : decode cX9_init 90 = .ok (.aload_n 0, 1) := by decide +kernel
theorem dX9_init_91 : decode cX9_init 91 = .ok (.iconst 2, 1) := by decide +kernel
theorem dX9_init_92 : decode cX9_init 92 = .ok (.newarray .int, 2) := by decide +kernel
theorem dX9_init_94 : decode cX9_init 94 = .ok (.putfield 45, 3) := by decide +kernel
theorem dX9_init_97 : decode cX9_init 97 = .ok (.return_, 1) := by decide +kernel
theorem dX9_in_0 : decode cX9_in 0 = .ok (.lload_n 0, 1) := by decide +kernel
theorem dX9_in_1 : decode cX9_in 1 = .ok (.lload_n 2, 1) := by decide +kernel
theorem dX9_in_2 : decode cX9_in 2 = .ok (.lcmp, 1) := by decide +kernel
theorem dX9_in_3 : decode cX9_in 3 = .ok (.ifCond .lt 14, 3) := by decide +kernel
theorem dX9_in_6 : decode cX9_in 6 = .ok (.lload_n 0, 1) := by decide +kernel
theorem dX9_in_7 : decode cX9_in 7 = .ok (.lload 4, 2) := by decide +kernel
theorem dX9_in_9 : decode cX9_in 9 = .ok (.lcmp, 1) := by decide +kernel
theorem dX9_in_10 : decode cX9_in 10 = .ok (.ifCond .gt 7, 3) := by decide +kernel
theorem dX9_in_13 : decode cX9_in 13 = .ok (.iconst 1, 1) := by decide +kernel
theorem dX9_in_14 : decode cX9_in 14 = .ok (.goto 4, 3) := by decide +kernel
theorem dX9_in_17 : decode cX9_in 17 = .ok (.iconst 0, 1) := by decide +kernel
theorem dX9_in_18 : decode cX9_in 18 = .ok (.ireturn, 1) := by decide +kernel
theorem dX9_has_0 : decode cX9_has 0 = .ok (.iload_n 0, 1) := by decide +kernel
theorem dX9_has_1 : decode cX9_has 1 = .ok (.iload_n 1, 1) := by decide +kernel
theorem dX9_has_2 : decode cX9_has 2 = .ok (.ishr, 1) := by decide +kernel
theorem dX9_has_3 : decode cX9_has 3 = .ok (.iconst 1, 1) := by decide +kernel
theorem dX9_has_4 : decode cX9_has 4 = .ok (.iand, 1) := by decide +kernel
theorem dX9_has_5 : decode cX9_has 5 = .ok (.iconst 1, 1) := by decide +kernel
theorem dX9_has_6 : decode cX9_has 6 = .ok (.if_icmp .ne 7, 3) := by decide +kernel
theorem dX9_has_9 : decode cX9_has 9 = .ok (.iconst 1, 1) := by decide +kernel
theorem dX9_has_10 : decode cX9_has 10 = .ok (.goto 4, 3) := by decide +kernel
theorem dX9_has_13 : decode cX9_has 13 = .ok (.iconst 0, 1) := by decide +kernel
theorem dX9_has_14 : decode cX9_has 14 = .ok (.ireturn, 1) := by decide +kernel
theorem dX9_ones_0 : decode cX9_ones 0 = .ok (.iconst 0, 1) := by decide +kernel
theorem dX9_ones_1 : decode cX9_ones 1 = .ok (.istore_n 1, 1) := by decide +kernel
theorem dX9_ones_2 : decode cX9_ones 2 = .ok (.iload_n 0, 1) := by decide +kernel
theorem dX9_ones_3 : decode cX9_ones 3 = .ok (.istore_n 2, 1) := by decide +kernel
theorem dX9_ones_4 : decode cX9_ones 4 = .ok (.iload_n 2, 1) := by decide +kernel
theorem dX9_ones_5 : decode cX9_ones 5 = .ok (.ifCond .eq 15, 3) := by decide +kernel
theorem dX9_ones_8 : decode cX9_ones 8 = .ok (.iinc 1 1, 3) := by decide +kernel
theorem dX9_ones_11 : decode cX9_ones 11 = .ok (.iload_n 2, 1) := by decide +kernel
theorem dX9_ones_12 : decode cX9_ones 12 = .ok (.iload_n 2, 1) := by decide +kernel
theorem dX9_ones_13 : decode cX9_ones 13 = .ok (.iconst 1, 1) := by decide +kernel
theorem dX9_ones_14 : decode cX9_ones 14 = .ok (.isub, 1) := by decide +kernel
theorem dX9_ones_15 : decode cX9_ones 15 = .ok (.iand, 1) := by decide +kernel
theorem dX9_ones_16 : decode cX9_ones 16 = .ok (.istore_n 2, 1) := by decide +kernel
theorem dX9_ones_17 : decode cX9_ones 17 = .ok (.goto (-13), 3) := by decide +kernel
theorem dX9_ones_20 : decode cX9_ones 20 = .ok (.iload_n 1, 1) := by decide +kernel
theorem dX9_ones_21 : decode cX9_ones 21 = .ok (.ireturn, 1) := by decide +kernel
set_option maxRecDepth 20000 in
theorem ggX9_feed_X9_in : GoodIn wsX9_feed wsX9_in := goodIn_r _ [9] (by decide +kernel) (by decide +kernel)
set_option maxRecDepth 20000 in
theorem gX9_feed_X9_in : GoodIn wsX9_feed (va_wsS RX9 50 yX9_in wsX9_in) := goodIn_app (goodIn_of _ (by decide +kernel)) ggX9_feed_X9_in
theorem dX9_feed_0 : decode cX9_feed 0 = .ok (.iload_n 1, 1) := by decide +kernel
theorem dX9_feed_1 : decode cX9_feed 1 = .ok (.i2l, 1) := by decide +kernel
theorem dX9_feed_2 : decode cX9_feed 2 = .ok (.lconst 0, 1) := by decide +kernel
theorem dX9_feed_3 : decode cX9_feed 3 = .ok (.ldc2_w 48, 3) := by decide +kernel
theorem dX9_feed_6 : decode cX9_feed 6 = .ok (.invokestatic 50, 3) := by decide +kernel
theorem dX9_feed_9 : decode cX9_feed 9 = .ok (.ifCond .ne 6, 3) := by decide +kernel
theorem dX9_feed_12 : decode cX9_feed 12 = .ok (.ldc 54, 2) := by decide +kernel
theorem dX9_feed_14 : decode cX9_feed 14 = .ok (.ireturn, 1) := by decide +kernel
theorem dX9_feed_15 : decode cX9_feed 15 = .ok (.aload_n 0, 1) := by decide +kernel
theorem dX9_feed_16 : decode cX9_feed 16 = .ok (.getfield 55, 3) := by decide +kernel
theorem dX9_feed_19 : decode cX9_feed 19 = .ok (.sipush 240, 3) := by decide +kernel
theorem dX9_feed_22 : decode cX9_feed 22 = .ok (.if_icmp .ne 6, 3) := by decide +kernel
theorem dX9_feed_25 : decode cX9_feed 25 = .ok (.ldc 58, 2) := by decide +kernel
theorem dX9_feed_27 : decode cX9_feed 27 = .ok (.ireturn, 1) := by decide +kernel
theorem dX9_feed_28 : decode cX9_feed 28 = .ok (.aload_n 0, 1) := by decide +kernel
theorem dX9_feed_29 : decode cX9_feed 29 = .ok (.getfield 16, 3) := by decide +kernel
theorem dX9_feed_32 : decode cX9_feed 32 = .ok (.aload_n 0, 1) := by decide +kernel
theorem dX9_feed_33 : decode cX9_feed 33 = .ok (.getfield 55, 3) := by decide +kernel
theorem dX9_feed_36 : decode cX9_feed 36 = .ok (.iload_n 1, 1) := by decide +kernel
theorem dX9_feed_37 : decode cX9_feed 37 = .ok (.iastore, 1) := by decide +kernel
theorem dX9_feed_38 : decode cX9_feed 38 = .ok (.aload_n 0, 1) := by decide +kernel
theorem dX9_feed_39 : decode cX9_feed 39 = .ok (.dup, 1) := by decide +kernel
theorem dX9_feed_40 : decode cX9_feed 40 = .ok (.getfield 55, 3) := by decide +kernel
theorem dX9_feed_43 : decode cX9_feed 43 = .ok (.iconst 1, 1) := by decide +kernel
theorem dX9_feed_44 : decode cX9_feed 44 = .ok (.iadd, 1) := by decide +kernel
theorem dX9_feed_45 : decode cX9_feed 45 = .ok (.putfield 55, 3) := by decide +kernel
theorem dX9_feed_48 : decode cX9_feed 48 = .ok (.aload_n 0, 1) := by decide +kernel
theorem dX9_feed_49 : decode cX9_feed 49 = .ok (.getfield 55, 3) := by decide +kernel
theorem dX9_feed_52 : decode cX9_feed 52 = .ok (.ireturn, 1) := by decide +kernel
theorem dX9_next_0 : decode cX9_next 0 = .ok (.aload_n 0, 1) := by decide +kernel
theorem dX9_next_1 : decode cX9_next 1 = .ok (.getfield 59, 3) := by decide +kernel
theorem dX9_next_4 : decode cX9_next 4 = .ok (.aload_n 0, 1) := by decide +kernel
theorem dX9_next_5 : decode cX9_next 5 = .ok (.getfield 55, 3) := by decide +kernel
theorem dX9_next_8 : decode cX9_next 8 = .ok (.if_icmp .ge 30, 3) := by decide +kernel
theorem dX9_next_11 : decode cX9_next 11 = .ok (.aload_n 0, 1) := by decide +kernel
theorem dX9_next_12 : decode cX9_next 12 = .ok (.getfield 16, 3) := by decide +kernel
theorem dX9_next_15 : decode cX9_next 15 = .ok (.aload_n 0, 1) := by decide +kernel
theorem dX9_next_16 : decode cX9_next 16 = .ok (.getfield 59, 3) := by decide +kernel
theorem dX9_next_19 : decode cX9_next 19 = .ok (.iaload, 1) := by decide +kernel
theorem dX9_next_20 : decode cX9_next 20 = .ok (.bipush 32, 2) := by decide +kernel
theorem dX9_next_22 : decode cX9_next 22 = .ok (.if_icmp .ne 16, 3) := by decide +kernel
theorem dX9_next_25 : decode cX9_next 25 = .ok (.aload_n 0, 1) := by decide +kernel
theorem dX9_next_26 : decode cX9_next 26 = .ok (.dup, 1) := by decide +kernel
theorem dX9_next_27 : decode cX9_next 27 = .ok (.getfield 59, 3) := by decide +kernel
theorem dX9_next_30 : decode cX9_next 30 = .ok (.iconst 1, 1) := by decide +kernel
theorem dX9_next_31 : decode cX9_next 31 = .ok (.iadd, 1) := by decide +kernel
theorem dX9_next_32 : decode cX9_next 32 = .ok (.putfield 59, 3) := by decide +kernel
theorem dX9_next_35 : decode cX9_next 35 = .ok (.goto (-35), 3) := by decide +kernel
theorem dX9_next_38 : decode cX9_next 38 = .ok (.aload_n 0, 1) := by decide +kernel
theorem dX9_next_39 : decode cX9_next 39 = .ok (.getfield 59, 3) := by decide +kernel
theorem dX9_next_42 : decode cX9_next 42 = .ok (.aload_n 0, 1) := by decide +kernel
theorem dX9_next_43 : decode cX9_next 43 = .ok (.getfield 55, 3) := by decide +kernel
theorem dX9_next_46 : decode cX9_next 46 = .ok (.if_icmp .ge 15, 3) := by decide +kernel
theorem dX9_next_49 : decode cX9_next 49 = .ok (.aload_n 0, 1) := by decide +kernel
theorem dX9_next_50 : decode cX9_next 50 = .ok (.getfield 16, 3) := by decide +kernel
theorem dX9_next_53 : decode cX9_next 53 = .ok (.aload_n 0, 1) := by decide +kernel
theorem dX9_next_54 : decode cX9_next 54 = .ok (.getfield 59, 3) := by decide +kernel
theorem dX9_next_57 : decode cX9_next 57 = .ok (.iaload, 1) := by decide +kernel
theorem dX9_next_58 : decode cX9_next 58 = .ok (.goto 4, 3) := by decide +kernel
theorem dX9_next_61 : decode cX9_next 61 = .ok (.iconst (-1), 1) := by decide +kernel
theorem dX9_next_62 : decode cX9_next 62 = .ok (.ireturn, 1) := by decide +kernel
theorem dX9_faults_0 : decode cX9_faults 0 = .ok (.aload_n 0, 1) := by decide +kernel
theorem dX9_faults_1 : decode cX9_faults 1 = .ok (.iload_n 1, 1) := by decide +kernel
theorem dX9_faults_2 : decode cX9_faults 2 = .ok (.putfield 62, 3) := by decide +kernel
theorem dX9_faults_5 : decode cX9_faults 5 = .ok (.iconst 0, 1) := by decide +kernel
theorem dX9_faults_6 : decode cX9_faults 6 = .ok (.ireturn, 1) := by decide +kernel
set_option maxRecDepth 20000 in
theorem ggX9_takes_X9_next : GoodIn wsX9_takes wsX9_next := goodIn_r _ [6, 1, 7, 8, 14, 15, 16, 17, 18, 19, 20, 21, 22, 23, 24, 25, 26, 27, 28, 29, 30, 31, 32, 33, 34] (by decide +kernel) (by decide +kernel)
set_option maxRecDepth 20000 in
theorem gX9_takes_X9_next : GoodIn wsX9_takes (wsV RX9 65 RX9 yX9_next wsX9_next) := goodIn_app (goodIn_of _ (by decide +kernel)) ggX9_takes_X9_next
set_option maxRecDepth 20000 in
theorem ggX9_takes_X9_faults : GoodIn wsX9_takes wsX9_faults := goodIn_r _ [12, 13, 14, 15, 16, 17, 18, 19, 20, 21, 22, 23, 24, 25, 26, 27, 28, 29, 30, 31, 32, 33, 34] (by decide +kernel) (by decide +kernel)
set_option maxRecDepth 20000 in
theorem gX9_takes_X9_faults : GoodIn wsX9_takes (wsV RX9 69 RX9 yX9_faults wsX9_faults) := goodIn_app (goodIn_of _ (by decide +kernel)) ggX9_takes_X9_faults
theorem dX9_takes_0 : decode cX9_takes 0 = .ok (.aload_n 0, 1) := by decide +kernel
theorem dX9_takes_1 : decode cX9_takes 1 = .ok (.invokevirtual 65, 3) := by decide +kernel
theorem dX9_takes_4 : decode cX9_takes 4 = .ok (.iload_n 1, 1) := by decide +kernel
theorem dX9_takes_5 : decode cX9_takes 5 = .ok (.if_icmp .eq 9, 3) := by decide +kernel
theorem dX9_takes_8 : decode cX9_takes 8 = .ok (.aload_n 0, 1) := by decide +kernel
theorem dX9_takes_9 : decode cX9_takes 9 = .ok (.iconst 1, 1) := by decide +kernel
theorem dX9_takes_10 : decode cX9_takes 10 = .ok (.invokevirtual 69, 3) := by decide +kernel
theorem dX9_takes_13 : decode cX9_takes 13 = .ok (.ireturn, 1) := by decide +kernel
theorem dX9_takes_14 : decode cX9_takes 14 = .ok (.aload_n 0, 1) := by decide +kernel
theorem dX9_takes_15 : decode cX9_takes 15 = .ok (.dup, 1) := by decide +kernel
theorem dX9_takes_16 : decode cX9_takes 16 = .ok (.getfield 59, 3) := by decide +kernel
theorem dX9_takes_19 : decode cX9_takes 19 = .ok (.iconst 1, 1) := by decide +kernel
theorem dX9_takes_20 : decode cX9_takes 20 = .ok (.iadd, 1) := by decide +kernel
theorem dX9_takes_21 : decode cX9_takes 21 = .ok (.putfield 59, 3) := by decide +kernel
theorem dX9_takes_24 : decode cX9_takes 24 = .ok (.iconst 1, 1) := by decide +kernel
theorem dX9_takes_25 : decode cX9_takes 25 = .ok (.ireturn, 1) := by decide +kernel
set_option maxRecDepth 20000 in
theorem ggX9_takesNumber_X9_next : GoodIn wsX9_takesNumber wsX9_next := goodIn_r _ [12, 3, 5, 6, 21, 22, 23, 24, 25, 26, 27, 28, 29, 30, 31, 32, 33, 34, 35, 36, 37, 38, 39, 40, 41] (by decide +kernel) (by decide +kernel)
set_option maxRecDepth 20000 in
theorem gX9_takesNumber_X9_next : GoodIn wsX9_takesNumber (wsV RX9 65 RX9 yX9_next wsX9_next) := goodIn_app (goodIn_of _ (by decide +kernel)) ggX9_takesNumber_X9_next
set_option maxRecDepth 20000 in
theorem ggX9_takesNumber_X9_in : GoodIn wsX9_takesNumber wsX9_in := goodIn_r _ [15] (by decide +kernel) (by decide +kernel)
set_option maxRecDepth 20000 in
theorem gX9_takesNumber_X9_in : GoodIn wsX9_takesNumber (va_wsS RX9 50 yX9_in wsX9_in) := goodIn_app (goodIn_of _ (by decide +kernel)) ggX9_takesNumber_X9_in
set_option maxRecDepth 20000 in
theorem ggX9_takesNumber_X9_faults : GoodIn wsX9_takesNumber wsX9_faults := goodIn_r _ [19, 20, 21, 22, 23, 24, 25, 26, 27, 28, 29, 30, 31, 32, 33, 34, 35, 36, 37, 38, 39, 40, 41] (by decide +kernel) (by decide +kernel)
set_option maxRecDepth 20000 in
theorem gX9_takesNumber_X9_faults : GoodIn wsX9_takesNumber (wsV RX9 69 RX9 yX9_faults wsX9_faults) := goodIn_app (goodIn_of _ (by decide +kernel)) ggX9_takesNumber_X9_faults
theorem dX9_takesNumber_0 : decode cX9_takesNumber 0 = .ok (.aload_n 0, 1) := by decide +kernel
theorem dX9_takesNumber_1 : decode cX9_takesNumber 1 = .ok (.invokevirtual 65, 3) := by decide +kernel
theorem dX9_takesNumber_4 : decode cX9_takesNumber 4 = .ok (.i2l, 1) := by decide +kernel
theorem dX9_takesNumber_5 : decode cX9_takesNumber 5 = .ok (.ldc2_w 73, 3) := by decide +kernel
theorem dX9_takesNumber_8 : decode cX9_takesNumber 8 = .ok (.ldc2_w 75, 3) := by decide +kernel
theorem dX9_takesNumber_11 : decode cX9_takesNumber 11 = .ok (.invokestatic 50, 3) := by decide +kernel
theorem dX9_takesNumber_14 : decode cX9_takesNumber 14 = .ok (.ifCond .ne 9, 3) := by decide +kernel
theorem dX9_takesNumber_17 : decode cX9_takesNumber 17 = .ok (.aload_n 0, 1) := by decide +kernel
theorem dX9_takesNumber_18 : decode cX9_takesNumber 18 = .ok (.iconst 1, 1) := by decide +kernel
theorem dX9_takesNumber_19 : decode cX9_takesNumber 19 = .ok (.invokevirtual 69, 3) := by decide +kernel
theorem dX9_takesNumber_22 : decode cX9_takesNumber 22 = .ok (.ireturn, 1) := by decide +kernel
theorem dX9_takesNumber_23 : decode cX9_takesNumber 23 = .ok (.aload_n 0, 1) := by decide +kernel
theorem dX9_takesNumber_24 : decode cX9_takesNumber 24 = .ok (.getfield 59, 3) := by decide +kernel
theorem dX9_takesNumber_27 : decode cX9_takesNumber 27 = .ok (.istore 4, 2) := by decide +kernel
theorem dX9_takesNumber_29 : decode cX9_takesNumber 29 = .ok (.aload_n 0, 1) := by decide +kernel
theorem dX9_takesNumber_30 : decode cX9_takesNumber 30 = .ok (.iconst 0, 1) := by decide +kernel
theorem dX9_takesNumber_31 : decode cX9_takesNumber 31 = .ok (.putfield 77, 3) := by decide +kernel
theorem dX9_takesNumber_34 : decode cX9_takesNumber 34 = .ok (.aload_n 0, 1) := by decide +kernel
theorem dX9_takesNumber_35 : decode cX9_takesNumber 35 = .ok (.getfield 59, 3) := by decide +kernel
theorem dX9_takesNumber_38 : decode cX9_takesNumber 38 = .ok (.aload_n 0, 1) := by decide +kernel
theorem dX9_takesNumber_39 : decode cX9_takesNumber 39 = .ok (.getfield 55, 3) := by decide +kernel
theorem dX9_takesNumber_42 : decode cX9_takesNumber 42 = .ok (.if_icmp .ge 79, 3) := by decide +kernel
theorem dX9_takesNumber_45 : decode cX9_takesNumber 45 = .ok (.aload_n 0, 1) := by decide +kernel
theorem dX9_takesNumber_46 : decode cX9_takesNumber 46 = .ok (.getfield 16, 3) := by decide +kernel
theorem dX9_takesNumber_49 : decode cX9_takesNumber 49 = .ok (.aload_n 0, 1) := by decide +kernel
theorem dX9_takesNumber_50 : decode cX9_takesNumber 50 = .ok (.getfield 59, 3) := by decide +kernel
theorem dX9_takesNumber_53 : decode cX9_takesNumber 53 = .ok (.iaload, 1) := by decide +kernel
theorem dX9_takesNumber_54 : decode cX9_takesNumber 54 = .ok (.i2l, 1) := by decide +kernel
theorem dX9_takesNumber_55 : decode cX9_takesNumber 55 = .ok (.ldc2_w 73, 3) := by decide +kernel
theorem dX9_takesNumber_58 : decode cX9_takesNumber 58 = .ok (.ldc2_w 75, 3) := by decide +kernel
theorem dX9_takesNumber_61 : decode cX9_takesNumber 61 = .ok (.invokestatic 50, 3) := by decide +kernel
theorem dX9_takesNumber_64 : decode cX9_takesNumber 64 = .ok (.ifCond .eq 57, 3) := by decide +kernel
theorem dX9_takesNumber_67 : decode cX9_takesNumber 67 = .ok (.aload_n 0, 1) := by decide +kernel
theorem dX9_takesNumber_68 : decode cX9_takesNumber 68 = .ok (.aload_n 0, 1) := by decide +kernel
theorem dX9_takesNumber_69 : decode cX9_takesNumber 69 = .ok (.getfield 77, 3) := by decide +kernel
theorem dX9_takesNumber_72 : decode cX9_takesNumber 72 = .ok (.sipush 999, 3) := by decide +kernel
theorem dX9_takesNumber_75 : decode cX9_takesNumber 75 = .ok (.if_icmp .le 10, 3) := by decide +kernel
theorem dX9_takesNumber_78 : decode cX9_takesNumber 78 = .ok (.aload_n 0, 1) := by decide +kernel
theorem dX9_takesNumber_79 : decode cX9_takesNumber 79 = .ok (.getfield 77, 3) := by decide +kernel
theorem dX9_takesNumber_82 : decode cX9_takesNumber 82 = .ok (.goto 23, 3) := by decide +kernel
theorem dX9_takesNumber_85 : decode cX9_takesNumber 85 = .ok (.bipush 10, 2) := by decide +kernel
theorem dX9_takesNumber_87 : decode cX9_takesNumber 87 = .ok (.aload_n 0, 1) := by decide +kernel
theorem dX9_takesNumber_88 : decode cX9_takesNumber 88 = .ok (.getfield 77, 3) := by decide +kernel
theorem dX9_takesNumber_91 : decode cX9_takesNumber 91 = .ok (.imul, 1) := by decide +kernel
theorem dX9_takesNumber_92 : decode cX9_takesNumber 92 = .ok (.aload_n 0, 1) := by decide +kernel
theorem dX9_takesNumber_93 : decode cX9_takesNumber 93 = .ok (.getfield 16, 3) := by decide +kernel
theorem dX9_takesNumber_96 : decode cX9_takesNumber 96 = .ok (.aload_n 0, 1) := by decide +kernel
theorem dX9_takesNumber_97 : decode cX9_takesNumber 97 = .ok (.getfield 59, 3) := by decide +kernel
theorem dX9_takesNumber_100 : decode cX9_takesNumber 100 = .ok (.iaload, 1) := by decide +kernel
theorem dX9_takesNumber_101 : decode cX9_takesNumber 101 = .ok (.iadd, 1) := by decide +kernel
theorem dX9_takesNumber_102 : decode cX9_takesNumber 102 = .ok (.bipush 48, 2) := by decide +kernel
theorem dX9_takesNumber_104 : decode cX9_takesNumber 104 = .ok (.isub, 1) := by decide +kernel
theorem dX9_takesNumber_105 : decode cX9_takesNumber 105 = .ok (.putfield 77, 3) := by decide +kernel
theorem dX9_takesNumber_108 : decode cX9_takesNumber 108 = .ok (.aload_n 0, 1) := by decide +kernel
theorem dX9_takesNumber_109 : decode cX9_takesNumber 109 = .ok (.dup, 1) := by decide +kernel
theorem dX9_takesNumber_110 : decode cX9_takesNumber 110 = .ok (.getfield 59, 3) := by decide +kernel
theorem dX9_takesNumber_113 : decode cX9_takesNumber 113 = .ok (.iconst 1, 1) := by decide +kernel
theorem dX9_takesNumber_114 : decode cX9_takesNumber 114 = .ok (.iadd, 1) := by decide +kernel
theorem dX9_takesNumber_115 : decode cX9_takesNumber 115 = .ok (.putfield 59, 3) := by decide +kernel
theorem dX9_takesNumber_118 : decode cX9_takesNumber 118 = .ok (.goto (-84), 3) := by decide +kernel
theorem dX9_takesNumber_121 : decode cX9_takesNumber 121 = .ok (.aload_n 0, 1) := by decide +kernel
theorem dX9_takesNumber_122 : decode cX9_takesNumber 122 = .ok (.getfield 59, 3) := by decide +kernel
theorem dX9_takesNumber_125 : decode cX9_takesNumber 125 = .ok (.iload 4, 2) := by decide +kernel
theorem dX9_takesNumber_127 : decode cX9_takesNumber 127 = .ok (.isub, 1) := by decide +kernel
theorem dX9_takesNumber_128 : decode cX9_takesNumber 128 = .ok (.iconst 3, 1) := by decide +kernel
theorem dX9_takesNumber_129 : decode cX9_takesNumber 129 = .ok (.if_icmp .gt 18, 3) := by decide +kernel
theorem dX9_takesNumber_132 : decode cX9_takesNumber 132 = .ok (.aload_n 0, 1) := by decide +kernel
theorem dX9_takesNumber_133 : decode cX9_takesNumber 133 = .ok (.getfield 77, 3) := by decide +kernel
theorem dX9_takesNumber_136 : decode cX9_takesNumber 136 = .ok (.i2l, 1) := by decide +kernel
theorem dX9_takesNumber_137 : decode cX9_takesNumber 137 = .ok (.iload_n 1, 1) := by decide +kernel
theorem dX9_takesNumber_138 : decode cX9_takesNumber 138 = .ok (.i2l, 1) := by decide +kernel
theorem dX9_takesNumber_139 : decode cX9_takesNumber 139 = .ok (.iload_n 2, 1) := by decide +kernel
theorem dX9_takesNumber_140 : decode cX9_takesNumber 140 = .ok (.i2l, 1) := by decide +kernel
theorem dX9_takesNumber_141 : decode cX9_takesNumber 141 = .ok (.invokestatic 50, 3) := by decide +kernel
theorem dX9_takesNumber_144 : decode cX9_takesNumber 144 = .ok (.ifCond .ne 15, 3) := by decide +kernel
theorem dX9_takesNumber_147 : decode cX9_takesNumber 147 = .ok (.aload_n 0, 1) := by decide +kernel
theorem dX9_takesNumber_148 : decode cX9_takesNumber 148 = .ok (.iload 4, 2) := by decide +kernel
theorem dX9_takesNumber_150 : decode cX9_takesNumber 150 = .ok (.putfield 59, 3) := by decide +kernel
theorem dX9_takesNumber_153 : decode cX9_takesNumber 153 = .ok (.aload_n 0, 1) := by decide +kernel
theorem dX9_takesNumber_154 : decode cX9_takesNumber 154 = .ok (.iconst 2, 1) := by decide +kernel
theorem dX9_takesNumber_155 : decode cX9_takesNumber 155 = .ok (.invokevirtual 69, 3) := by decide +kernel
theorem dX9_takesNumber_158 : decode cX9_takesNumber 158 = .ok (.ireturn, 1) := by decide +kernel
theorem dX9_takesNumber_159 : decode cX9_takesNumber 159 = .ok (.aload_n 0, 1) := by decide +kernel
theorem dX9_takesNumber_160 : decode cX9_takesNumber 160 = .ok (.getfield 23, 3) := by decide +kernel
theorem dX9_takesNumber_163 : decode cX9_takesNumber 163 = .ok (.iload_n 3, 1) := by decide +kernel
theorem dX9_takesNumber_164 : decode cX9_takesNumber 164 = .ok (.aload_n 0, 1) := by decide +kernel
theorem dX9_takesNumber_165 : decode cX9_takesNumber 165 = .ok (.getfield 77, 3) := by decide +kernel
theorem dX9_takesNumber_168 : decode cX9_takesNumber 168 = .ok (.iastore, 1) := by decide +kernel
theorem dX9_takesNumber_169 : decode cX9_takesNumber 169 = .ok (.iconst 1, 1) := by decide +kernel
theorem dX9_takesNumber_170 : decode cX9_takesNumber 170 = .ok (.ireturn, 1) := by decide +kernel
set_option maxRecDepth 20000 in
theorem ggX9_readPayer_X9_faults : GoodIn wsX9_readPayer wsX9_faults := goodIn_r _ [7, 8, 29, 30, 31, 32, 33, 34, 35, 36, 37, 38, 39, 40, 41, 42, 43, 44, 45, 46, 47, 48, 49] (by decide +kernel) (by decide +kernel)
set_option maxRecDepth 20000 in
theorem gX9_readPayer_X9_faults : GoodIn wsX9_readPayer (wsV RX9 69 RX9 yX9_faults wsX9_faults) := goodIn_app (goodIn_of _ (by decide +kernel)) ggX9_readPayer_X9_faults
set_option maxRecDepth 20000 in
theorem ggX9_readPayer_X9_takesNumber : GoodIn wsX9_readPayer wsX9_takesNumber := goodIn_r _ [12, 13, 14, 2, 15, 16, 17, 1, 18, 19, 20, 6, 21, 22, 23, 24, 3, 4, 5, 7, 8, 29, 30, 31, 32, 33, 34, 35, 36, 37, 38, 39, 40, 41, 42, 43, 44, 45, 46, 47, 48, 49] (by decide +kernel) (by decide +kernel)
set_option maxRecDepth 20000 in
theorem gX9_readPayer_X9_takesNumber : GoodIn wsX9_readPayer (wsV RX9 80 RX9 yX9_takesNumber wsX9_takesNumber) := goodIn_app (goodIn_of _ (by decide +kernel)) ggX9_readPayer_X9_takesNumber
set_option maxRecDepth 20000 in
theorem ggX9_readPayer_X9_takes : GoodIn wsX9_readPayer wsX9_takes := goodIn_r _ [28, 2, 18, 19, 20, 6, 21, 16, 17, 3, 4, 5, 7, 8, 29, 30, 31, 32, 33, 34, 35, 36, 37, 38, 39, 40, 41, 42, 43, 44, 45, 46, 47, 48, 49] (by decide +kernel) (by decide +kernel)
set_option maxRecDepth 20000 in
theorem gX9_readPayer_X9_takes : GoodIn wsX9_readPayer (wsV RX9 84 RX9 yX9_takes wsX9_takes) := goodIn_app (goodIn_of _ (by decide +kernel)) ggX9_readPayer_X9_takes
theorem dX9_readPayer_0 : decode cX9_readPayer 0 = .ok (.aload_n 0, 1) := by decide +kernel
theorem dX9_readPayer_1 : decode cX9_readPayer 1 = .ok (.getfield 23, 3) := by decide +kernel
theorem dX9_readPayer_4 : decode cX9_readPayer 4 = .ok (.iconst 2, 1) := by decide +kernel
theorem dX9_readPayer_5 : decode cX9_readPayer 5 = .ok (.iaload, 1) := by decide +kernel
theorem dX9_readPayer_6 : decode cX9_readPayer 6 = .ok (.istore_n 1, 1) := by decide +kernel
theorem dX9_readPayer_7 : decode cX9_readPayer 7 = .ok (.iload_n 1, 1) := by decide +kernel
theorem dX9_readPayer_8 : decode cX9_readPayer 8 = .ok (.bipush 6, 2) := by decide +kernel
theorem dX9_readPayer_10 : decode cX9_readPayer 10 = .ok (.if_icmp .ne 9, 3) := by decide +kernel
theorem dX9_readPayer_13 : decode cX9_readPayer 13 = .ok (.aload_n 0, 1) := by decide +kernel
theorem dX9_readPayer_14 : decode cX9_readPayer 14 = .ok (.iconst 3, 1) := by decide +kernel
theorem dX9_readPayer_15 : decode cX9_readPayer 15 = .ok (.invokevirtual 69, 3) := by decide +kernel
theorem dX9_readPayer_18 : decode cX9_readPayer 18 = .ok (.ireturn, 1) := by decide +kernel
theorem dX9_readPayer_19 : decode cX9_readPayer 19 = .ok (.aload_n 0, 1) := by decide +kernel
theorem dX9_readPayer_20 : decode cX9_readPayer 20 = .ok (.dup, 1) := by decide +kernel
theorem dX9_readPayer_21 : decode cX9_readPayer 21 = .ok (.getfield 59, 3) := by decide +kernel
theorem dX9_readPayer_24 : decode cX9_readPayer 24 = .ok (.iconst 1, 1) := by decide +kernel
theorem dX9_readPayer_25 : decode cX9_readPayer 25 = .ok (.iadd, 1) := by decide +kernel
theorem dX9_readPayer_26 : decode cX9_readPayer 26 = .ok (.putfield 59, 3) := by decide +kernel
theorem dX9_readPayer_29 : decode cX9_readPayer 29 = .ok (.aload_n 0, 1) := by decide +kernel
theorem dX9_readPayer_30 : decode cX9_readPayer 30 = .ok (.getfield 23, 3) := by decide +kernel
theorem dX9_readPayer_33 : decode cX9_readPayer 33 = .ok (.iconst 2, 1) := by decide +kernel
theorem dX9_readPayer_34 : decode cX9_readPayer 34 = .ok (.dup2, 1) := by decide +kernel
theorem dX9_readPayer_35 : decode cX9_readPayer 35 = .ok (.iaload, 1) := by decide +kernel
theorem dX9_readPayer_36 : decode cX9_readPayer 36 = .ok (.iconst 1, 1) := by decide +kernel
theorem dX9_readPayer_37 : decode cX9_readPayer 37 = .ok (.iadd, 1) := by decide +kernel
theorem dX9_readPayer_38 : decode cX9_readPayer 38 = .ok (.iastore, 1) := by decide +kernel
theorem dX9_readPayer_39 : decode cX9_readPayer 39 = .ok (.aload_n 0, 1) := by decide +kernel
theorem dX9_readPayer_40 : decode cX9_readPayer 40 = .ok (.iconst 0, 1) := by decide +kernel
theorem dX9_readPayer_41 : decode cX9_readPayer 41 = .ok (.sipush 999, 3) := by decide +kernel
theorem dX9_readPayer_44 : decode cX9_readPayer 44 = .ok (.bipush 7, 2) := by decide +kernel
theorem dX9_readPayer_46 : decode cX9_readPayer 46 = .ok (.iload_n 1, 1) := by decide +kernel
theorem dX9_readPayer_47 : decode cX9_readPayer 47 = .ok (.iadd, 1) := by decide +kernel
theorem dX9_readPayer_48 : decode cX9_readPayer 48 = .ok (.invokevirtual 80, 3) := by decide +kernel
theorem dX9_readPayer_51 : decode cX9_readPayer 51 = .ok (.ifCond .eq 30, 3) := by decide +kernel
theorem dX9_readPayer_54 : decode cX9_readPayer 54 = .ok (.aload_n 0, 1) := by decide +kernel
theorem dX9_readPayer_55 : decode cX9_readPayer 55 = .ok (.iconst 0, 1) := by decide +kernel
theorem dX9_readPayer_56 : decode cX9_readPayer 56 = .ok (.bipush 9, 2) := by decide +kernel
theorem dX9_readPayer_58 : decode cX9_readPayer 58 = .ok (.bipush 13, 2) := by decide +kernel
theorem dX9_readPayer_60 : decode cX9_readPayer 60 = .ok (.iload_n 1, 1) := by decide +kernel
theorem dX9_readPayer_61 : decode cX9_readPayer 61 = .ok (.iadd, 1) := by decide +kernel
theorem dX9_readPayer_62 : decode cX9_readPayer 62 = .ok (.invokevirtual 80, 3) := by decide +kernel
theorem dX9_readPayer_65 : decode cX9_readPayer 65 = .ok (.ifCond .eq 16, 3) := by decide +kernel
theorem dX9_readPayer_68 : decode cX9_readPayer 68 = .ok (.aload_n 0, 1) := by decide +kernel
theorem dX9_readPayer_69 : decode cX9_readPayer 69 = .ok (.bipush 59, 2) := by decide +kernel
theorem dX9_readPayer_71 : decode cX9_readPayer 71 = .ok (.invokevirtual 84, 3) := by decide +kernel
theorem dX9_readPayer_74 : decode cX9_readPayer 74 = .ok (.ifCond .eq 7, 3) := by decide +kernel
theorem dX9_readPayer_77 : decode cX9_readPayer 77 = .ok (.iconst 1, 1) := by decide +kernel
theorem dX9_readPayer_78 : decode cX9_readPayer 78 = .ok (.goto 4, 3) := by decide +kernel
theorem dX9_readPayer_81 : decode cX9_readPayer 81 = .ok (.iconst 0, 1) := by decide +kernel
theorem dX9_readPayer_82 : decode cX9_readPayer 82 = .ok (.ireturn, 1) := by decide +kernel
set_option maxRecDepth 20000 in
theorem ggX9_readBids_X9_faults : GoodIn wsX9_readBids wsX9_faults := goodIn_r _ [7, 8, 29, 30, 31, 32, 33, 34, 35, 36, 37, 38, 39, 40, 41, 42, 43, 44, 45, 46, 47, 48, 49] (by decide +kernel) (by decide +kernel)
set_option maxRecDepth 20000 in
theorem gX9_readBids_X9_faults : GoodIn wsX9_readBids (wsV RX9 69 RX9 yX9_faults wsX9_faults) := goodIn_app (goodIn_of _ (by decide +kernel)) ggX9_readBids_X9_faults
set_option maxRecDepth 20000 in
theorem ggX9_readBids_X9_takesNumber : GoodIn wsX9_readBids wsX9_takesNumber := goodIn_r _ [12, 13, 14, 2, 15, 16, 17, 1, 18, 19, 20, 6, 21, 22, 23, 24, 3, 4, 5, 7, 8, 29, 30, 31, 32, 33, 34, 35, 36, 37, 38, 39, 40, 41, 42, 43, 44, 45, 46, 47, 48, 49] (by decide +kernel) (by decide +kernel)
set_option maxRecDepth 20000 in
theorem gX9_readBids_X9_takesNumber : GoodIn wsX9_readBids (wsV RX9 80 RX9 yX9_takesNumber wsX9_takesNumber) := goodIn_app (goodIn_of _ (by decide +kernel)) ggX9_readBids_X9_takesNumber
set_option maxRecDepth 20000 in
theorem ggX9_readBids_X9_next : GoodIn wsX9_readBids wsX9_next := goodIn_r _ [21, 2, 16, 17, 29, 30, 31, 32, 33, 34, 35, 36, 37, 38, 39, 40, 41, 42, 43, 44, 45, 46, 47, 48, 49] (by decide +kernel) (by decide +kernel)
set_option maxRecDepth 20000 in
theorem gX9_readBids_X9_next : GoodIn wsX9_readBids (wsV RX9 65 RX9 yX9_next wsX9_next) := goodIn_app (goodIn_of _ (by decide +kernel)) ggX9_readBids_X9_next
set_option maxRecDepth 20000 in
theorem ggX9_readBids_X9_takes : GoodIn wsX9_readBids wsX9_takes := goodIn_r _ [28, 2, 18, 19, 20, 6, 21, 16, 17, 3, 4, 5, 7, 8, 29, 30, 31, 32, 33, 34, 35, 36, 37, 38, 39, 40, 41, 42, 43, 44, 45, 46, 47, 48, 49] (by decide +kernel) (by decide +kernel)
set_option maxRecDepth 20000 in
theorem gX9_readBids_X9_takes : GoodIn wsX9_readBids (wsV RX9 84 RX9 yX9_takes wsX9_takes) := goodIn_app (goodIn_of _ (by decide +kernel)) ggX9_readBids_X9_takes
theorem dX9_readBids_0 : decode cX9_readBids 0 = .ok (.aload_n 0, 1) := by decide +kernel
theorem dX9_readBids_1 : decode cX9_readBids 1 = .ok (.getfield 23, 3) := by decide +kernel
theorem dX9_readBids_4 : decode cX9_readBids 4 = .ok (.iconst 3, 1) := by decide +kernel
theorem dX9_readBids_5 : decode cX9_readBids 5 = .ok (.iaload, 1) := by decide +kernel
theorem dX9_readBids_6 : decode cX9_readBids 6 = .ok (.ifCond .le 9, 3) := by decide +kernel
theorem dX9_readBids_9 : decode cX9_readBids 9 = .ok (.aload_n 0, 1) := by decide +kernel
theorem dX9_readBids_10 : decode cX9_readBids 10 = .ok (.iconst 3, 1) := by decide +kernel
theorem dX9_readBids_11 : decode cX9_readBids 11 = .ok (.invokevirtual 69, 3) := by decide +kernel
theorem dX9_readBids_14 : decode cX9_readBids 14 = .ok (.ireturn, 1) := by decide +kernel
theorem dX9_readBids_15 : decode cX9_readBids 15 = .ok (.aload_n 0, 1) := by decide +kernel
theorem dX9_readBids_16 : decode cX9_readBids 16 = .ok (.dup, 1) := by decide +kernel
theorem dX9_readBids_17 : decode cX9_readBids 17 = .ok (.getfield 59, 3) := by decide +kernel
theorem dX9_readBids_20 : decode cX9_readBids 20 = .ok (.iconst 1, 1) := by decide +kernel
theorem dX9_readBids_21 : decode cX9_readBids 21 = .ok (.iadd, 1) := by decide +kernel
theorem dX9_readBids_22 : decode cX9_readBids 22 = .ok (.putfield 59, 3) := by decide +kernel
theorem dX9_readBids_25 : decode cX9_readBids 25 = .ok (.aload_n 0, 1) := by decide +kernel
theorem dX9_readBids_26 : decode cX9_readBids 26 = .ok (.iconst 0, 1) := by decide +kernel
theorem dX9_readBids_27 : decode cX9_readBids 27 = .ok (.sipush 999, 3) := by decide +kernel
theorem dX9_readBids_30 : decode cX9_readBids 30 = .ok (.bipush 19, 2) := by decide +kernel
theorem dX9_readBids_32 : decode cX9_readBids 32 = .ok (.invokevirtual 80, 3) := by decide +kernel
theorem dX9_readBids_35 : decode cX9_readBids 35 = .ok (.istore_n 1, 1) := by decide +kernel
theorem dX9_readBids_36 : decode cX9_readBids 36 = .ok (.aload_n 0, 1) := by decide +kernel
theorem dX9_readBids_37 : decode cX9_readBids 37 = .ok (.getfield 23, 3) := by decide +kernel
theorem dX9_readBids_40 : decode cX9_readBids 40 = .ok (.iconst 3, 1) := by decide +kernel
theorem dX9_readBids_41 : decode cX9_readBids 41 = .ok (.iconst 1, 1) := by decide +kernel
theorem dX9_readBids_42 : decode cX9_readBids 42 = .ok (.iastore, 1) := by decide +kernel
theorem dX9_readBids_43 : decode cX9_readBids 43 = .ok (.iload_n 1, 1) := by decide +kernel
theorem dX9_readBids_44 : decode cX9_readBids 44 = .ok (.ifCond .eq 64, 3) := by decide +kernel
theorem dX9_readBids_47 : decode cX9_readBids 47 = .ok (.aload_n 0, 1) := by decide +kernel
theorem dX9_readBids_48 : decode cX9_readBids 48 = .ok (.invokevirtual 65, 3) := by decide +kernel
theorem dX9_readBids_51 : decode cX9_readBids 51 = .ok (.bipush 44, 2) := by decide +kernel
theorem dX9_readBids_53 : decode cX9_readBids 53 = .ok (.if_icmp .ne 55, 3) := by decide +kernel
theorem dX9_readBids_56 : decode cX9_readBids 56 = .ok (.aload_n 0, 1) := by decide +kernel
theorem dX9_readBids_57 : decode cX9_readBids 57 = .ok (.getfield 23, 3) := by decide +kernel
theorem dX9_readBids_60 : decode cX9_readBids 60 = .ok (.iconst 3, 1) := by decide +kernel
theorem dX9_readBids_61 : decode cX9_readBids 61 = .ok (.iaload, 1) := by decide +kernel
theorem dX9_readBids_62 : decode cX9_readBids 62 = .ok (.bipush 9, 2) := by decide +kernel
theorem dX9_readBids_64 : decode cX9_readBids 64 = .ok (.if_icmp .ge 44, 3) := by decide +kernel
theorem dX9_readBids_67 : decode cX9_readBids 67 = .ok (.aload_n 0, 1) := by decide +kernel
theorem dX9_readBids_68 : decode cX9_readBids 68 = .ok (.dup, 1) := by decide +kernel
theorem dX9_readBids_69 : decode cX9_readBids 69 = .ok (.getfield 59, 3) := by decide +kernel
theorem dX9_readBids_72 : decode cX9_readBids 72 = .ok (.iconst 1, 1) := by decide +kernel
theorem dX9_readBids_73 : decode cX9_readBids 73 = .ok (.iadd, 1) := by decide +kernel
theorem dX9_readBids_74 : decode cX9_readBids 74 = .ok (.putfield 59, 3) := by decide +kernel
theorem dX9_readBids_77 : decode cX9_readBids 77 = .ok (.aload_n 0, 1) := by decide +kernel
theorem dX9_readBids_78 : decode cX9_readBids 78 = .ok (.iconst 0, 1) := by decide +kernel
theorem dX9_readBids_79 : decode cX9_readBids 79 = .ok (.sipush 999, 3) := by decide +kernel
theorem dX9_readBids_82 : decode cX9_readBids 82 = .ok (.bipush 19, 2) := by decide +kernel
theorem dX9_readBids_84 : decode cX9_readBids 84 = .ok (.aload_n 0, 1) := by decide +kernel
theorem dX9_readBids_85 : decode cX9_readBids 85 = .ok (.getfield 23, 3) := by decide +kernel
theorem dX9_readBids_88 : decode cX9_readBids 88 = .ok (.iconst 3, 1) := by decide +kernel
theorem dX9_readBids_89 : decode cX9_readBids 89 = .ok (.iaload, 1) := by decide +kernel
theorem dX9_readBids_90 : decode cX9_readBids 90 = .ok (.iadd, 1) := by decide +kernel
theorem dX9_readBids_91 : decode cX9_readBids 91 = .ok (.invokevirtual 80, 3) := by decide +kernel
theorem dX9_readBids_94 : decode cX9_readBids 94 = .ok (.istore_n 1, 1) := by decide +kernel
theorem dX9_readBids_95 : decode cX9_readBids 95 = .ok (.aload_n 0, 1) := by decide +kernel
theorem dX9_readBids_96 : decode cX9_readBids 96 = .ok (.getfield 23, 3) := by decide +kernel
theorem dX9_readBids_99 : decode cX9_readBids 99 = .ok (.iconst 3, 1) := by decide +kernel
theorem dX9_readBids_100 : decode cX9_readBids 100 = .ok (.dup2, 1) := by decide +kernel
theorem dX9_readBids_101 : decode cX9_readBids 101 = .ok (.iaload, 1) := by decide +kernel
theorem dX9_readBids_102 : decode cX9_readBids 102 = .ok (.iconst 1, 1) := by decide +kernel
theorem dX9_readBids_103 : decode cX9_readBids 103 = .ok (.iadd, 1) := by decide +kernel
theorem dX9_readBids_104 : decode cX9_readBids 104 = .ok (.iastore, 1) := by decide +kernel
theorem dX9_readBids_105 : decode cX9_readBids 105 = .ok (.goto (-62), 3) := by decide +kernel
theorem dX9_readBids_108 : decode cX9_readBids 108 = .ok (.iload_n 1, 1) := by decide +kernel
theorem dX9_readBids_109 : decode cX9_readBids 109 = .ok (.ifCond .eq 16, 3) := by decide +kernel
theorem dX9_readBids_112 : decode cX9_readBids 112 = .ok (.aload_n 0, 1) := by decide +kernel
theorem dX9_readBids_113 : decode cX9_readBids 113 = .ok (.bipush 59, 2) := by decide +kernel
theorem dX9_readBids_115 : decode cX9_readBids 115 = .ok (.invokevirtual 84, 3) := by decide +kernel
theorem dX9_readBids_118 : decode cX9_readBids 118 = .ok (.ifCond .eq 7, 3) := by decide +kernel
theorem dX9_readBids_121 : decode cX9_readBids 121 = .ok (.iconst 1, 1) := by decide +kernel
theorem dX9_readBids_122 : decode cX9_readBids 122 = .ok (.goto 4, 3) := by decide +kernel
theorem dX9_readBids_125 : decode cX9_readBids 125 = .ok (.iconst 0, 1) := by decide +kernel
theorem dX9_readBids_126 : decode cX9_readBids 126 = .ok (.ireturn, 1) := by decide +kernel
set_option maxRecDepth 20000 in
theorem ggX9_readHostage_X9_faults : GoodIn wsX9_readHostage wsX9_faults := goodIn_r _ [7, 8, 29, 30, 31, 32, 33, 34, 35, 36, 37, 38, 39, 40, 41, 42, 43, 44, 45, 46, 47, 48, 49] (by decide +kernel) (by decide +kernel)
set_option maxRecDepth 20000 in
theorem gX9_readHostage_X9_faults : GoodIn wsX9_readHostage (wsV RX9 69 RX9 yX9_faults wsX9_faults) := goodIn_app (goodIn_of _ (by decide +kernel)) ggX9_readHostage_X9_faults
set_option maxRecDepth 20000 in
theorem ggX9_readHostage_X9_takesNumber : GoodIn wsX9_readHostage wsX9_takesNumber := goodIn_r _ [12, 13, 14, 2, 15, 16, 17, 1, 18, 19, 20, 6, 21, 22, 23, 24, 3, 4, 5, 7, 8, 29, 30, 31, 32, 33, 34, 35, 36, 37, 38, 39, 40, 41, 42, 43, 44, 45, 46, 47, 48, 49] (by decide +kernel) (by decide +kernel)
set_option maxRecDepth 20000 in
theorem gX9_readHostage_X9_takesNumber : GoodIn wsX9_readHostage (wsV RX9 80 RX9 yX9_takesNumber wsX9_takesNumber) := goodIn_app (goodIn_of _ (by decide +kernel)) ggX9_readHostage_X9_takesNumber
set_option maxRecDepth 20000 in
theorem ggX9_readHostage_X9_takes : GoodIn wsX9_readHostage wsX9_takes := goodIn_r _ [28, 2, 18, 19, 20, 6, 21, 16, 17, 3, 4, 5, 7, 8, 29, 30, 31, 32, 33, 34, 35, 36, 37, 38, 39, 40, 41, 42, 43, 44, 45, 46, 47, 48, 49] (by decide +kernel) (by decide +kernel)
set_option maxRecDepth 20000 in
theorem gX9_readHostage_X9_takes : GoodIn wsX9_readHostage (wsV RX9 84 RX9 yX9_takes wsX9_takes) := goodIn_app (goodIn_of _ (by decide +kernel)) ggX9_readHostage_X9_takes
theorem dX9_readHostage_0 : decode cX9_readHostage 0 = .ok (.aload_n 0, 1) := by decide +kernel
theorem dX9_readHostage_1 : decode cX9_readHostage 1 = .ok (.getfield 23, 3) := by decide +kernel
theorem dX9_readHostage_4 : decode cX9_readHostage 4 = .ok (.iconst 4, 1) := by decide +kernel
theorem dX9_readHostage_5 : decode cX9_readHostage 5 = .ok (.iaload, 1) := by decide +kernel
theorem dX9_readHostage_6 : decode cX9_readHostage 6 = .ok (.istore_n 1, 1) := by decide +kernel
theorem dX9_readHostage_7 : decode cX9_readHostage 7 = .ok (.iload_n 1, 1) := by decide +kernel
theorem dX9_readHostage_8 : decode cX9_readHostage 8 = .ok (.bipush 6, 2) := by decide +kernel
theorem dX9_readHostage_10 : decode cX9_readHostage 10 = .ok (.if_icmp .ne 9, 3) := by decide +kernel
theorem dX9_readHostage_13 : decode cX9_readHostage 13 = .ok (.aload_n 0, 1) := by decide +kernel
theorem dX9_readHostage_14 : decode cX9_readHostage 14 = .ok (.iconst 3, 1) := by decide +kernel
theorem dX9_readHostage_15 : decode cX9_readHostage 15 = .ok (.invokevirtual 69, 3) := by decide +kernel
theorem dX9_readHostage_18 : decode cX9_readHostage 18 = .ok (.ireturn, 1) := by decide +kernel
theorem dX9_readHostage_19 : decode cX9_readHostage 19 = .ok (.aload_n 0, 1) := by decide +kernel
theorem dX9_readHostage_20 : decode cX9_readHostage 20 = .ok (.dup, 1) := by decide +kernel
theorem dX9_readHostage_21 : decode cX9_readHostage 21 = .ok (.getfield 59, 3) := by decide +kernel
theorem dX9_readHostage_24 : decode cX9_readHostage 24 = .ok (.iconst 1, 1) := by decide +kernel
theorem dX9_readHostage_25 : decode cX9_readHostage 25 = .ok (.iadd, 1) := by decide +kernel
theorem dX9_readHostage_26 : decode cX9_readHostage 26 = .ok (.putfield 59, 3) := by decide +kernel
theorem dX9_readHostage_29 : decode cX9_readHostage 29 = .ok (.aload_n 0, 1) := by decide +kernel
theorem dX9_readHostage_30 : decode cX9_readHostage 30 = .ok (.getfield 23, 3) := by decide +kernel
theorem dX9_readHostage_33 : decode cX9_readHostage 33 = .ok (.iconst 4, 1) := by decide +kernel
theorem dX9_readHostage_34 : decode cX9_readHostage 34 = .ok (.dup2, 1) := by decide +kernel
theorem dX9_readHostage_35 : decode cX9_readHostage 35 = .ok (.iaload, 1) := by decide +kernel
theorem dX9_readHostage_36 : decode cX9_readHostage 36 = .ok (.iconst 1, 1) := by decide +kernel
theorem dX9_readHostage_37 : decode cX9_readHostage 37 = .ok (.iadd, 1) := by decide +kernel
theorem dX9_readHostage_38 : decode cX9_readHostage 38 = .ok (.iastore, 1) := by decide +kernel
theorem dX9_readHostage_39 : decode cX9_readHostage 39 = .ok (.aload_n 0, 1) := by decide +kernel
theorem dX9_readHostage_40 : decode cX9_readHostage 40 = .ok (.iconst 1, 1) := by decide +kernel
theorem dX9_readHostage_41 : decode cX9_readHostage 41 = .ok (.bipush 99, 2) := by decide +kernel
theorem dX9_readHostage_43 : decode cX9_readHostage 43 = .ok (.bipush 28, 2) := by decide +kernel
theorem dX9_readHostage_45 : decode cX9_readHostage 45 = .ok (.iload_n 1, 1) := by decide +kernel
theorem dX9_readHostage_46 : decode cX9_readHostage 46 = .ok (.iadd, 1) := by decide +kernel
theorem dX9_readHostage_47 : decode cX9_readHostage 47 = .ok (.invokevirtual 80, 3) := by decide +kernel
theorem dX9_readHostage_50 : decode cX9_readHostage 50 = .ok (.ifCond .eq 16, 3) := by decide +kernel
theorem dX9_readHostage_53 : decode cX9_readHostage 53 = .ok (.aload_n 0, 1) := by decide +kernel
theorem dX9_readHostage_54 : decode cX9_readHostage 54 = .ok (.bipush 59, 2) := by decide +kernel
theorem dX9_readHostage_56 : decode cX9_readHostage 56 = .ok (.invokevirtual 84, 3) := by decide +kernel
theorem dX9_readHostage_59 : decode cX9_readHostage 59 = .ok (.ifCond .eq 7, 3) := by decide +kernel
theorem dX9_readHostage_62 : decode cX9_readHostage 62 = .ok (.iconst 1, 1) := by decide +kernel
theorem dX9_readHostage_63 : decode cX9_readHostage 63 = .ok (.goto 4, 3) := by decide +kernel
theorem dX9_readHostage_66 : decode cX9_readHostage 66 = .ok (.iconst 0, 1) := by decide +kernel
theorem dX9_readHostage_67 : decode cX9_readHostage 67 = .ok (.ireturn, 1) := by decide +kernel
set_option maxRecDepth 20000 in
theorem ggX9_readBags_X9_faults : GoodIn wsX9_readBags wsX9_faults := goodIn_r _ [7, 8, 29, 30, 31, 32, 33, 34, 35, 36, 37, 38, 39, 40, 41, 42, 43, 44, 45, 46, 47, 48, 49] (by decide +kernel) (by decide +kernel)
set_option maxRecDepth 20000 in
theorem gX9_readBags_X9_faults : GoodIn wsX9_readBags (wsV RX9 69 RX9 yX9_faults wsX9_faults) := goodIn_app (goodIn_of _ (by decide +kernel)) ggX9_readBags_X9_faults
set_option maxRecDepth 20000 in
theorem ggX9_readBags_X9_takesNumber : GoodIn wsX9_readBags wsX9_takesNumber := goodIn_r _ [12, 13, 14, 2, 15, 16, 17, 1, 18, 19, 20, 6, 21, 22, 23, 24, 3, 4, 5, 7, 8, 29, 30, 31, 32, 33, 34, 35, 36, 37, 38, 39, 40, 41, 42, 43, 44, 45, 46, 47, 48, 49] (by decide +kernel) (by decide +kernel)
set_option maxRecDepth 20000 in
theorem gX9_readBags_X9_takesNumber : GoodIn wsX9_readBags (wsV RX9 80 RX9 yX9_takesNumber wsX9_takesNumber) := goodIn_app (goodIn_of _ (by decide +kernel)) ggX9_readBags_X9_takesNumber
set_option maxRecDepth 20000 in
theorem ggX9_readBags_X9_takes : GoodIn wsX9_readBags wsX9_takes := goodIn_r _ [28, 2, 18, 19, 20, 6, 21, 16, 17, 3, 4, 5, 7, 8, 29, 30, 31, 32, 33, 34, 35, 36, 37, 38, 39, 40, 41, 42, 43, 44, 45, 46, 47, 48, 49] (by decide +kernel) (by decide +kernel)
set_option maxRecDepth 20000 in
theorem gX9_readBags_X9_takes : GoodIn wsX9_readBags (wsV RX9 84 RX9 yX9_takes wsX9_takes) := goodIn_app (goodIn_of _ (by decide +kernel)) ggX9_readBags_X9_takes
theorem dX9_readBags_0 : decode cX9_readBags 0 = .ok (.aload_n 0, 1) := by decide +kernel
theorem dX9_readBags_1 : decode cX9_readBags 1 = .ok (.getfield 23, 3) := by decide +kernel
theorem dX9_readBags_4 : decode cX9_readBags 4 = .ok (.iconst 5, 1) := by decide +kernel
theorem dX9_readBags_5 : decode cX9_readBags 5 = .ok (.iaload, 1) := by decide +kernel
theorem dX9_readBags_6 : decode cX9_readBags 6 = .ok (.ifCond .le 9, 3) := by decide +kernel
theorem dX9_readBags_9 : decode cX9_readBags 9 = .ok (.aload_n 0, 1) := by decide +kernel
theorem dX9_readBags_10 : decode cX9_readBags 10 = .ok (.iconst 3, 1) := by decide +kernel
theorem dX9_readBags_11 : decode cX9_readBags 11 = .ok (.invokevirtual 69, 3) := by decide +kernel
theorem dX9_readBags_14 : decode cX9_readBags 14 = .ok (.ireturn, 1) := by decide +kernel
theorem dX9_readBags_15 : decode cX9_readBags 15 = .ok (.aload_n 0, 1) := by decide +kernel
theorem dX9_readBags_16 : decode cX9_readBags 16 = .ok (.dup, 1) := by decide +kernel
theorem dX9_readBags_17 : decode cX9_readBags 17 = .ok (.getfield 59, 3) := by decide +kernel
theorem dX9_readBags_20 : decode cX9_readBags 20 = .ok (.iconst 1, 1) := by decide +kernel
theorem dX9_readBags_21 : decode cX9_readBags 21 = .ok (.iadd, 1) := by decide +kernel
theorem dX9_readBags_22 : decode cX9_readBags 22 = .ok (.putfield 59, 3) := by decide +kernel
theorem dX9_readBags_25 : decode cX9_readBags 25 = .ok (.aload_n 0, 1) := by decide +kernel
theorem dX9_readBags_26 : decode cX9_readBags 26 = .ok (.iconst 1, 1) := by decide +kernel
theorem dX9_readBags_27 : decode cX9_readBags 27 = .ok (.bipush 99, 2) := by decide +kernel
theorem dX9_readBags_29 : decode cX9_readBags 29 = .ok (.bipush 6, 2) := by decide +kernel
theorem dX9_readBags_31 : decode cX9_readBags 31 = .ok (.invokevirtual 80, 3) := by decide +kernel
theorem dX9_readBags_34 : decode cX9_readBags 34 = .ok (.ifCond .eq 27, 3) := by decide +kernel
theorem dX9_readBags_37 : decode cX9_readBags 37 = .ok (.aload_n 0, 1) := by decide +kernel
theorem dX9_readBags_38 : decode cX9_readBags 38 = .ok (.iconst 1, 1) := by decide +kernel
theorem dX9_readBags_39 : decode cX9_readBags 39 = .ok (.bipush 8, 2) := by decide +kernel
theorem dX9_readBags_41 : decode cX9_readBags 41 = .ok (.iconst 5, 1) := by decide +kernel
theorem dX9_readBags_42 : decode cX9_readBags 42 = .ok (.invokevirtual 80, 3) := by decide +kernel
theorem dX9_readBags_45 : decode cX9_readBags 45 = .ok (.ifCond .eq 16, 3) := by decide +kernel
theorem dX9_readBags_48 : decode cX9_readBags 48 = .ok (.aload_n 0, 1) := by decide +kernel
theorem dX9_readBags_49 : decode cX9_readBags 49 = .ok (.bipush 59, 2) := by decide +kernel
theorem dX9_readBags_51 : decode cX9_readBags 51 = .ok (.invokevirtual 84, 3) := by decide +kernel
theorem dX9_readBags_54 : decode cX9_readBags 54 = .ok (.ifCond .eq 7, 3) := by decide +kernel
theorem dX9_readBags_57 : decode cX9_readBags 57 = .ok (.iconst 1, 1) := by decide +kernel
theorem dX9_readBags_58 : decode cX9_readBags 58 = .ok (.goto 4, 3) := by decide +kernel
theorem dX9_readBags_61 : decode cX9_readBags 61 = .ok (.iconst 0, 1) := by decide +kernel
theorem dX9_readBags_62 : decode cX9_readBags 62 = .ok (.ireturn, 1) := by decide +kernel
set_option maxRecDepth 20000 in
theorem ggX9_readClause_X9_next : GoodIn wsX9_readClause wsX9_next := goodIn_r _ [5, 6, 7, 8, 45, 46, 47, 48, 49, 50, 51, 52, 53, 54, 55, 56, 57, 58, 59, 60, 61, 62, 63, 64, 65] (by decide +kernel) (by decide +kernel)
set_option maxRecDepth 20000 in
theorem gX9_readClause_X9_next : GoodIn wsX9_readClause (wsV RX9 65 RX9 yX9_next wsX9_next) := goodIn_app (goodIn_of _ (by decide +kernel)) ggX9_readClause_X9_next
set_option maxRecDepth 20000 in
theorem ggX9_readClause_X9_readPayer : GoodIn wsX9_readClause wsX9_readPayer := goodIn_r _ [12, 13, 6, 14, 15, 16, 4, 17, 18, 19, 20, 21, 22, 23, 24, 25, 7, 8, 1, 2, 3, 5, 26, 27, 28, 29, 30, 31, 32, 45, 46, 47, 48, 49, 50, 51, 52, 53, 54, 55, 56, 57, 58, 59, 60, 61, 62, 63, 64, 65] (by decide +kernel) (by decide +kernel)
set_option maxRecDepth 20000 in
theorem gX9_readClause_X9_readPayer : GoodIn wsX9_readClause (wsV RX9 87 RX9 yX9_readPayer wsX9_readPayer) := goodIn_app (goodIn_of _ (by decide +kernel)) ggX9_readClause_X9_readPayer
set_option maxRecDepth 20000 in
theorem ggX9_readClause_X9_readBids : GoodIn wsX9_readClause wsX9_readBids := goodIn_r _ [36, 13, 6, 14, 15, 16, 4, 17, 18, 19, 20, 21, 22, 23, 24, 25, 7, 8, 1, 2, 3, 5, 26, 27, 28, 29, 30, 31, 32, 45, 46, 47, 48, 49, 50, 51, 52, 53, 54, 55, 56, 57, 58, 59, 60, 61, 62, 63, 64, 65] (by decide +kernel) (by decide +kernel)
set_option maxRecDepth 20000 in
theorem gX9_readClause_X9_readBids : GoodIn wsX9_readClause (wsV RX9 91 RX9 yX9_readBids wsX9_readBids) := goodIn_app (goodIn_of _ (by decide +kernel)) ggX9_readClause_X9_readBids
set_option maxRecDepth 20000 in
theorem ggX9_readClause_X9_readHostage : GoodIn wsX9_readClause wsX9_readHostage := goodIn_r _ [40, 13, 6, 14, 15, 16, 4, 17, 18, 19, 20, 21, 22, 23, 24, 25, 7, 8, 1, 2, 3, 5, 26, 27, 28, 29, 30, 31, 32, 45, 46, 47, 48, 49, 50, 51, 52, 53, 54, 55, 56, 57, 58, 59, 60, 61, 62, 63, 64, 65] (by decide +kernel) (by decide +kernel)
set_option maxRecDepth 20000 in
theorem gX9_readClause_X9_readHostage : GoodIn wsX9_readClause (wsV RX9 94 RX9 yX9_readHostage wsX9_readHostage) := goodIn_app (goodIn_of _ (by decide +kernel)) ggX9_readClause_X9_readHostage
set_option maxRecDepth 20000 in
theorem ggX9_readClause_X9_readBags : GoodIn wsX9_readClause wsX9_readBags := goodIn_r _ [44, 13, 6, 14, 15, 16, 4, 17, 18, 19, 20, 21, 22, 23, 24, 25, 7, 8, 1, 2, 3, 5, 26, 27, 28, 29, 30, 31, 32, 45, 46, 47, 48, 49, 50, 51, 52, 53, 54, 55, 56, 57, 58, 59, 60, 61, 62, 63, 64, 65] (by decide +kernel) (by decide +kernel)
set_option maxRecDepth 20000 in
theorem gX9_readClause_X9_readBags : GoodIn wsX9_readClause (wsV RX9 97 RX9 yX9_readBags wsX9_readBags) := goodIn_app (goodIn_of _ (by decide +kernel)) ggX9_readClause_X9_readBags
set_option maxRecDepth 20000 in
theorem ggX9_readClause_X9_faults : GoodIn wsX9_readClause wsX9_faults := goodIn_r _ [17, 18, 45, 46, 47, 48, 49, 50, 51, 52, 53, 54, 55, 56, 57, 58, 59, 60, 61, 62, 63, 64, 65] (by decide +kernel) (by decide +kernel)
set_option maxRecDepth 20000 in
theorem gX9_readClause_X9_faults : GoodIn wsX9_readClause (wsV RX9 69 RX9 yX9_faults wsX9_faults) := goodIn_app (goodIn_of _ (by decide +kernel)) ggX9_readClause_X9_faults
theorem dX9_readClause_0 : decode cX9_readClause 0 = .ok (.aload_n 0, 1) := by decide +kernel
theorem dX9_readClause_1 : decode cX9_readClause 1 = .ok (.invokevirtual 65, 3) := by decide +kernel
theorem dX9_readClause_4 : decode cX9_readClause 4 = .ok (.istore_n 1, 1) := by decide +kernel
theorem dX9_readClause_5 : decode cX9_readClause 5 = .ok (.iload_n 1, 1) := by decide +kernel
theorem dX9_readClause_6 : decode cX9_readClause 6 = .ok (.bipush 112, 2) := by decide +kernel
theorem dX9_readClause_8 : decode cX9_readClause 8 = .ok (.if_icmp .ne 8, 3) := by decide +kernel
theorem dX9_readClause_11 : decode cX9_readClause 11 = .ok (.aload_n 0, 1) := by decide +kernel
theorem dX9_readClause_12 : decode cX9_readClause 12 = .ok (.invokevirtual 87, 3) := by decide +kernel
theorem dX9_readClause_15 : decode cX9_readClause 15 = .ok (.ireturn, 1) := by decide +kernel
theorem dX9_readClause_16 : decode cX9_readClause 16 = .ok (.iload_n 1, 1) := by decide +kernel
theorem dX9_readClause_17 : decode cX9_readClause 17 = .ok (.bipush 98, 2) := by decide +kernel
theorem dX9_readClause_19 : decode cX9_readClause 19 = .ok (.if_icmp .ne 8, 3) := by decide +kernel
theorem dX9_readClause_22 : decode cX9_readClause 22 = .ok (.aload_n 0, 1) := by decide +kernel
theorem dX9_readClause_23 : decode cX9_readClause 23 = .ok (.invokevirtual 91, 3) := by decide +kernel
theorem dX9_readClause_26 : decode cX9_readClause 26 = .ok (.ireturn, 1) := by decide +kernel
theorem dX9_readClause_27 : decode cX9_readClause 27 = .ok (.iload_n 1, 1) := by decide +kernel
theorem dX9_readClause_28 : decode cX9_readClause 28 = .ok (.bipush 104, 2) := by decide +kernel
theorem dX9_readClause_30 : decode cX9_readClause 30 = .ok (.if_icmp .ne 8, 3) := by decide +kernel
theorem dX9_readClause_33 : decode cX9_readClause 33 = .ok (.aload_n 0, 1) := by decide +kernel
theorem dX9_readClause_34 : decode cX9_readClause 34 = .ok (.invokevirtual 94, 3) := by decide +kernel
theorem dX9_readClause_37 : decode cX9_readClause 37 = .ok (.ireturn, 1) := by decide +kernel
theorem dX9_readClause_38 : decode cX9_readClause 38 = .ok (.iload_n 1, 1) := by decide +kernel
theorem dX9_readClause_39 : decode cX9_readClause 39 = .ok (.bipush 119, 2) := by decide +kernel
theorem dX9_readClause_41 : decode cX9_readClause 41 = .ok (.if_icmp .ne 10, 3) := by decide +kernel
theorem dX9_readClause_44 : decode cX9_readClause 44 = .ok (.aload_n 0, 1) := by decide +kernel
theorem dX9_readClause_45 : decode cX9_readClause 45 = .ok (.invokevirtual 97, 3) := by decide +kernel
theorem dX9_readClause_48 : decode cX9_readClause 48 = .ok (.goto 18, 3) := by decide +kernel
theorem dX9_readClause_51 : decode cX9_readClause 51 = .ok (.aload_n 0, 1) := by decide +kernel
theorem dX9_readClause_52 : decode cX9_readClause 52 = .ok (.iload_n 1, 1) := by decide +kernel
theorem dX9_readClause_53 : decode cX9_readClause 53 = .ok (.bipush 107, 2) := by decide +kernel
theorem dX9_readClause_55 : decode cX9_readClause 55 = .ok (.if_icmp .ne 7, 3) := by decide +kernel
theorem dX9_readClause_58 : decode cX9_readClause 58 = .ok (.iconst 3, 1) := by decide +kernel
theorem dX9_readClause_59 : decode cX9_readClause 59 = .ok (.goto 4, 3) := by decide +kernel
theorem dX9_readClause_62 : decode cX9_readClause 62 = .ok (.iconst 1, 1) := by decide +kernel
theorem dX9_readClause_63 : decode cX9_readClause 63 = .ok (.invokevirtual 69, 3) := by decide +kernel
theorem dX9_readClause_66 : decode cX9_readClause 66 = .ok (.ireturn, 1) := by decide +kernel
set_option maxRecDepth 20000 in
theorem ggX9_readText_X9_next : GoodIn wsX9_readText wsX9_next := goodIn_r _ [7, 1, 8, 9, 49, 50, 51, 52, 53, 54, 55, 56, 57, 58, 59, 60, 61, 62, 63, 64, 65, 66, 67, 68, 69] (by decide +kernel) (by decide +kernel)
set_option maxRecDepth 20000 in
theorem gX9_readText_X9_next : GoodIn wsX9_readText (wsV RX9 65 RX9 yX9_next wsX9_next) := goodIn_app (goodIn_of _ (by decide +kernel)) ggX9_readText_X9_next
set_option maxRecDepth 20000 in
theorem ggX9_readText_X9_takes : GoodIn wsX9_readText wsX9_takes := goodIn_r _ [13, 1, 3, 4, 5, 6, 7, 8, 9, 14, 15, 16, 17, 18, 49, 50, 51, 52, 53, 54, 55, 56, 57, 58, 59, 60, 61, 62, 63, 64, 65, 66, 67, 68, 69] (by decide +kernel) (by decide +kernel)
set_option maxRecDepth 20000 in
theorem gX9_readText_X9_takes : GoodIn wsX9_readText (wsV RX9 84 RX9 yX9_takes wsX9_takes) := goodIn_app (goodIn_of _ (by decide +kernel)) ggX9_readText_X9_takes
set_option maxRecDepth 20000 in
theorem ggX9_readText_X9_takesNumber : GoodIn wsX9_readText wsX9_takesNumber := goodIn_r _ [22, 23, 24, 1, 25, 8, 9, 2, 3, 4, 5, 6, 7, 26, 27, 28, 14, 15, 16, 17, 18, 49, 50, 51, 52, 53, 54, 55, 56, 57, 58, 59, 60, 61, 62, 63, 64, 65, 66, 67, 68, 69] (by decide +kernel) (by decide +kernel)
set_option maxRecDepth 20000 in
theorem gX9_readText_X9_takesNumber : GoodIn wsX9_readText (wsV RX9 80 RX9 yX9_takesNumber wsX9_takesNumber) := goodIn_app (goodIn_of _ (by decide +kernel)) ggX9_readText_X9_takesNumber
set_option maxRecDepth 20000 in
theorem ggX9_readText_X9_readClause : GoodIn wsX9_readText wsX9_readClause := goodIn_r _ [32, 3, 4, 5, 6, 7, 1, 8, 9, 33, 34, 35, 36, 2, 14, 15, 16, 17, 18, 19, 20, 21, 22, 23, 24, 25, 26, 27, 28, 10, 11, 12, 13, 37, 38, 39, 40, 41, 42, 43, 44, 45, 46, 47, 48, 49, 50, 51, 52, 53, 54, 55, 56, 57, 58, 59, 60, 61, 62, 63, 64, 65, 66, 67, 68, 69] (by decide +kernel) (by decide +kernel)
set_option maxRecDepth 20000 in
theorem gX9_readText_X9_readClause : GoodIn wsX9_readText (wsV RX9 100 RX9 yX9_readClause wsX9_readClause) := goodIn_app (goodIn_of _ (by decide +kernel)) ggX9_readText_X9_readClause
theorem dX9_readText_0 : decode cX9_readText 0 = .ok (.aload_n 0, 1) := by decide +kernel
theorem dX9_readText_1 : decode cX9_readText 1 = .ok (.iconst 0, 1) := by decide +kernel
theorem dX9_readText_2 : decode cX9_readText 2 = .ok (.putfield 59, 3) := by decide +kernel
theorem dX9_readText_5 : decode cX9_readText 5 = .ok (.iconst 0, 1) := by decide +kernel
theorem dX9_readText_6 : decode cX9_readText 6 = .ok (.istore_n 1, 1) := by decide +kernel
theorem dX9_readText_7 : decode cX9_readText 7 = .ok (.iload_n 1, 1) := by decide +kernel
theorem dX9_readText_8 : decode cX9_readText 8 = .ok (.bipush 37, 2) := by decide +kernel
theorem dX9_readText_10 : decode cX9_readText 10 = .ok (.if_icmp .ge 16, 3) := by decide +kernel
theorem dX9_readText_13 : decode cX9_readText 13 = .ok (.aload_n 0, 1) := by decide +kernel
theorem dX9_readText_14 : decode cX9_readText 14 = .ok (.getfield 23, 3) := by decide +kernel
theorem dX9_readText_17 : decode cX9_readText 17 = .ok (.iload_n 1, 1) := by decide +kernel
theorem dX9_readText_18 : decode cX9_readText 18 = .ok (.iconst 0, 1) := by decide +kernel
theorem dX9_readText_19 : decode cX9_readText 19 = .ok (.iastore, 1) := by decide +kernel
theorem dX9_readText_20 : decode cX9_readText 20 = .ok (.iinc 1 1, 3) := by decide +kernel
theorem dX9_readText_23 : decode cX9_readText 23 = .ok (.goto (-16), 3) := by decide +kernel
theorem dX9_readText_26 : decode cX9_readText 26 = .ok (.aload_n 0, 1) := by decide +kernel
theorem dX9_readText_27 : decode cX9_readText 27 = .ok (.invokevirtual 65, 3) := by decide +kernel
theorem dX9_readText_30 : decode cX9_readText 30 = .ok (.ifCond .ge 5, 3) := by decide +kernel
theorem dX9_readText_33 : decode cX9_readText 33 = .ok (.iconst 1, 1) := by decide +kernel
theorem dX9_readText_34 : decode cX9_readText 34 = .ok (.ireturn, 1) := by decide +kernel
theorem dX9_readText_35 : decode cX9_readText 35 = .ok (.aload_n 0, 1) := by decide +kernel
theorem dX9_readText_36 : decode cX9_readText 36 = .ok (.bipush 107, 2) := by decide +kernel
theorem dX9_readText_38 : decode cX9_readText 38 = .ok (.invokevirtual 84, 3) := by decide +kernel
theorem dX9_readText_41 : decode cX9_readText 41 = .ok (.ifCond .eq 39, 3) := by decide +kernel
theorem dX9_readText_44 : decode cX9_readText 44 = .ok (.aload_n 0, 1) := by decide +kernel
theorem dX9_readText_45 : decode cX9_readText 45 = .ok (.iconst 1, 1) := by decide +kernel
theorem dX9_readText_46 : decode cX9_readText 46 = .ok (.sipush 999, 3) := by decide +kernel
theorem dX9_readText_49 : decode cX9_readText 49 = .ok (.iconst 0, 1) := by decide +kernel
theorem dX9_readText_50 : decode cX9_readText 50 = .ok (.invokevirtual 80, 3) := by decide +kernel
theorem dX9_readText_53 : decode cX9_readText 53 = .ok (.ifCond .eq 27, 3) := by decide +kernel
theorem dX9_readText_56 : decode cX9_readText 56 = .ok (.aload_n 0, 1) := by decide +kernel
theorem dX9_readText_57 : decode cX9_readText 57 = .ok (.iconst 0, 1) := by decide +kernel
theorem dX9_readText_58 : decode cX9_readText 58 = .ok (.bipush 99, 2) := by decide +kernel
theorem dX9_readText_60 : decode cX9_readText 60 = .ok (.iconst 1, 1) := by decide +kernel
theorem dX9_readText_61 : decode cX9_readText 61 = .ok (.invokevirtual 80, 3) := by decide +kernel
theorem dX9_readText_64 : decode cX9_readText 64 = .ok (.ifCond .eq 16, 3) := by decide +kernel
theorem dX9_readText_67 : decode cX9_readText 67 = .ok (.aload_n 0, 1) := by decide +kernel
theorem dX9_readText_68 : decode cX9_readText 68 = .ok (.bipush 59, 2) := by decide +kernel
theorem dX9_readText_70 : decode cX9_readText 70 = .ok (.invokevirtual 84, 3) := by decide +kernel
theorem dX9_readText_73 : decode cX9_readText 73 = .ok (.ifCond .eq 7, 3) := by decide +kernel
theorem dX9_readText_76 : decode cX9_readText 76 = .ok (.iconst 1, 1) := by decide +kernel
theorem dX9_readText_77 : decode cX9_readText 77 = .ok (.goto 4, 3) := by decide +kernel
theorem dX9_readText_80 : decode cX9_readText 80 = .ok (.iconst 0, 1) := by decide +kernel
theorem dX9_readText_81 : decode cX9_readText 81 = .ok (.istore_n 1, 1) := by decide +kernel
theorem dX9_readText_82 : decode cX9_readText 82 = .ok (.iload_n 1, 1) := by decide +kernel
theorem dX9_readText_83 : decode cX9_readText 83 = .ok (.ifCond .eq 18, 3) := by decide +kernel
theorem dX9_readText_86 : decode cX9_readText 86 = .ok (.aload_n 0, 1) := by decide +kernel
theorem dX9_readText_87 : decode cX9_readText 87 = .ok (.invokevirtual 65, 3) := by decide +kernel
theorem dX9_readText_90 : decode cX9_readText 90 = .ok (.ifCond .lt 11, 3) := by decide +kernel
theorem dX9_readText_93 : decode cX9_readText 93 = .ok (.aload_n 0, 1) := by decide +kernel
theorem dX9_readText_94 : decode cX9_readText 94 = .ok (.invokevirtual 100, 3) := by decide +kernel
theorem dX9_readText_97 : decode cX9_readText 97 = .ok (.istore_n 1, 1) := by decide +kernel
theorem dX9_readText_98 : decode cX9_readText 98 = .ok (.goto (-16), 3) := by decide +kernel
theorem dX9_readText_101 : decode cX9_readText 101 = .ok (.iload_n 1, 1) := by decide +kernel
theorem dX9_readText_102 : decode cX9_readText 102 = .ok (.ireturn, 1) := by decide +kernel
set_option maxRecDepth 20000 in
theorem ggX9_ransom_X9_readText : GoodIn wsX9_ransom wsX9_readText := goodIn_r _ [17, 3, 1, 18, 19, 20, 16, 21, 5, 22, 23, 24, 25, 26, 27, 28, 29, 30, 6, 31, 32, 33, 34, 35, 36, 37, 38, 39, 40, 41, 42, 43, 44, 45, 46, 47, 48, 49, 50, 51, 52, 53, 54, 55, 56, 57, 58, 59, 60, 61, 62, 63, 64, 65, 66, 67, 68, 69, 70, 71, 72, 73, 74, 75, 76, 77, 78, 79, 80, 81] (by decide +kernel) (by decide +kernel)
set_option maxRecDepth 20000 in
theorem gX9_ransom_X9_readText : GoodIn wsX9_ransom (wsV RX9 103 RX9 yX9_readText wsX9_readText) := goodIn_app (goodIn_of _ (by decide +kernel)) ggX9_ransom_X9_readText
theorem dX9_ransom_0 : decode cX9_ransom 0 = .ok (.aload_n 0, 1) := by decide +kernel
theorem dX9_ransom_1 : decode cX9_ransom 1 = .ok (.invokevirtual 103, 3) := by decide +kernel
theorem dX9_ransom_4 : decode cX9_ransom 4 = .ok (.istore_n 1, 1) := by decide +kernel
theorem dX9_ransom_5 : decode cX9_ransom 5 = .ok (.aload_n 0, 1) := by decide +kernel
theorem dX9_ransom_6 : decode cX9_ransom 6 = .ok (.iload_n 1, 1) := by decide +kernel
theorem dX9_ransom_7 : decode cX9_ransom 7 = .ok (.ifCond .eq 12, 3) := by decide +kernel
theorem dX9_ransom_10 : decode cX9_ransom 10 = .ok (.aload_n 0, 1) := by decide +kernel
theorem dX9_ransom_11 : decode cX9_ransom 11 = .ok (.getfield 23, 3) := by decide +kernel
theorem dX9_ransom_14 : decode cX9_ransom 14 = .ok (.iconst 0, 1) := by decide +kernel
theorem dX9_ransom_15 : decode cX9_ransom 15 = .ok (.iaload, 1) := by decide +kernel
theorem dX9_ransom_16 : decode cX9_ransom 16 = .ok (.ifCond .gt 14, 3) := by decide +kernel
theorem dX9_ransom_19 : decode cX9_ransom 19 = .ok (.iload_n 1, 1) := by decide +kernel
theorem dX9_ransom_20 : decode cX9_ransom 20 = .ok (.ifCond .ne 14, 3) := by decide +kernel
theorem dX9_ransom_23 : decode cX9_ransom 23 = .ok (.aload_n 0, 1) := by decide +kernel
theorem dX9_ransom_24 : decode cX9_ransom 24 = .ok (.getfield 106, 3) := by decide +kernel
theorem dX9_ransom_27 : decode cX9_ransom 27 = .ok (.ifCond .eq 7, 3) := by decide +kernel
theorem dX9_ransom_30 : decode cX9_ransom 30 = .ok (.iconst 1, 1) := by decide +kernel
theorem dX9_ransom_31 : decode cX9_ransom 31 = .ok (.goto 4, 3) := by decide +kernel
theorem dX9_ransom_34 : decode cX9_ransom 34 = .ok (.iconst 0, 1) := by decide +kernel
theorem dX9_ransom_35 : decode cX9_ransom 35 = .ok (.putfield 106, 3) := by decide +kernel
theorem dX9_ransom_38 : decode cX9_ransom 38 = .ok (.aload_n 0, 1) := by decide +kernel
theorem dX9_ransom_39 : decode cX9_ransom 39 = .ok (.iload_n 1, 1) := by decide +kernel
theorem dX9_ransom_40 : decode cX9_ransom 40 = .ok (.ifCond .eq 7, 3) := by decide +kernel
theorem dX9_ransom_43 : decode cX9_ransom 43 = .ok (.iconst (-1), 1) := by decide +kernel
theorem dX9_ransom_44 : decode cX9_ransom 44 = .ok (.goto 7, 3) := by decide +kernel
theorem dX9_ransom_47 : decode cX9_ransom 47 = .ok (.aload_n 0, 1) := by decide +kernel
theorem dX9_ransom_48 : decode cX9_ransom 48 = .ok (.getfield 59, 3) := by decide +kernel
theorem dX9_ransom_51 : decode cX9_ransom 51 = .ok (.putfield 19, 3) := by decide +kernel
theorem dX9_ransom_54 : decode cX9_ransom 54 = .ok (.aload_n 0, 1) := by decide +kernel
theorem dX9_ransom_55 : decode cX9_ransom 55 = .ok (.iconst 0, 1) := by decide +kernel
theorem dX9_ransom_56 : decode cX9_ransom 56 = .ok (.putfield 55, 3) := by decide +kernel
theorem dX9_ransom_59 : decode cX9_ransom 59 = .ok (.iload_n 1, 1) := by decide +kernel
theorem dX9_ransom_60 : decode cX9_ransom 60 = .ok (.ifCond .ne 11, 3) := by decide +kernel
theorem dX9_ransom_63 : decode cX9_ransom 63 = .ok (.bipush (-10), 2) := by decide +kernel
theorem dX9_ransom_65 : decode cX9_ransom 65 = .ok (.aload_n 0, 1) := by decide +kernel
theorem dX9_ransom_66 : decode cX9_ransom 66 = .ok (.getfield 62, 3) := by decide +kernel
theorem dX9_ransom_69 : decode cX9_ransom 69 = .ok (.isub, 1) := by decide +kernel
theorem dX9_ransom_70 : decode cX9_ransom 70 = .ok (.ireturn, 1) := by decide +kernel
theorem dX9_ransom_71 : decode cX9_ransom 71 = .ok (.iconst 0, 1) := by decide +kernel
theorem dX9_ransom_72 : decode cX9_ransom 72 = .ok (.istore_n 2, 1) := by decide +kernel
theorem dX9_ransom_73 : decode cX9_ransom 73 = .ok (.iload_n 2, 1) := by decide +kernel
theorem dX9_ransom_74 : decode cX9_ransom 74 = .ok (.bipush 37, 2) := by decide +kernel
theorem dX9_ransom_76 : decode cX9_ransom 76 = .ok (.if_icmp .ge 21, 3) := by decide +kernel
theorem dX9_ransom_79 : decode cX9_ransom 79 = .ok (.aload_n 0, 1) := by decide +kernel
theorem dX9_ransom_80 : decode cX9_ransom 80 = .ok (.getfield 7, 3) := by decide +kernel
theorem dX9_ransom_83 : decode cX9_ransom 83 = .ok (.iload_n 2, 1) := by decide +kernel
theorem dX9_ransom_84 : decode cX9_ransom 84 = .ok (.aload_n 0, 1) := by decide +kernel
theorem dX9_ransom_85 : decode cX9_ransom 85 = .ok (.getfield 23, 3) := by decide +kernel
theorem dX9_ransom_88 : decode cX9_ransom 88 = .ok (.iload_n 2, 1) := by decide +kernel
theorem dX9_ransom_89 : decode cX9_ransom 89 = .ok (.iaload, 1) := by decide +kernel
theorem dX9_ransom_90 : decode cX9_ransom 90 = .ok (.iastore, 1) := by decide +kernel
theorem dX9_ransom_91 : decode cX9_ransom 91 = .ok (.iinc 2 1, 3) := by decide +kernel
theorem dX9_ransom_94 : decode cX9_ransom 94 = .ok (.goto (-21), 3) := by decide +kernel
theorem dX9_ransom_97 : decode cX9_ransom 97 = .ok (.iconst 0, 1) := by decide +kernel
theorem dX9_ransom_98 : decode cX9_ransom 98 = .ok (.istore_n 2, 1) := by decide +kernel
theorem dX9_ransom_99 : decode cX9_ransom 99 = .ok (.iload_n 2, 1) := by decide +kernel
theorem dX9_ransom_100 : decode cX9_ransom 100 = .ok (.bipush 17, 2) := by decide +kernel
theorem dX9_ransom_102 : decode cX9_ransom 102 = .ok (.if_icmp .ge 34, 3) := by decide +kernel
theorem dX9_ransom_105 : decode cX9_ransom 105 = .ok (.aload_n 0, 1) := by decide +kernel
theorem dX9_ransom_106 : decode cX9_ransom 106 = .ok (.getfield 13, 3) := by decide +kernel
theorem dX9_ransom_109 : decode cX9_ransom 109 = .ok (.iload_n 2, 1) := by decide +kernel
theorem dX9_ransom_110 : decode cX9_ransom 110 = .ok (.iload_n 2, 1) := by decide +kernel
theorem dX9_ransom_111 : decode cX9_ransom 111 = .ok (.bipush 6, 2) := by decide +kernel
theorem dX9_ransom_113 : decode cX9_ransom 113 = .ok (.if_icmp .ge 15, 3) := by decide +kernel
theorem dX9_ransom_116 : decode cX9_ransom 116 = .ok (.aload_n 0, 1) := by decide +kernel
theorem dX9_ransom_117 : decode cX9_ransom 117 = .ok (.getfield 7, 3) := by decide +kernel
theorem dX9_ransom_120 : decode cX9_ransom 120 = .ok (.bipush 7, 2) := by decide +kernel
theorem dX9_ransom_122 : decode cX9_ransom 122 = .ok (.iload_n 2, 1) := by decide +kernel
theorem dX9_ransom_123 : decode cX9_ransom 123 = .ok (.iadd, 1) := by decide +kernel
theorem dX9_ransom_124 : decode cX9_ransom 124 = .ok (.iaload, 1) := by decide +kernel
theorem dX9_ransom_125 : decode cX9_ransom 125 = .ok (.goto 4, 3) := by decide +kernel
theorem dX9_ransom_128 : decode cX9_ransom 128 = .ok (.iconst 0, 1) := by decide +kernel
theorem dX9_ransom_129 : decode cX9_ransom 129 = .ok (.iastore, 1) := by decide +kernel
theorem dX9_ransom_130 : decode cX9_ransom 130 = .ok (.iinc 2 1, 3) := by decide +kernel
theorem dX9_ransom_133 : decode cX9_ransom 133 = .ok (.goto (-34), 3) := by decide +kernel
theorem dX9_ransom_136 : decode cX9_ransom 136 = .ok (.aload_n 0, 1) := by decide +kernel
theorem dX9_ransom_137 : decode cX9_ransom 137 = .ok (.getfield 13, 3) := by decide +kernel
theorem dX9_ransom_140 : decode cX9_ransom 140 = .ok (.bipush 14, 2) := by decide +kernel
theorem dX9_ransom_142 : decode cX9_ransom 142 = .ok (.aload_n 0, 1) := by decide +kernel
theorem dX9_ransom_143 : decode cX9_ransom 143 = .ok (.getfield 7, 3) := by decide +kernel
theorem dX9_ransom_146 : decode cX9_ransom 146 = .ok (.iconst 0, 1) := by decide +kernel
theorem dX9_ransom_147 : decode cX9_ransom 147 = .ok (.iaload, 1) := by decide +kernel
theorem dX9_ransom_148 : decode cX9_ransom 148 = .ok (.iastore, 1) := by decide +kernel
theorem dX9_ransom_149 : decode cX9_ransom 149 = .ok (.aload_n 0, 1) := by decide +kernel
theorem dX9_ransom_150 : decode cX9_ransom 150 = .ok (.iconst 0, 1) := by decide +kernel
theorem dX9_ransom_151 : decode cX9_ransom 151 = .ok (.putfield 110, 3) := by decide +kernel
theorem dX9_ransom_154 : decode cX9_ransom 154 = .ok (.aload_n 0, 1) := by decide +kernel
theorem dX9_ransom_155 : decode cX9_ransom 155 = .ok (.iconst 0, 1) := by decide +kernel
theorem dX9_ransom_156 : decode cX9_ransom 156 = .ok (.putfield 113, 3) := by decide +kernel
theorem dX9_ransom_159 : decode cX9_ransom 159 = .ok (.aload_n 0, 1) := by decide +kernel
theorem dX9_ransom_160 : decode cX9_ransom 160 = .ok (.iconst 0, 1) := by decide +kernel
theorem dX9_ransom_161 : decode cX9_ransom 161 = .ok (.putfield 116, 3) := by decide +kernel
theorem dX9_ransom_164 : decode cX9_ransom 164 = .ok (.aload_n 0, 1) := by decide +kernel
theorem dX9_ransom_165 : decode cX9_ransom 165 = .ok (.getfield 38, 3) := by decide +kernel
theorem dX9_ransom_168 : decode cX9_ransom 168 = .ok (.iconst 0, 1) := by decide +kernel
theorem dX9_ransom_169 : decode cX9_ransom 169 = .ok (.iconst 0, 1) := by decide +kernel
theorem dX9_ransom_170 : decode cX9_ransom 170 = .ok (.bastore, 1) := by decide +kernel
theorem dX9_ransom_171 : decode cX9_ransom 171 = .ok (.aload_n 0, 1) := by decide +kernel
theorem dX9_ransom_172 : decode cX9_ransom 172 = .ok (.getfield 38, 3) := by decide +kernel
theorem dX9_ransom_175 : decode cX9_ransom 175 = .ok (.iconst 1, 1) := by decide +kernel
theorem dX9_ransom_176 : decode cX9_ransom 176 = .ok (.iconst 0, 1) := by decide +kernel
theorem dX9_ransom_177 : decode cX9_ransom 177 = .ok (.bastore, 1) := by decide +kernel
theorem dX9_ransom_178 : decode cX9_ransom 178 = .ok (.aload_n 0, 1) := by decide +kernel
theorem dX9_ransom_179 : decode cX9_ransom 179 = .ok (.getfield 7, 3) := by decide +kernel
theorem dX9_ransom_182 : decode cX9_ransom 182 = .ok (.iconst 2, 1) := by decide +kernel
theorem dX9_ransom_183 : decode cX9_ransom 183 = .ok (.iaload, 1) := by decide +kernel
theorem dX9_ransom_184 : decode cX9_ransom 184 = .ok (.ireturn, 1) := by decide +kernel
theorem dX9_fault_0 : decode cX9_fault 0 = .ok (.aload_n 0, 1) := by decide +kernel
theorem dX9_fault_1 : decode cX9_fault 1 = .ok (.getfield 19, 3) := by decide +kernel
theorem dX9_fault_4 : decode cX9_fault 4 = .ok (.ireturn, 1) := by decide +kernel
theorem dX9_told_0 : decode cX9_told 0 = .ok (.iload_n 1, 1) := by decide +kernel
theorem dX9_told_1 : decode cX9_told 1 = .ok (.tableswitch 178 0 14 #[75, 83, 90, 97, 104, 111, 118, 126, 131, 139, 147, 155, 163, 168, 173], 75) := by decide +kernel
theorem dX9_told_76 : decode cX9_told 76 = .ok (.aload_n 0, 1) := by decide +kernel
theorem dX9_told_77 : decode cX9_told 77 = .ok (.getfield 13, 3) := by decide +kernel
theorem dX9_told_80 : decode cX9_told 80 = .ok (.bipush 14, 2) := by decide +kernel
theorem dX9_told_82 : decode cX9_told 82 = .ok (.iaload, 1) := by decide +kernel
theorem dX9_told_83 : decode cX9_told 83 = .ok (.ireturn, 1) := by decide +kernel
theorem dX9_told_84 : decode cX9_told 84 = .ok (.aload_n 0, 1) := by decide +kernel
theorem dX9_told_85 : decode cX9_told 85 = .ok (.getfield 7, 3) := by decide +kernel
theorem dX9_told_88 : decode cX9_told 88 = .ok (.iconst 1, 1) := by decide +kernel
theorem dX9_told_89 : decode cX9_told 89 = .ok (.iaload, 1) := by decide +kernel
theorem dX9_told_90 : decode cX9_told 90 = .ok (.ireturn, 1) := by decide +kernel
theorem dX9_told_91 : decode cX9_told 91 = .ok (.aload_n 0, 1) := by decide +kernel
theorem dX9_told_92 : decode cX9_told 92 = .ok (.getfield 7, 3) := by decide +kernel
theorem dX9_told_95 : decode cX9_told 95 = .ok (.iconst 2, 1) := by decide +kernel
theorem dX9_told_96 : decode cX9_told 96 = .ok (.iaload, 1) := by decide +kernel
theorem dX9_told_97 : decode cX9_told 97 = .ok (.ireturn, 1) := by decide +kernel
theorem dX9_told_98 : decode cX9_told 98 = .ok (.aload_n 0, 1) := by decide +kernel
theorem dX9_told_99 : decode cX9_told 99 = .ok (.getfield 7, 3) := by decide +kernel
theorem dX9_told_102 : decode cX9_told 102 = .ok (.iconst 3, 1) := by decide +kernel
theorem dX9_told_103 : decode cX9_told 103 = .ok (.iaload, 1) := by decide +kernel
theorem dX9_told_104 : decode cX9_told 104 = .ok (.ireturn, 1) := by decide +kernel
theorem dX9_told_105 : decode cX9_told 105 = .ok (.aload_n 0, 1) := by decide +kernel
theorem dX9_told_106 : decode cX9_told 106 = .ok (.getfield 7, 3) := by decide +kernel
theorem dX9_told_109 : decode cX9_told 109 = .ok (.iconst 4, 1) := by decide +kernel
theorem dX9_told_110 : decode cX9_told 110 = .ok (.iaload, 1) := by decide +kernel
theorem dX9_told_111 : decode cX9_told 111 = .ok (.ireturn, 1) := by decide +kernel
theorem dX9_told_112 : decode cX9_told 112 = .ok (.aload_n 0, 1) := by decide +kernel
theorem dX9_told_113 : decode cX9_told 113 = .ok (.getfield 7, 3) := by decide +kernel
theorem dX9_told_116 : decode cX9_told 116 = .ok (.iconst 5, 1) := by decide +kernel
theorem dX9_told_117 : decode cX9_told 117 = .ok (.iaload, 1) := by decide +kernel
theorem dX9_told_118 : decode cX9_told 118 = .ok (.ireturn, 1) := by decide +kernel
theorem dX9_told_119 : decode cX9_told 119 = .ok (.aload_n 0, 1) := by decide +kernel
theorem dX9_told_120 : decode cX9_told 120 = .ok (.getfield 7, 3) := by decide +kernel
theorem dX9_told_123 : decode cX9_told 123 = .ok (.bipush 6, 2) := by decide +kernel
theorem dX9_told_125 : decode cX9_told 125 = .ok (.iaload, 1) := by decide +kernel
theorem dX9_told_126 : decode cX9_told 126 = .ok (.ireturn, 1) := by decide +kernel
theorem dX9_told_127 : decode cX9_told 127 = .ok (.aload_n 0, 1) := by decide +kernel
theorem dX9_told_128 : decode cX9_told 128 = .ok (.getfield 55, 3) := by decide +kernel
theorem dX9_told_131 : decode cX9_told 131 = .ok (.ireturn, 1) := by decide +kernel
theorem dX9_told_132 : decode cX9_told 132 = .ok (.aload_n 0, 1) := by decide +kernel
theorem dX9_told_133 : decode cX9_told 133 = .ok (.getfield 13, 3) := by decide +kernel
theorem dX9_told_136 : decode cX9_told 136 = .ok (.bipush 13, 2) := by decide +kernel
theorem dX9_told_138 : decode cX9_told 138 = .ok (.iaload, 1) := by decide +kernel
theorem dX9_told_139 : decode cX9_told 139 = .ok (.ireturn, 1) := by decide +kernel
theorem dX9_told_140 : decode cX9_told 140 = .ok (.aload_n 0, 1) := by decide +kernel
theorem dX9_told_141 : decode cX9_told 141 = .ok (.getfield 13, 3) := by decide +kernel
theorem dX9_told_144 : decode cX9_told 144 = .ok (.bipush 12, 2) := by decide +kernel
theorem dX9_told_146 : decode cX9_told 146 = .ok (.iaload, 1) := by decide +kernel
theorem dX9_told_147 : decode cX9_told 147 = .ok (.ireturn, 1) := by decide +kernel
theorem dX9_told_148 : decode cX9_told 148 = .ok (.aload_n 0, 1) := by decide +kernel
theorem dX9_told_149 : decode cX9_told 149 = .ok (.getfield 13, 3) := by decide +kernel
theorem dX9_told_152 : decode cX9_told 152 = .ok (.bipush 15, 2) := by decide +kernel
theorem dX9_told_154 : decode cX9_told 154 = .ok (.iaload, 1) := by decide +kernel
theorem dX9_told_155 : decode cX9_told 155 = .ok (.ireturn, 1) := by decide +kernel
theorem dX9_told_156 : decode cX9_told 156 = .ok (.aload_n 0, 1) := by decide +kernel
theorem dX9_told_157 : decode cX9_told 157 = .ok (.getfield 13, 3) := by decide +kernel
theorem dX9_told_160 : decode cX9_told 160 = .ok (.bipush 16, 2) := by decide +kernel
theorem dX9_told_162 : decode cX9_told 162 = .ok (.iaload, 1) := by decide +kernel
theorem dX9_told_163 : decode cX9_told 163 = .ok (.ireturn, 1) := by decide +kernel
theorem dX9_told_164 : decode cX9_told 164 = .ok (.aload_n 0, 1) := by decide +kernel
theorem dX9_told_165 : decode cX9_told 165 = .ok (.getfield 113, 3) := by decide +kernel
theorem dX9_told_168 : decode cX9_told 168 = .ok (.ireturn, 1) := by decide +kernel
theorem dX9_told_169 : decode cX9_told 169 = .ok (.aload_n 0, 1) := by decide +kernel
theorem dX9_told_170 : decode cX9_told 170 = .ok (.getfield 116, 3) := by decide +kernel
theorem dX9_told_173 : decode cX9_told 173 = .ok (.ireturn, 1) := by decide +kernel
theorem dX9_told_174 : decode cX9_told 174 = .ok (.aload_n 0, 1) := by decide +kernel
theorem dX9_told_175 : decode cX9_told 175 = .ok (.getfield 110, 3) := by decide +kernel
theorem dX9_told_178 : decode cX9_told 178 = .ok (.ireturn, 1) := by decide +kernel
theorem dX9_told_179 : decode cX9_told 179 = .ok (.ldc 54, 2) := by decide +kernel
theorem dX9_told_181 : decode cX9_told 181 = .ok (.ireturn, 1) := by decide +kernel
set_option maxRecDepth 20000 in
theorem ggX9_isPayer_X9_in : GoodIn wsX9_isPayer wsX9_in := goodIn_r _ [5] (by decide +kernel) (by decide +kernel)
set_option maxRecDepth 20000 in
theorem gX9_isPayer_X9_in : GoodIn wsX9_isPayer (va_wsS RX9 50 yX9_in wsX9_in) := goodIn_app (goodIn_of _ (by decide +kernel)) ggX9_isPayer_X9_in
theorem dX9_isPayer_0 : decode cX9_isPayer 0 = .ok (.iload_n 1, 1) := by decide +kernel
theorem dX9_isPayer_1 : decode cX9_isPayer 1 = .ok (.i2l, 1) := by decide +kernel
theorem dX9_isPayer_2 : decode cX9_isPayer 2 = .ok (.lconst 0, 1) := by decide +kernel
theorem dX9_isPayer_3 : decode cX9_isPayer 3 = .ok (.aload_n 0, 1) := by decide +kernel
theorem dX9_isPayer_4 : decode cX9_isPayer 4 = .ok (.getfield 7, 3) := by decide +kernel
theorem dX9_isPayer_7 : decode cX9_isPayer 7 = .ok (.iconst 2, 1) := by decide +kernel
theorem dX9_isPayer_8 : decode cX9_isPayer 8 = .ok (.iaload, 1) := by decide +kernel
theorem dX9_isPayer_9 : decode cX9_isPayer 9 = .ok (.iconst 1, 1) := by decide +kernel
theorem dX9_isPayer_10 : decode cX9_isPayer 10 = .ok (.isub, 1) := by decide +kernel
theorem dX9_isPayer_11 : decode cX9_isPayer 11 = .ok (.i2l, 1) := by decide +kernel
theorem dX9_isPayer_12 : decode cX9_isPayer 12 = .ok (.invokestatic 50, 3) := by decide +kernel
theorem dX9_isPayer_15 : decode cX9_isPayer 15 = .ok (.ireturn, 1) := by decide +kernel
theorem dX9_tellsBy_0 : decode cX9_tellsBy 0 = .ok (.bipush 100, 2) := by decide +kernel
theorem dX9_tellsBy_2 : decode cX9_tellsBy 2 = .ok (.aload_n 0, 1) := by decide +kernel
theorem dX9_tellsBy_3 : decode cX9_tellsBy 3 = .ok (.getfield 7, 3) := by decide +kernel
theorem dX9_tellsBy_6 : decode cX9_tellsBy 6 = .ok (.bipush 13, 2) := by decide +kernel
theorem dX9_tellsBy_8 : decode cX9_tellsBy 8 = .ok (.iload_n 1, 1) := by decide +kernel
theorem dX9_tellsBy_9 : decode cX9_tellsBy 9 = .ok (.iadd, 1) := by decide +kernel
theorem dX9_tellsBy_10 : decode cX9_tellsBy 10 = .ok (.iaload, 1) := by decide +kernel
theorem dX9_tellsBy_11 : decode cX9_tellsBy 11 = .ok (.iload_n 2, 1) := by decide +kernel
theorem dX9_tellsBy_12 : decode cX9_tellsBy 12 = .ok (.imul, 1) := by decide +kernel
theorem dX9_tellsBy_13 : decode cX9_tellsBy 13 = .ok (.bipush 10, 2) := by decide +kernel
theorem dX9_tellsBy_15 : decode cX9_tellsBy 15 = .ok (.idiv, 1) := by decide +kernel
theorem dX9_tellsBy_16 : decode cX9_tellsBy 16 = .ok (.isub, 1) := by decide +kernel
theorem dX9_tellsBy_17 : decode cX9_tellsBy 17 = .ok (.istore_n 3, 1) := by decide +kernel
theorem dX9_tellsBy_18 : decode cX9_tellsBy 18 = .ok (.aload_n 0, 1) := by decide +kernel
theorem dX9_tellsBy_19 : decode cX9_tellsBy 19 = .ok (.getfield 13, 3) := by decide +kernel
theorem dX9_tellsBy_22 : decode cX9_tellsBy 22 = .ok (.iconst 0, 1) := by decide +kernel
theorem dX9_tellsBy_23 : decode cX9_tellsBy 23 = .ok (.iload_n 1, 1) := by decide +kernel
theorem dX9_tellsBy_24 : decode cX9_tellsBy 24 = .ok (.iadd, 1) := by decide +kernel
theorem dX9_tellsBy_25 : decode cX9_tellsBy 25 = .ok (.iaload, 1) := by decide +kernel
theorem dX9_tellsBy_26 : decode cX9_tellsBy 26 = .ok (.iload_n 3, 1) := by decide +kernel
theorem dX9_tellsBy_27 : decode cX9_tellsBy 27 = .ok (.ifCond .ge 7, 3) := by decide +kernel
theorem dX9_tellsBy_30 : decode cX9_tellsBy 30 = .ok (.iconst 0, 1) := by decide +kernel
theorem dX9_tellsBy_31 : decode cX9_tellsBy 31 = .ok (.goto 4, 3) := by decide +kernel
theorem dX9_tellsBy_34 : decode cX9_tellsBy 34 = .ok (.iload_n 3, 1) := by decide +kernel
theorem dX9_tellsBy_35 : decode cX9_tellsBy 35 = .ok (.imul, 1) := by decide +kernel
theorem dX9_tellsBy_36 : decode cX9_tellsBy 36 = .ok (.bipush 100, 2) := by decide +kernel
theorem dX9_tellsBy_38 : decode cX9_tellsBy 38 = .ok (.idiv, 1) := by decide +kernel
theorem dX9_tellsBy_39 : decode cX9_tellsBy 39 = .ok (.ireturn, 1) := by decide +kernel
set_option maxRecDepth 20000 in
theorem ggX9_paysBy_X9_tellsBy : GoodIn wsX9_paysBy wsX9_tellsBy := goodIn_r _ [5, 6, 7, 8, 9, 10, 11, 12, 13, 14, 15, 16, 17, 18, 19, 20, 21, 22, 23, 24, 25, 26, 27, 28] (by decide +kernel) (by decide +kernel)
set_option maxRecDepth 20000 in
theorem gX9_paysBy_X9_tellsBy : GoodIn wsX9_paysBy (wsV RX9 119 RX9 yX9_tellsBy wsX9_tellsBy) := goodIn_app (goodIn_of _ (by decide +kernel)) ggX9_paysBy_X9_tellsBy
theorem dX9_paysBy_0 : decode cX9_paysBy 0 = .ok (.aload_n 0, 1) := by decide +kernel
theorem dX9_paysBy_1 : decode cX9_paysBy 1 = .ok (.iload_n 1, 1) := by decide +kernel
theorem dX9_paysBy_2 : decode cX9_paysBy 2 = .ok (.iload_n 2, 1) := by decide +kernel
theorem dX9_paysBy_3 : decode cX9_paysBy 3 = .ok (.invokevirtual 119, 3) := by decide +kernel
theorem dX9_paysBy_6 : decode cX9_paysBy 6 = .ok (.iload_n 2, 1) := by decide +kernel
theorem dX9_paysBy_7 : decode cX9_paysBy 7 = .ok (.imul, 1) := by decide +kernel
theorem dX9_paysBy_8 : decode cX9_paysBy 8 = .ok (.bipush 100, 2) := by decide +kernel
theorem dX9_paysBy_10 : decode cX9_paysBy 10 = .ok (.idiv, 1) := by decide +kernel
theorem dX9_paysBy_11 : decode cX9_paysBy 11 = .ok (.ireturn, 1) := by decide +kernel
set_option maxRecDepth 20000 in
theorem ggX9_hiddenBy_X9_tellsBy : GoodIn wsX9_hiddenBy wsX9_tellsBy := goodIn_r _ [6, 7, 1, 8, 9, 10, 11, 12, 13, 14, 15, 16, 17, 18, 19, 20, 21, 22, 23, 24, 25, 26, 27, 28] (by decide +kernel) (by decide +kernel)
set_option maxRecDepth 20000 in
theorem gX9_hiddenBy_X9_tellsBy : GoodIn wsX9_hiddenBy (wsV RX9 119 RX9 yX9_tellsBy wsX9_tellsBy) := goodIn_app (goodIn_of _ (by decide +kernel)) ggX9_hiddenBy_X9_tellsBy
theorem dX9_hiddenBy_0 : decode cX9_hiddenBy 0 = .ok (.aload_n 0, 1) := by decide +kernel
theorem dX9_hiddenBy_1 : decode cX9_hiddenBy 1 = .ok (.getfield 13, 3) := by decide +kernel
theorem dX9_hiddenBy_4 : decode cX9_hiddenBy 4 = .ok (.iconst 0, 1) := by decide +kernel
theorem dX9_hiddenBy_5 : decode cX9_hiddenBy 5 = .ok (.iload_n 1, 1) := by decide +kernel
theorem dX9_hiddenBy_6 : decode cX9_hiddenBy 6 = .ok (.iadd, 1) := by decide +kernel
theorem dX9_hiddenBy_7 : decode cX9_hiddenBy 7 = .ok (.iaload, 1) := by decide +kernel
theorem dX9_hiddenBy_8 : decode cX9_hiddenBy 8 = .ok (.aload_n 0, 1) := by decide +kernel
theorem dX9_hiddenBy_9 : decode cX9_hiddenBy 9 = .ok (.iload_n 1, 1) := by decide +kernel
theorem dX9_hiddenBy_10 : decode cX9_hiddenBy 10 = .ok (.iload_n 2, 1) := by decide +kernel
theorem dX9_hiddenBy_11 : decode cX9_hiddenBy 11 = .ok (.invokevirtual 119, 3) := by decide +kernel
theorem dX9_hiddenBy_14 : decode cX9_hiddenBy 14 = .ok (.isub, 1) := by decide +kernel
theorem dX9_hiddenBy_15 : decode cX9_hiddenBy 15 = .ok (.ireturn, 1) := by decide +kernel
set_option maxRecDepth 20000 in
theorem ggX9_payer_X9_isPayer : GoodIn wsX9_payer wsX9_isPayer := goodIn_r _ [9, 3, 10, 11, 8, 12, 25, 26, 27, 28, 29, 30, 31, 32, 33, 34, 35, 36, 37, 38, 39, 40, 41, 42, 43, 44, 45] (by decide +kernel) (by decide +kernel)
set_option maxRecDepth 20000 in
theorem gX9_payer_X9_isPayer : GoodIn wsX9_payer (wsV RX9 123 RX9 yX9_isPayer wsX9_isPayer) := goodIn_app (goodIn_of _ (by decide +kernel)) ggX9_payer_X9_isPayer
set_option maxRecDepth 20000 in
theorem ggX9_payer_X9_tellsBy : GoodIn wsX9_payer wsX9_tellsBy := goodIn_r _ [16, 3, 2, 25, 26, 27, 28, 29, 30, 31, 32, 33, 34, 35, 36, 37, 38, 39, 40, 41, 42, 43, 44, 45] (by decide +kernel) (by decide +kernel)
set_option maxRecDepth 20000 in
theorem gX9_payer_X9_tellsBy : GoodIn wsX9_payer (wsV RX9 119 RX9 yX9_tellsBy wsX9_tellsBy) := goodIn_app (goodIn_of _ (by decide +kernel)) ggX9_payer_X9_tellsBy
set_option maxRecDepth 20000 in
theorem ggX9_payer_X9_hiddenBy : GoodIn wsX9_payer wsX9_hiddenBy := goodIn_r _ [20, 2, 13, 14, 15, 8, 16, 3, 25, 26, 27, 28, 29, 30, 31, 32, 33, 34, 35, 36, 37, 38, 39, 40, 41, 42, 43, 44, 45] (by decide +kernel) (by decide +kernel)
set_option maxRecDepth 20000 in
theorem gX9_payer_X9_hiddenBy : GoodIn wsX9_payer (wsV RX9 127 RX9 yX9_hiddenBy wsX9_hiddenBy) := goodIn_app (goodIn_of _ (by decide +kernel)) ggX9_payer_X9_hiddenBy
set_option maxRecDepth 20000 in
theorem ggX9_payer_X9_paysBy : GoodIn wsX9_payer wsX9_paysBy := goodIn_r _ [24, 13, 14, 15, 8, 16, 3, 2, 25, 26, 27, 28, 29, 30, 31, 32, 33, 34, 35, 36, 37, 38, 39, 40, 41, 42, 43, 44, 45] (by decide +kernel) (by decide +kernel)
set_option maxRecDepth 20000 in
theorem gX9_payer_X9_paysBy : GoodIn wsX9_payer (wsV RX9 130 RX9 yX9_paysBy wsX9_paysBy) := goodIn_app (goodIn_of _ (by decide +kernel)) ggX9_payer_X9_paysBy
theorem dX9_payer_0 : decode cX9_payer 0 = .ok (.aload_n 0, 1) := by decide +kernel
theorem dX9_payer_1 : decode cX9_payer 1 = .ok (.iload_n 1, 1) := by decide +kernel
theorem dX9_payer_2 : decode cX9_payer 2 = .ok (.invokevirtual 123, 3) := by decide +kernel
theorem dX9_payer_5 : decode cX9_payer 5 = .ok (.ifCond .ne 6, 3) := by decide +kernel
theorem dX9_payer_8 : decode cX9_payer 8 = .ok (.ldc 126, 2) := by decide +kernel
theorem dX9_payer_10 : decode cX9_payer 10 = .ok (.ireturn, 1) := by decide +kernel
theorem dX9_payer_11 : decode cX9_payer 11 = .ok (.aload_n 0, 1) := by decide +kernel
theorem dX9_payer_12 : decode cX9_payer 12 = .ok (.getfield 13, 3) := by decide +kernel
theorem dX9_payer_15 : decode cX9_payer 15 = .ok (.bipush 6, 2) := by decide +kernel
theorem dX9_payer_17 : decode cX9_payer 17 = .ok (.iload_n 1, 1) := by decide +kernel
theorem dX9_payer_18 : decode cX9_payer 18 = .ok (.iadd, 1) := by decide +kernel
theorem dX9_payer_19 : decode cX9_payer 19 = .ok (.iaload, 1) := by decide +kernel
theorem dX9_payer_20 : decode cX9_payer 20 = .ok (.istore_n 3, 1) := by decide +kernel
theorem dX9_payer_21 : decode cX9_payer 21 = .ok (.iload_n 2, 1) := by decide +kernel
theorem dX9_payer_22 : decode cX9_payer 22 = .ok (.tableswitch 80 0 5 #[38, 47, 57, 59, 66, 73], 38) := by decide +kernel
theorem dX9_payer_60 : decode cX9_payer 60 = .ok (.aload_n 0, 1) := by decide +kernel
theorem dX9_payer_61 : decode cX9_payer 61 = .ok (.getfield 13, 3) := by decide +kernel
theorem dX9_payer_64 : decode cX9_payer 64 = .ok (.iconst 0, 1) := by decide +kernel
theorem dX9_payer_65 : decode cX9_payer 65 = .ok (.iload_n 1, 1) := by decide +kernel
theorem dX9_payer_66 : decode cX9_payer 66 = .ok (.iadd, 1) := by decide +kernel
theorem dX9_payer_67 : decode cX9_payer 67 = .ok (.iaload, 1) := by decide +kernel
theorem dX9_payer_68 : decode cX9_payer 68 = .ok (.ireturn, 1) := by decide +kernel
theorem dX9_payer_69 : decode cX9_payer 69 = .ok (.aload_n 0, 1) := by decide +kernel
theorem dX9_payer_70 : decode cX9_payer 70 = .ok (.getfield 7, 3) := by decide +kernel
theorem dX9_payer_73 : decode cX9_payer 73 = .ok (.bipush 13, 2) := by decide +kernel
theorem dX9_payer_75 : decode cX9_payer 75 = .ok (.iload_n 1, 1) := by decide +kernel
theorem dX9_payer_76 : decode cX9_payer 76 = .ok (.iadd, 1) := by decide +kernel
theorem dX9_payer_77 : decode cX9_payer 77 = .ok (.iaload, 1) := by decide +kernel
theorem dX9_payer_78 : decode cX9_payer 78 = .ok (.ireturn, 1) := by decide +kernel
theorem dX9_payer_79 : decode cX9_payer 79 = .ok (.iload_n 3, 1) := by decide +kernel
theorem dX9_payer_80 : decode cX9_payer 80 = .ok (.ireturn, 1) := by decide +kernel
theorem dX9_payer_81 : decode cX9_payer 81 = .ok (.aload_n 0, 1) := by decide +kernel
theorem dX9_payer_82 : decode cX9_payer 82 = .ok (.iload_n 1, 1) := by decide +kernel
theorem dX9_payer_83 : decode cX9_payer 83 = .ok (.iload_n 3, 1) := by decide +kernel
theorem dX9_payer_84 : decode cX9_payer 84 = .ok (.invokevirtual 119, 3) := by decide +kernel
theorem dX9_payer_87 : decode cX9_payer 87 = .ok (.ireturn, 1) := by decide +kernel
theorem dX9_payer_88 : decode cX9_payer 88 = .ok (.aload_n 0, 1) := by decide +kernel
theorem dX9_payer_89 : decode cX9_payer 89 = .ok (.iload_n 1, 1) := by decide +kernel
theorem dX9_payer_90 : decode cX9_payer 90 = .ok (.iload_n 3, 1) := by decide +kernel
theorem dX9_payer_91 : decode cX9_payer 91 = .ok (.invokevirtual 127, 3) := by decide +kernel
theorem dX9_payer_94 : decode cX9_payer 94 = .ok (.ireturn, 1) := by decide +kernel
theorem dX9_payer_95 : decode cX9_payer 95 = .ok (.aload_n 0, 1) := by decide +kernel
theorem dX9_payer_96 : decode cX9_payer 96 = .ok (.iload_n 1, 1) := by decide +kernel
theorem dX9_payer_97 : decode cX9_payer 97 = .ok (.iload_n 3, 1) := by decide +kernel
theorem dX9_payer_98 : decode cX9_payer 98 = .ok (.invokevirtual 130, 3) := by decide +kernel
theorem dX9_payer_101 : decode cX9_payer 101 = .ok (.ireturn, 1) := by decide +kernel
theorem dX9_payer_102 : decode cX9_payer 102 = .ok (.ldc 54, 2) := by decide +kernel
theorem dX9_payer_104 : decode cX9_payer 104 = .ok (.ireturn, 1) := by decide +kernel
set_option maxRecDepth 20000 in
theorem ggX9_bid_X9_in : GoodIn wsX9_bid wsX9_in := goodIn_r _ [5] (by decide +kernel) (by decide +kernel)
set_option maxRecDepth 20000 in
theorem gX9_bid_X9_in : GoodIn wsX9_bid (va_wsS RX9 50 yX9_in wsX9_in) := goodIn_app (goodIn_of _ (by decide +kernel)) ggX9_bid_X9_in
theorem dX9_bid_0 : decode cX9_bid 0 = .ok (.iload_n 1, 1) := by decide +kernel
theorem dX9_bid_1 : decode cX9_bid 1 = .ok (.i2l, 1) := by decide +kernel
theorem dX9_bid_2 : decode cX9_bid 2 = .ok (.lconst 0, 1) := by decide +kernel
theorem dX9_bid_3 : decode cX9_bid 3 = .ok (.aload_n 0, 1) := by decide +kernel
theorem dX9_bid_4 : decode cX9_bid 4 = .ok (.getfield 7, 3) := by decide +kernel
theorem dX9_bid_7 : decode cX9_bid 7 = .ok (.iconst 3, 1) := by decide +kernel
theorem dX9_bid_8 : decode cX9_bid 8 = .ok (.iaload, 1) := by decide +kernel
theorem dX9_bid_9 : decode cX9_bid 9 = .ok (.iconst 1, 1) := by decide +kernel
theorem dX9_bid_10 : decode cX9_bid 10 = .ok (.isub, 1) := by decide +kernel
theorem dX9_bid_11 : decode cX9_bid 11 = .ok (.i2l, 1) := by decide +kernel
theorem dX9_bid_12 : decode cX9_bid 12 = .ok (.invokestatic 50, 3) := by decide +kernel
theorem dX9_bid_15 : decode cX9_bid 15 = .ok (.ifCond .eq 15, 3) := by decide +kernel
theorem dX9_bid_18 : decode cX9_bid 18 = .ok (.aload_n 0, 1) := by decide +kernel
theorem dX9_bid_19 : decode cX9_bid 19 = .ok (.getfield 7, 3) := by decide +kernel
theorem dX9_bid_22 : decode cX9_bid 22 = .ok (.bipush 19, 2) := by decide +kernel
theorem dX9_bid_24 : decode cX9_bid 24 = .ok (.iload_n 1, 1) := by decide +kernel
theorem dX9_bid_25 : decode cX9_bid 25 = .ok (.iadd, 1) := by decide +kernel
theorem dX9_bid_26 : decode cX9_bid 26 = .ok (.iaload, 1) := by decide +kernel
theorem dX9_bid_27 : decode cX9_bid 27 = .ok (.goto 4, 3) := by decide +kernel
theorem dX9_bid_30 : decode cX9_bid 30 = .ok (.iconst (-1), 1) := by decide +kernel
theorem dX9_bid_31 : decode cX9_bid 31 = .ok (.ireturn, 1) := by decide +kernel
set_option maxRecDepth 20000 in
theorem ggX9_oneMonth_X9_paysBy : GoodIn wsX9_oneMonth wsX9_paysBy := goodIn_r _ [7, 8, 9, 10, 6, 11, 1, 2, 12, 13, 14, 15, 16, 17, 18, 19, 20, 21, 22, 23, 24, 25, 26, 27, 28, 29, 30, 31, 32] (by decide +kernel) (by decide +kernel)
set_option maxRecDepth 20000 in
theorem gX9_oneMonth_X9_paysBy : GoodIn wsX9_oneMonth (wsV RX9 130 RX9 yX9_paysBy wsX9_paysBy) := goodIn_app (goodIn_of _ (by decide +kernel)) ggX9_oneMonth_X9_paysBy
theorem dX9_oneMonth_0 : decode cX9_oneMonth 0 = .ok (.iconst 0, 1) := by decide +kernel
theorem dX9_oneMonth_1 : decode cX9_oneMonth 1 = .ok (.istore_n 1, 1) := by decide +kernel
theorem dX9_oneMonth_2 : decode cX9_oneMonth 2 = .ok (.iload_n 1, 1) := by decide +kernel
theorem dX9_oneMonth_3 : decode cX9_oneMonth 3 = .ok (.aload_n 0, 1) := by decide +kernel
theorem dX9_oneMonth_4 : decode cX9_oneMonth 4 = .ok (.getfield 7, 3) := by decide +kernel
theorem dX9_oneMonth_7 : decode cX9_oneMonth 7 = .ok (.iconst 2, 1) := by decide +kernel
theorem dX9_oneMonth_8 : decode cX9_oneMonth 8 = .ok (.iaload, 1) := by decide +kernel
theorem dX9_oneMonth_9 : decode cX9_oneMonth 9 = .ok (.if_icmp .ge 47, 3) := by decide +kernel
theorem dX9_oneMonth_12 : decode cX9_oneMonth 12 = .ok (.aload_n 0, 1) := by decide +kernel
theorem dX9_oneMonth_13 : decode cX9_oneMonth 13 = .ok (.iload_n 1, 1) := by decide +kernel
theorem dX9_oneMonth_14 : decode cX9_oneMonth 14 = .ok (.aload_n 0, 1) := by decide +kernel
theorem dX9_oneMonth_15 : decode cX9_oneMonth 15 = .ok (.getfield 13, 3) := by decide +kernel
theorem dX9_oneMonth_18 : decode cX9_oneMonth 18 = .ok (.bipush 6, 2) := by decide +kernel
theorem dX9_oneMonth_20 : decode cX9_oneMonth 20 = .ok (.iload_n 1, 1) := by decide +kernel
theorem dX9_oneMonth_21 : decode cX9_oneMonth 21 = .ok (.iadd, 1) := by decide +kernel
theorem dX9_oneMonth_22 : decode cX9_oneMonth 22 = .ok (.iaload, 1) := by decide +kernel
theorem dX9_oneMonth_23 : decode cX9_oneMonth 23 = .ok (.invokevirtual 130, 3) := by decide +kernel
theorem dX9_oneMonth_26 : decode cX9_oneMonth 26 = .ok (.istore_n 2, 1) := by decide +kernel
theorem dX9_oneMonth_27 : decode cX9_oneMonth 27 = .ok (.aload_n 0, 1) := by decide +kernel
theorem dX9_oneMonth_28 : decode cX9_oneMonth 28 = .ok (.getfield 13, 3) := by decide +kernel
theorem dX9_oneMonth_31 : decode cX9_oneMonth 31 = .ok (.iconst 0, 1) := by decide +kernel
theorem dX9_oneMonth_32 : decode cX9_oneMonth 32 = .ok (.iload_n 1, 1) := by decide +kernel
theorem dX9_oneMonth_33 : decode cX9_oneMonth 33 = .ok (.iadd, 1) := by decide +kernel
theorem dX9_oneMonth_34 : decode cX9_oneMonth 34 = .ok (.dup2, 1) := by decide +kernel
theorem dX9_oneMonth_35 : decode cX9_oneMonth 35 = .ok (.iaload, 1) := by decide +kernel
theorem dX9_oneMonth_36 : decode cX9_oneMonth 36 = .ok (.iload_n 2, 1) := by decide +kernel
theorem dX9_oneMonth_37 : decode cX9_oneMonth 37 = .ok (.isub, 1) := by decide +kernel
theorem dX9_oneMonth_38 : decode cX9_oneMonth 38 = .ok (.iastore, 1) := by decide +kernel
theorem dX9_oneMonth_39 : decode cX9_oneMonth 39 = .ok (.aload_n 0, 1) := by decide +kernel
theorem dX9_oneMonth_40 : decode cX9_oneMonth 40 = .ok (.getfield 13, 3) := by decide +kernel
theorem dX9_oneMonth_43 : decode cX9_oneMonth 43 = .ok (.bipush 12, 2) := by decide +kernel
theorem dX9_oneMonth_45 : decode cX9_oneMonth 45 = .ok (.dup2, 1) := by decide +kernel
theorem dX9_oneMonth_46 : decode cX9_oneMonth 46 = .ok (.iaload, 1) := by decide +kernel
theorem dX9_oneMonth_47 : decode cX9_oneMonth 47 = .ok (.iload_n 2, 1) := by decide +kernel
theorem dX9_oneMonth_48 : decode cX9_oneMonth 48 = .ok (.iadd, 1) := by decide +kernel
theorem dX9_oneMonth_49 : decode cX9_oneMonth 49 = .ok (.iastore, 1) := by decide +kernel
theorem dX9_oneMonth_50 : decode cX9_oneMonth 50 = .ok (.iinc 1 1, 3) := by decide +kernel
theorem dX9_oneMonth_53 : decode cX9_oneMonth 53 = .ok (.goto (-51), 3) := by decide +kernel
theorem dX9_oneMonth_56 : decode cX9_oneMonth 56 = .ok (.aload_n 0, 1) := by decide +kernel
theorem dX9_oneMonth_57 : decode cX9_oneMonth 57 = .ok (.getfield 13, 3) := by decide +kernel
theorem dX9_oneMonth_60 : decode cX9_oneMonth 60 = .ok (.bipush 13, 2) := by decide +kernel
theorem dX9_oneMonth_62 : decode cX9_oneMonth 62 = .ok (.dup2, 1) := by decide +kernel
theorem dX9_oneMonth_63 : decode cX9_oneMonth 63 = .ok (.iaload, 1) := by decide +kernel
theorem dX9_oneMonth_64 : decode cX9_oneMonth 64 = .ok (.iconst 1, 1) := by decide +kernel
theorem dX9_oneMonth_65 : decode cX9_oneMonth 65 = .ok (.iadd, 1) := by decide +kernel
theorem dX9_oneMonth_66 : decode cX9_oneMonth 66 = .ok (.iastore, 1) := by decide +kernel
theorem dX9_oneMonth_67 : decode cX9_oneMonth 67 = .ok (.return_, 1) := by decide +kernel
theorem dX9_isHeld_0 : decode cX9_isHeld 0 = .ok (.aload_n 0, 1) := by decide +kernel
theorem dX9_isHeld_1 : decode cX9_isHeld 1 = .ok (.getfield 106, 3) := by decide +kernel
theorem dX9_isHeld_4 : decode cX9_isHeld 4 = .ok (.ifCond .eq 17, 3) := by decide +kernel
theorem dX9_isHeld_7 : decode cX9_isHeld 7 = .ok (.aload_n 0, 1) := by decide +kernel
theorem dX9_isHeld_8 : decode cX9_isHeld 8 = .ok (.getfield 13, 3) := by decide +kernel
theorem dX9_isHeld_11 : decode cX9_isHeld 11 = .ok (.bipush 16, 2) := by decide +kernel
theorem dX9_isHeld_13 : decode cX9_isHeld 13 = .ok (.iaload, 1) := by decide +kernel
theorem dX9_isHeld_14 : decode cX9_isHeld 14 = .ok (.ifCond .ne 7, 3) := by decide +kernel
theorem dX9_isHeld_17 : decode cX9_isHeld 17 = .ok (.iconst 1, 1) := by decide +kernel
theorem dX9_isHeld_18 : decode cX9_isHeld 18 = .ok (.goto 4, 3) := by decide +kernel
theorem dX9_isHeld_21 : decode cX9_isHeld 21 = .ok (.iconst 0, 1) := by decide +kernel
theorem dX9_isHeld_22 : decode cX9_isHeld 22 = .ok (.ireturn, 1) := by decide +kernel
set_option maxRecDepth 20000 in
theorem ggX9_cost_X9_ones : GoodIn wsX9_cost wsX9_ones := goodIn_r _ [5] (by decide +kernel) (by decide +kernel)
set_option maxRecDepth 20000 in
theorem gX9_cost_X9_ones : GoodIn wsX9_cost (va_wsS RX9 133 yX9_ones wsX9_ones) := goodIn_app (goodIn_of _ (by decide +kernel)) ggX9_cost_X9_ones
theorem dX9_cost_0 : decode cX9_cost 0 = .ok (.aload_n 0, 1) := by decide +kernel
theorem dX9_cost_1 : decode cX9_cost 1 = .ok (.getfield 13, 3) := by decide +kernel
theorem dX9_cost_4 : decode cX9_cost 4 = .ok (.bipush 14, 2) := by decide +kernel
theorem dX9_cost_6 : decode cX9_cost 6 = .ok (.iaload, 1) := by decide +kernel
theorem dX9_cost_7 : decode cX9_cost 7 = .ok (.bipush 10, 2) := by decide +kernel
theorem dX9_cost_9 : decode cX9_cost 9 = .ok (.aload_n 0, 1) := by decide +kernel
theorem dX9_cost_10 : decode cX9_cost 10 = .ok (.getfield 13, 3) := by decide +kernel
theorem dX9_cost_13 : decode cX9_cost 13 = .ok (.bipush 15, 2) := by decide +kernel
theorem dX9_cost_15 : decode cX9_cost 15 = .ok (.iaload, 1) := by decide +kernel
theorem dX9_cost_16 : decode cX9_cost 16 = .ok (.invokestatic 133, 3) := by decide +kernel
theorem dX9_cost_19 : decode cX9_cost 19 = .ok (.imul, 1) := by decide +kernel
theorem dX9_cost_20 : decode cX9_cost 20 = .ok (.isub, 1) := by decide +kernel
theorem dX9_cost_21 : decode cX9_cost 21 = .ok (.istore_n 1, 1) := by decide +kernel
theorem dX9_cost_22 : decode cX9_cost 22 = .ok (.iload_n 1, 1) := by decide +kernel
theorem dX9_cost_23 : decode cX9_cost 23 = .ok (.ifCond .ge 7, 3) := by decide +kernel
theorem dX9_cost_26 : decode cX9_cost 26 = .ok (.iconst 0, 1) := by decide +kernel
theorem dX9_cost_27 : decode cX9_cost 27 = .ok (.goto 4, 3) := by decide +kernel
theorem dX9_cost_30 : decode cX9_cost 30 = .ok (.iload_n 1, 1) := by decide +kernel
theorem dX9_cost_31 : decode cX9_cost 31 = .ok (.ireturn, 1) := by decide +kernel
theorem dX9_note_0 : decode cX9_note 0 = .ok (.aload_n 0, 1) := by decide +kernel
theorem dX9_note_1 : decode cX9_note 1 = .ok (.getfield 110, 3) := by decide +kernel
theorem dX9_note_4 : decode cX9_note 4 = .ok (.bipush 20, 2) := by decide +kernel
theorem dX9_note_6 : decode cX9_note 6 = .ok (.if_icmp .ne 43, 3) := by decide +kernel
theorem dX9_note_9 : decode cX9_note 9 = .ok (.iconst 0, 1) := by decide +kernel
theorem dX9_note_10 : decode cX9_note 10 = .ok (.istore_n 1, 1) := by decide +kernel
theorem dX9_note_11 : decode cX9_note 11 = .ok (.iload_n 1, 1) := by decide +kernel
theorem dX9_note_12 : decode cX9_note 12 = .ok (.sipush 323, 3) := by decide +kernel
theorem dX9_note_15 : decode cX9_note 15 = .ok (.if_icmp .ge 24, 3) := by decide +kernel
theorem dX9_note_18 : decode cX9_note 18 = .ok (.aload_n 0, 1) := by decide +kernel
theorem dX9_note_19 : decode cX9_note 19 = .ok (.getfield 26, 3) := by decide +kernel
theorem dX9_note_22 : decode cX9_note 22 = .ok (.iload_n 1, 1) := by decide +kernel
theorem dX9_note_23 : decode cX9_note 23 = .ok (.aload_n 0, 1) := by decide +kernel
theorem dX9_note_24 : decode cX9_note 24 = .ok (.getfield 26, 3) := by decide +kernel
theorem dX9_note_27 : decode cX9_note 27 = .ok (.iload_n 1, 1) := by decide +kernel
theorem dX9_note_28 : decode cX9_note 28 = .ok (.bipush 17, 2) := by decide +kernel
theorem dX9_note_30 : decode cX9_note 30 = .ok (.iadd, 1) := by decide +kernel
theorem dX9_note_31 : decode cX9_note 31 = .ok (.iaload, 1) := by decide +kernel
theorem dX9_note_32 : decode cX9_note 32 = .ok (.iastore, 1) := by decide +kernel
theorem dX9_note_33 : decode cX9_note 33 = .ok (.iinc 1 1, 3) := by decide +kernel
theorem dX9_note_36 : decode cX9_note 36 = .ok (.goto (-25), 3) := by decide +kernel
theorem dX9_note_39 : decode cX9_note 39 = .ok (.aload_n 0, 1) := by decide +kernel
theorem dX9_note_40 : decode cX9_note 40 = .ok (.dup, 1) := by decide +kernel
theorem dX9_note_41 : decode cX9_note 41 = .ok (.getfield 110, 3) := by decide +kernel
theorem dX9_note_44 : decode cX9_note 44 = .ok (.iconst 1, 1) := by decide +kernel
theorem dX9_note_45 : decode cX9_note 45 = .ok (.isub, 1) := by decide +kernel
theorem dX9_note_46 : decode cX9_note 46 = .ok (.putfield 110, 3) := by decide +kernel
theorem dX9_note_49 : decode cX9_note 49 = .ok (.iconst 0, 1) := by decide +kernel
theorem dX9_note_50 : decode cX9_note 50 = .ok (.istore_n 1, 1) := by decide +kernel
theorem dX9_note_51 : decode cX9_note 51 = .ok (.iload_n 1, 1) := by decide +kernel
theorem dX9_note_52 : decode cX9_note 52 = .ok (.bipush 17, 2) := by decide +kernel
theorem dX9_note_54 : decode cX9_note 54 = .ok (.if_icmp .ge 29, 3) := by decide +kernel
theorem dX9_note_57 : decode cX9_note 57 = .ok (.aload_n 0, 1) := by decide +kernel
theorem dX9_note_58 : decode cX9_note 58 = .ok (.getfield 26, 3) := by decide +kernel
theorem dX9_note_61 : decode cX9_note 61 = .ok (.bipush 17, 2) := by decide +kernel
theorem dX9_note_63 : decode cX9_note 63 = .ok (.aload_n 0, 1) := by decide +kernel
theorem dX9_note_64 : decode cX9_note 64 = .ok (.getfield 110, 3) := by decide +kernel
theorem dX9_note_67 : decode cX9_note 67 = .ok (.imul, 1) := by decide +kernel
theorem dX9_note_68 : decode cX9_note 68 = .ok (.iload_n 1, 1) := by decide +kernel
theorem dX9_note_69 : decode cX9_note 69 = .ok (.iadd, 1) := by decide +kernel
theorem dX9_note_70 : decode cX9_note 70 = .ok (.aload_n 0, 1) := by decide +kernel
theorem dX9_note_71 : decode cX9_note 71 = .ok (.getfield 13, 3) := by decide +kernel
theorem dX9_note_74 : decode cX9_note 74 = .ok (.iload_n 1, 1) := by decide +kernel
theorem dX9_note_75 : decode cX9_note 75 = .ok (.iaload, 1) := by decide +kernel
theorem dX9_note_76 : decode cX9_note 76 = .ok (.iastore, 1) := by decide +kernel
theorem dX9_note_77 : decode cX9_note 77 = .ok (.iinc 1 1, 3) := by decide +kernel
theorem dX9_note_80 : decode cX9_note 80 = .ok (.goto (-29), 3) := by decide +kernel
theorem dX9_note_83 : decode cX9_note 83 = .ok (.aload_n 0, 1) := by decide +kernel
theorem dX9_note_84 : decode cX9_note 84 = .ok (.dup, 1) := by decide +kernel
theorem dX9_note_85 : decode cX9_note 85 = .ok (.getfield 110, 3) := by decide +kernel
theorem dX9_note_88 : decode cX9_note 88 = .ok (.iconst 1, 1) := by decide +kernel
theorem dX9_note_89 : decode cX9_note 89 = .ok (.iadd, 1) := by decide +kernel
theorem dX9_note_90 : decode cX9_note 90 = .ok (.putfield 110, 3) := by decide +kernel
theorem dX9_note_93 : decode cX9_note 93 = .ok (.return_, 1) := by decide +kernel
set_option maxRecDepth 20000 in
theorem ggX9_rate_X9_isPayer : GoodIn wsX9_rate wsX9_isPayer := goodIn_r _ [9, 10, 11, 12, 8, 13, 20, 21, 22, 23, 24, 25, 26, 27, 28, 29, 30, 31, 32, 33, 34, 35, 36, 37, 38, 39, 40] (by decide +kernel) (by decide +kernel)
set_option maxRecDepth 20000 in
theorem gX9_rate_X9_isPayer : GoodIn wsX9_rate (wsV RX9 123 RX9 yX9_isPayer wsX9_isPayer) := goodIn_app (goodIn_of _ (by decide +kernel)) ggX9_rate_X9_isPayer
set_option maxRecDepth 20000 in
theorem ggX9_rate_X9_in : GoodIn wsX9_rate wsX9_in := goodIn_r _ [13] (by decide +kernel) (by decide +kernel)
set_option maxRecDepth 20000 in
theorem gX9_rate_X9_in : GoodIn wsX9_rate (va_wsS RX9 50 yX9_in wsX9_in) := goodIn_app (goodIn_of _ (by decide +kernel)) ggX9_rate_X9_in
set_option maxRecDepth 20000 in
theorem ggX9_rate_X9_note : GoodIn wsX9_rate wsX9_note := goodIn_r _ [17, 18, 19, 4, 20, 21, 22, 23, 24, 25, 26, 27, 28, 29, 30, 31, 32, 33, 34, 35, 36, 37, 38, 39, 40] (by decide +kernel) (by decide +kernel)
set_option maxRecDepth 20000 in
theorem gX9_rate_X9_note : GoodIn wsX9_rate (wsV RX9 139 RX9 yX9_note wsX9_note) := goodIn_app (goodIn_of _ (by decide +kernel)) ggX9_rate_X9_note
theorem dX9_rate_0 : decode cX9_rate 0 = .ok (.aload_n 0, 1) := by decide +kernel
theorem dX9_rate_1 : decode cX9_rate 1 = .ok (.iload_n 1, 1) := by decide +kernel
theorem dX9_rate_2 : decode cX9_rate 2 = .ok (.invokevirtual 123, 3) := by decide +kernel
theorem dX9_rate_5 : decode cX9_rate 5 = .ok (.ifCond .ne 6, 3) := by decide +kernel
theorem dX9_rate_8 : decode cX9_rate 8 = .ok (.ldc 126, 2) := by decide +kernel
theorem dX9_rate_10 : decode cX9_rate 10 = .ok (.ireturn, 1) := by decide +kernel
theorem dX9_rate_11 : decode cX9_rate 11 = .ok (.iload_n 2, 1) := by decide +kernel
theorem dX9_rate_12 : decode cX9_rate 12 = .ok (.i2l, 1) := by decide +kernel
theorem dX9_rate_13 : decode cX9_rate 13 = .ok (.lconst 0, 1) := by decide +kernel
theorem dX9_rate_14 : decode cX9_rate 14 = .ok (.ldc2_w 137, 3) := by decide +kernel
theorem dX9_rate_17 : decode cX9_rate 17 = .ok (.invokestatic 50, 3) := by decide +kernel
theorem dX9_rate_20 : decode cX9_rate 20 = .ok (.ifCond .ne 6, 3) := by decide +kernel
theorem dX9_rate_23 : decode cX9_rate 23 = .ok (.ldc 54, 2) := by decide +kernel
theorem dX9_rate_25 : decode cX9_rate 25 = .ok (.ireturn, 1) := by decide +kernel
theorem dX9_rate_26 : decode cX9_rate 26 = .ok (.aload_n 0, 1) := by decide +kernel
theorem dX9_rate_27 : decode cX9_rate 27 = .ok (.invokevirtual 139, 3) := by decide +kernel
theorem dX9_rate_30 : decode cX9_rate 30 = .ok (.aload_n 0, 1) := by decide +kernel
theorem dX9_rate_31 : decode cX9_rate 31 = .ok (.getfield 13, 3) := by decide +kernel
theorem dX9_rate_34 : decode cX9_rate 34 = .ok (.bipush 6, 2) := by decide +kernel
theorem dX9_rate_36 : decode cX9_rate 36 = .ok (.iload_n 1, 1) := by decide +kernel
theorem dX9_rate_37 : decode cX9_rate 37 = .ok (.iadd, 1) := by decide +kernel
theorem dX9_rate_38 : decode cX9_rate 38 = .ok (.iaload, 1) := by decide +kernel
theorem dX9_rate_39 : decode cX9_rate 39 = .ok (.istore_n 3, 1) := by decide +kernel
theorem dX9_rate_40 : decode cX9_rate 40 = .ok (.aload_n 0, 1) := by decide +kernel
theorem dX9_rate_41 : decode cX9_rate 41 = .ok (.getfield 13, 3) := by decide +kernel
theorem dX9_rate_44 : decode cX9_rate 44 = .ok (.bipush 6, 2) := by decide +kernel
theorem dX9_rate_46 : decode cX9_rate 46 = .ok (.iload_n 1, 1) := by decide +kernel
theorem dX9_rate_47 : decode cX9_rate 47 = .ok (.iadd, 1) := by decide +kernel
theorem dX9_rate_48 : decode cX9_rate 48 = .ok (.iload_n 2, 1) := by decide +kernel
theorem dX9_rate_49 : decode cX9_rate 49 = .ok (.iastore, 1) := by decide +kernel
theorem dX9_rate_50 : decode cX9_rate 50 = .ok (.iload_n 3, 1) := by decide +kernel
theorem dX9_rate_51 : decode cX9_rate 51 = .ok (.ireturn, 1) := by decide +kernel
set_option maxRecDepth 20000 in
theorem ggX9_lacksTime_X9_in : GoodIn wsX9_lacksTime wsX9_in := goodIn_r _ [9] (by decide +kernel) (by decide +kernel)
set_option maxRecDepth 20000 in
theorem gX9_lacksTime_X9_in : GoodIn wsX9_lacksTime (va_wsS RX9 50 yX9_in wsX9_in) := goodIn_app (goodIn_of _ (by decide +kernel)) ggX9_lacksTime_X9_in
set_option maxRecDepth 20000 in
theorem ggX9_lacksTime_X9_isHeld : GoodIn wsX9_lacksTime wsX9_isHeld := goodIn_r _ [13, 14, 4, 15, 16, 17, 18, 19, 20, 21, 22, 23, 24, 25, 26, 27, 28, 29, 30, 31, 32, 33, 34, 35] (by decide +kernel) (by decide +kernel)
set_option maxRecDepth 20000 in
theorem gX9_lacksTime_X9_isHeld : GoodIn wsX9_lacksTime (wsV RX9 144 RX9 yX9_isHeld wsX9_isHeld) := goodIn_app (goodIn_of _ (by decide +kernel)) ggX9_lacksTime_X9_isHeld
theorem dX9_lacksTime_0 : decode cX9_lacksTime 0 = .ok (.iload_n 1, 1) := by decide +kernel
theorem dX9_lacksTime_1 : decode cX9_lacksTime 1 = .ok (.i2l, 1) := by decide +kernel
theorem dX9_lacksTime_2 : decode cX9_lacksTime 2 = .ok (.lconst 1, 1) := by decide +kernel
theorem dX9_lacksTime_3 : decode cX9_lacksTime 3 = .ok (.ldc2_w 142, 3) := by decide +kernel
theorem dX9_lacksTime_6 : decode cX9_lacksTime 6 = .ok (.invokestatic 50, 3) := by decide +kernel
theorem dX9_lacksTime_9 : decode cX9_lacksTime 9 = .ok (.ifCond .ne 8, 3) := by decide +kernel
theorem dX9_lacksTime_12 : decode cX9_lacksTime 12 = .ok (.ldc 54, 2) := by decide +kernel
theorem dX9_lacksTime_14 : decode cX9_lacksTime 14 = .ok (.goto 34, 3) := by decide +kernel
theorem dX9_lacksTime_17 : decode cX9_lacksTime 17 = .ok (.aload_n 0, 1) := by decide +kernel
theorem dX9_lacksTime_18 : decode cX9_lacksTime 18 = .ok (.invokevirtual 144, 3) := by decide +kernel
theorem dX9_lacksTime_21 : decode cX9_lacksTime 21 = .ok (.ifCond .ne 8, 3) := by decide +kernel
theorem dX9_lacksTime_24 : decode cX9_lacksTime 24 = .ok (.ldc 147, 2) := by decide +kernel
theorem dX9_lacksTime_26 : decode cX9_lacksTime 26 = .ok (.goto 22, 3) := by decide +kernel
theorem dX9_lacksTime_29 : decode cX9_lacksTime 29 = .ok (.aload_n 0, 1) := by decide +kernel
theorem dX9_lacksTime_30 : decode cX9_lacksTime 30 = .ok (.getfield 13, 3) := by decide +kernel
theorem dX9_lacksTime_33 : decode cX9_lacksTime 33 = .ok (.bipush 13, 2) := by decide +kernel
theorem dX9_lacksTime_35 : decode cX9_lacksTime 35 = .ok (.iaload, 1) := by decide +kernel
theorem dX9_lacksTime_36 : decode cX9_lacksTime 36 = .ok (.sipush 9000, 3) := by decide +kernel
theorem dX9_lacksTime_39 : decode cX9_lacksTime 39 = .ok (.if_icmp .le 8, 3) := by decide +kernel
theorem dX9_lacksTime_42 : decode cX9_lacksTime 42 = .ok (.ldc 58, 2) := by decide +kernel
theorem dX9_lacksTime_44 : decode cX9_lacksTime 44 = .ok (.goto 4, 3) := by decide +kernel
theorem dX9_lacksTime_47 : decode cX9_lacksTime 47 = .ok (.iconst 0, 1) := by decide +kernel
theorem dX9_lacksTime_48 : decode cX9_lacksTime 48 = .ok (.ireturn, 1) := by decide +kernel
set_option maxRecDepth 20000 in
theorem ggX9_month_X9_lacksTime : GoodIn wsX9_month wsX9_lacksTime := goodIn_r _ [6, 7, 8, 9, 1, 10, 11, 12, 5, 13, 14, 15, 16, 17, 18, 38, 39, 40, 41, 42, 43, 44, 45, 46, 47, 48, 49, 50, 51, 52, 53, 54, 55, 56, 57, 58] (by decide +kernel) (by decide +kernel)
set_option maxRecDepth 20000 in
theorem gX9_month_X9_lacksTime : GoodIn wsX9_month (wsV RX9 148 RX9 yX9_lacksTime wsX9_lacksTime) := goodIn_app (goodIn_of _ (by decide +kernel)) ggX9_month_X9_lacksTime
set_option maxRecDepth 20000 in
theorem ggX9_month_X9_note : GoodIn wsX9_month wsX9_note := goodIn_r _ [22, 23, 24, 1, 38, 39, 40, 41, 42, 43, 44, 45, 46, 47, 48, 49, 50, 51, 52, 53, 54, 55, 56, 57, 58] (by decide +kernel) (by decide +kernel)
set_option maxRecDepth 20000 in
theorem gX9_month_X9_note : GoodIn wsX9_month (wsV RX9 139 RX9 yX9_note wsX9_note) := goodIn_app (goodIn_of _ (by decide +kernel)) ggX9_month_X9_note
set_option maxRecDepth 20000 in
theorem ggX9_month_X9_oneMonth : GoodIn wsX9_month wsX9_oneMonth := goodIn_r _ [28, 29, 1, 30, 31, 32, 5, 33, 34, 35, 36, 37, 38, 39, 40, 41, 42, 43, 44, 45, 46, 47, 48, 49, 50, 51, 52, 53, 54, 55, 56, 57, 58] (by decide +kernel) (by decide +kernel)
set_option maxRecDepth 20000 in
theorem gX9_month_X9_oneMonth : GoodIn wsX9_month (wsV RX9 151 RX9 yX9_oneMonth wsX9_oneMonth) := goodIn_app (goodIn_of _ (by decide +kernel)) ggX9_month_X9_oneMonth
theorem dX9_month_0 : decode cX9_month 0 = .ok (.aload_n 0, 1) := by decide +kernel
theorem dX9_month_1 : decode cX9_month 1 = .ok (.iload_n 1, 1) := by decide +kernel
theorem dX9_month_2 : decode cX9_month 2 = .ok (.invokevirtual 148, 3) := by decide +kernel
theorem dX9_month_5 : decode cX9_month 5 = .ok (.istore_n 2, 1) := by decide +kernel
theorem dX9_month_6 : decode cX9_month 6 = .ok (.iload_n 2, 1) := by decide +kernel
theorem dX9_month_7 : decode cX9_month 7 = .ok (.ifCond .ge 5, 3) := by decide +kernel
theorem dX9_month_10 : decode cX9_month 10 = .ok (.iload_n 2, 1) := by decide +kernel
theorem dX9_month_11 : decode cX9_month 11 = .ok (.ireturn, 1) := by decide +kernel
theorem dX9_month_12 : decode cX9_month 12 = .ok (.aload_n 0, 1) := by decide +kernel
theorem dX9_month_13 : decode cX9_month 13 = .ok (.invokevirtual 139, 3) := by decide +kernel
theorem dX9_month_16 : decode cX9_month 16 = .ok (.iconst 0, 1) := by decide +kernel
theorem dX9_month_17 : decode cX9_month 17 = .ok (.istore_n 3, 1) := by decide +kernel
theorem dX9_month_18 : decode cX9_month 18 = .ok (.iload_n 3, 1) := by decide +kernel
theorem dX9_month_19 : decode cX9_month 19 = .ok (.iload_n 1, 1) := by decide +kernel
theorem dX9_month_20 : decode cX9_month 20 = .ok (.if_icmp .ge 13, 3) := by decide +kernel
theorem dX9_month_23 : decode cX9_month 23 = .ok (.aload_n 0, 1) := by decide +kernel
theorem dX9_month_24 : decode cX9_month 24 = .ok (.invokevirtual 151, 3) := by decide +kernel
theorem dX9_month_27 : decode cX9_month 27 = .ok (.iinc 3 1, 3) := by decide +kernel
theorem dX9_month_30 : decode cX9_month 30 = .ok (.goto (-12), 3) := by decide +kernel
theorem dX9_month_33 : decode cX9_month 33 = .ok (.aload_n 0, 1) := by decide +kernel
theorem dX9_month_34 : decode cX9_month 34 = .ok (.getfield 13, 3) := by decide +kernel
theorem dX9_month_37 : decode cX9_month 37 = .ok (.bipush 12, 2) := by decide +kernel
theorem dX9_month_39 : decode cX9_month 39 = .ok (.iaload, 1) := by decide +kernel
theorem dX9_month_40 : decode cX9_month 40 = .ok (.ireturn, 1) := by decide +kernel
set_option maxRecDepth 20000 in
theorem ggX9_raise_X9_in : GoodIn wsX9_raise wsX9_in := goodIn_r _ [8] (by decide +kernel) (by decide +kernel)
set_option maxRecDepth 20000 in
theorem gX9_raise_X9_in : GoodIn wsX9_raise (va_wsS RX9 50 yX9_in wsX9_in) := goodIn_app (goodIn_of _ (by decide +kernel)) ggX9_raise_X9_in
set_option maxRecDepth 20000 in
theorem ggX9_raise_X9_isHeld : GoodIn wsX9_raise wsX9_isHeld := goodIn_r _ [12, 13, 4, 20, 21, 22, 23, 24, 25, 26, 27, 28, 29, 30, 31, 32, 33, 34, 35, 36, 37, 38, 39, 40] (by decide +kernel) (by decide +kernel)
set_option maxRecDepth 20000 in
theorem gX9_raise_X9_isHeld : GoodIn wsX9_raise (wsV RX9 144 RX9 yX9_isHeld wsX9_isHeld) := goodIn_app (goodIn_of _ (by decide +kernel)) ggX9_raise_X9_isHeld
set_option maxRecDepth 20000 in
theorem ggX9_raise_X9_note : GoodIn wsX9_raise wsX9_note := goodIn_r _ [17, 18, 19, 4, 20, 21, 22, 23, 24, 25, 26, 27, 28, 29, 30, 31, 32, 33, 34, 35, 36, 37, 38, 39, 40] (by decide +kernel) (by decide +kernel)
set_option maxRecDepth 20000 in
theorem gX9_raise_X9_note : GoodIn wsX9_raise (wsV RX9 139 RX9 yX9_note wsX9_note) := goodIn_app (goodIn_of _ (by decide +kernel)) ggX9_raise_X9_note
theorem dX9_raise_0 : decode cX9_raise 0 = .ok (.iload_n 1, 1) := by decide +kernel
theorem dX9_raise_1 : decode cX9_raise 1 = .ok (.i2l, 1) := by decide +kernel
theorem dX9_raise_2 : decode cX9_raise 2 = .ok (.lconst 1, 1) := by decide +kernel
theorem dX9_raise_3 : decode cX9_raise 3 = .ok (.ldc2_w 154, 3) := by decide +kernel
theorem dX9_raise_6 : decode cX9_raise 6 = .ok (.invokestatic 50, 3) := by decide +kernel
theorem dX9_raise_9 : decode cX9_raise 9 = .ok (.ifCond .ne 6, 3) := by decide +kernel
theorem dX9_raise_12 : decode cX9_raise 12 = .ok (.ldc 54, 2) := by decide +kernel
theorem dX9_raise_14 : decode cX9_raise 14 = .ok (.ireturn, 1) := by decide +kernel
theorem dX9_raise_15 : decode cX9_raise 15 = .ok (.aload_n 0, 1) := by decide +kernel
theorem dX9_raise_16 : decode cX9_raise 16 = .ok (.invokevirtual 144, 3) := by decide +kernel
theorem dX9_raise_19 : decode cX9_raise 19 = .ok (.ifCond .ne 6, 3) := by decide +kernel
theorem dX9_raise_22 : decode cX9_raise 22 = .ok (.ldc 147, 2) := by decide +kernel
theorem dX9_raise_24 : decode cX9_raise 24 = .ok (.ireturn, 1) := by decide +kernel
theorem dX9_raise_25 : decode cX9_raise 25 = .ok (.aload_n 0, 1) := by decide +kernel
theorem dX9_raise_26 : decode cX9_raise 26 = .ok (.invokevirtual 139, 3) := by decide +kernel
theorem dX9_raise_29 : decode cX9_raise 29 = .ok (.aload_n 0, 1) := by decide +kernel
theorem dX9_raise_30 : decode cX9_raise 30 = .ok (.getfield 13, 3) := by decide +kernel
theorem dX9_raise_33 : decode cX9_raise 33 = .ok (.bipush 14, 2) := by decide +kernel
theorem dX9_raise_35 : decode cX9_raise 35 = .ok (.aload_n 0, 1) := by decide +kernel
theorem dX9_raise_36 : decode cX9_raise 36 = .ok (.getfield 13, 3) := by decide +kernel
theorem dX9_raise_39 : decode cX9_raise 39 = .ok (.bipush 14, 2) := by decide +kernel
theorem dX9_raise_41 : decode cX9_raise 41 = .ok (.iaload, 1) := by decide +kernel
theorem dX9_raise_42 : decode cX9_raise 42 = .ok (.iload_n 1, 1) := by decide +kernel
theorem dX9_raise_43 : decode cX9_raise 43 = .ok (.iadd, 1) := by decide +kernel
theorem dX9_raise_44 : decode cX9_raise 44 = .ok (.sipush 9999, 3) := by decide +kernel
theorem dX9_raise_47 : decode cX9_raise 47 = .ok (.if_icmp .le 9, 3) := by decide +kernel
theorem dX9_raise_50 : decode cX9_raise 50 = .ok (.sipush 9999, 3) := by decide +kernel
theorem dX9_raise_53 : decode cX9_raise 53 = .ok (.goto 12, 3) := by decide +kernel
theorem dX9_raise_56 : decode cX9_raise 56 = .ok (.aload_n 0, 1) := by decide +kernel
theorem dX9_raise_57 : decode cX9_raise 57 = .ok (.getfield 13, 3) := by decide +kernel
theorem dX9_raise_60 : decode cX9_raise 60 = .ok (.bipush 14, 2) := by decide +kernel
theorem dX9_raise_62 : decode cX9_raise 62 = .ok (.iaload, 1) := by decide +kernel
theorem dX9_raise_63 : decode cX9_raise 63 = .ok (.iload_n 1, 1) := by decide +kernel
theorem dX9_raise_64 : decode cX9_raise 64 = .ok (.iadd, 1) := by decide +kernel
theorem dX9_raise_65 : decode cX9_raise 65 = .ok (.iastore, 1) := by decide +kernel
theorem dX9_raise_66 : decode cX9_raise 66 = .ok (.aload_n 0, 1) := by decide +kernel
theorem dX9_raise_67 : decode cX9_raise 67 = .ok (.getfield 13, 3) := by decide +kernel
theorem dX9_raise_70 : decode cX9_raise 70 = .ok (.bipush 14, 2) := by decide +kernel
theorem dX9_raise_72 : decode cX9_raise 72 = .ok (.iaload, 1) := by decide +kernel
theorem dX9_raise_73 : decode cX9_raise 73 = .ok (.ireturn, 1) := by decide +kernel
set_option maxRecDepth 20000 in
theorem ggX9_hostage_X9_in : GoodIn wsX9_hostage wsX9_in := goodIn_r _ [7] (by decide +kernel) (by decide +kernel)
set_option maxRecDepth 20000 in
theorem gX9_hostage_X9_in : GoodIn wsX9_hostage (va_wsS RX9 50 yX9_in wsX9_in) := goodIn_app (goodIn_of _ (by decide +kernel)) ggX9_hostage_X9_in
set_option maxRecDepth 20000 in
theorem ggX9_hostage_X9_note : GoodIn wsX9_hostage wsX9_note := goodIn_r _ [11, 12, 13, 3, 14, 15, 16, 17, 18, 19, 20, 21, 22, 23, 24, 25, 26, 27, 28, 29, 30, 31, 32, 33, 34] (by decide +kernel) (by decide +kernel)
set_option maxRecDepth 20000 in
theorem gX9_hostage_X9_note : GoodIn wsX9_hostage (wsV RX9 139 RX9 yX9_note wsX9_note) := goodIn_app (goodIn_of _ (by decide +kernel)) ggX9_hostage_X9_note
theorem dX9_hostage_0 : decode cX9_hostage 0 = .ok (.iload_n 1, 1) := by decide +kernel
theorem dX9_hostage_1 : decode cX9_hostage 1 = .ok (.i2l, 1) := by decide +kernel
theorem dX9_hostage_2 : decode cX9_hostage 2 = .ok (.lconst 0, 1) := by decide +kernel
theorem dX9_hostage_3 : decode cX9_hostage 3 = .ok (.aload_n 0, 1) := by decide +kernel
theorem dX9_hostage_4 : decode cX9_hostage 4 = .ok (.getfield 7, 3) := by decide +kernel
theorem dX9_hostage_7 : decode cX9_hostage 7 = .ok (.iconst 4, 1) := by decide +kernel
theorem dX9_hostage_8 : decode cX9_hostage 8 = .ok (.iaload, 1) := by decide +kernel
theorem dX9_hostage_9 : decode cX9_hostage 9 = .ok (.iconst 1, 1) := by decide +kernel
theorem dX9_hostage_10 : decode cX9_hostage 10 = .ok (.isub, 1) := by decide +kernel
theorem dX9_hostage_11 : decode cX9_hostage 11 = .ok (.i2l, 1) := by decide +kernel
theorem dX9_hostage_12 : decode cX9_hostage 12 = .ok (.invokestatic 50, 3) := by decide +kernel
theorem dX9_hostage_15 : decode cX9_hostage 15 = .ok (.ifCond .ne 6, 3) := by decide +kernel
theorem dX9_hostage_18 : decode cX9_hostage 18 = .ok (.ldc 126, 2) := by decide +kernel
theorem dX9_hostage_20 : decode cX9_hostage 20 = .ok (.ireturn, 1) := by decide +kernel
theorem dX9_hostage_21 : decode cX9_hostage 21 = .ok (.aload_n 0, 1) := by decide +kernel
theorem dX9_hostage_22 : decode cX9_hostage 22 = .ok (.invokevirtual 139, 3) := by decide +kernel
theorem dX9_hostage_25 : decode cX9_hostage 25 = .ok (.aload_n 0, 1) := by decide +kernel
theorem dX9_hostage_26 : decode cX9_hostage 26 = .ok (.getfield 13, 3) := by decide +kernel
theorem dX9_hostage_29 : decode cX9_hostage 29 = .ok (.bipush 15, 2) := by decide +kernel
theorem dX9_hostage_31 : decode cX9_hostage 31 = .ok (.iaload, 1) := by decide +kernel
theorem dX9_hostage_32 : decode cX9_hostage 32 = .ok (.iload_n 1, 1) := by decide +kernel
theorem dX9_hostage_33 : decode cX9_hostage 33 = .ok (.ishr, 1) := by decide +kernel
theorem dX9_hostage_34 : decode cX9_hostage 34 = .ok (.iconst 1, 1) := by decide +kernel
theorem dX9_hostage_35 : decode cX9_hostage 35 = .ok (.iand, 1) := by decide +kernel
theorem dX9_hostage_36 : decode cX9_hostage 36 = .ok (.istore_n 3, 1) := by decide +kernel
theorem dX9_hostage_37 : decode cX9_hostage 37 = .ok (.aload_n 0, 1) := by decide +kernel
theorem dX9_hostage_38 : decode cX9_hostage 38 = .ok (.getfield 13, 3) := by decide +kernel
theorem dX9_hostage_41 : decode cX9_hostage 41 = .ok (.bipush 15, 2) := by decide +kernel
theorem dX9_hostage_43 : decode cX9_hostage 43 = .ok (.iload_n 2, 1) := by decide +kernel
theorem dX9_hostage_44 : decode cX9_hostage 44 = .ok (.ifCond .eq 17, 3) := by decide +kernel
theorem dX9_hostage_47 : decode cX9_hostage 47 = .ok (.aload_n 0, 1) := by decide +kernel
theorem dX9_hostage_48 : decode cX9_hostage 48 = .ok (.getfield 13, 3) := by decide +kernel
theorem dX9_hostage_51 : decode cX9_hostage 51 = .ok (.bipush 15, 2) := by decide +kernel
theorem dX9_hostage_53 : decode cX9_hostage 53 = .ok (.iaload, 1) := by decide +kernel
theorem dX9_hostage_54 : decode cX9_hostage 54 = .ok (.iconst 1, 1) := by decide +kernel
theorem dX9_hostage_55 : decode cX9_hostage 55 = .ok (.iload_n 1, 1) := by decide +kernel
theorem dX9_hostage_56 : decode cX9_hostage 56 = .ok (.ishl, 1) := by decide +kernel
theorem dX9_hostage_57 : decode cX9_hostage 57 = .ok (.ior, 1) := by decide +kernel
theorem dX9_hostage_58 : decode cX9_hostage 58 = .ok (.goto 16, 3) := by decide +kernel
theorem dX9_hostage_61 : decode cX9_hostage 61 = .ok (.aload_n 0, 1) := by decide +kernel
theorem dX9_hostage_62 : decode cX9_hostage 62 = .ok (.getfield 13, 3) := by decide +kernel
theorem dX9_hostage_65 : decode cX9_hostage 65 = .ok (.bipush 15, 2) := by decide +kernel
theorem dX9_hostage_67 : decode cX9_hostage 67 = .ok (.iaload, 1) := by decide +kernel
theorem dX9_hostage_68 : decode cX9_hostage 68 = .ok (.iconst 1, 1) := by decide +kernel
theorem dX9_hostage_69 : decode cX9_hostage 69 = .ok (.iload_n 1, 1) := by decide +kernel
theorem dX9_hostage_70 : decode cX9_hostage 70 = .ok (.ishl, 1) := by decide +kernel
theorem dX9_hostage_71 : decode cX9_hostage 71 = .ok (.iconst (-1), 1) := by decide +kernel
theorem dX9_hostage_72 : decode cX9_hostage 72 = .ok (.ixor, 1) := by decide +kernel
theorem dX9_hostage_73 : decode cX9_hostage 73 = .ok (.iand, 1) := by decide +kernel
theorem dX9_hostage_74 : decode cX9_hostage 74 = .ok (.iastore, 1) := by decide +kernel
theorem dX9_hostage_75 : decode cX9_hostage 75 = .ok (.iload_n 3, 1) := by decide +kernel
theorem dX9_hostage_76 : decode cX9_hostage 76 = .ok (.ireturn, 1) := by decide +kernel
set_option maxRecDepth 20000 in
theorem ggX9_free_X9_isHeld : GoodIn wsX9_free wsX9_isHeld := goodIn_r _ [7, 8, 1, 22, 23, 24, 25, 26, 27, 28, 29, 30, 31, 32, 33, 34, 35, 36, 37, 38, 39, 40, 41, 42] (by decide +kernel) (by decide +kernel)
set_option maxRecDepth 20000 in
theorem gX9_free_X9_isHeld : GoodIn wsX9_free (wsV RX9 144 RX9 yX9_isHeld wsX9_isHeld) := goodIn_app (goodIn_of _ (by decide +kernel)) ggX9_free_X9_isHeld
set_option maxRecDepth 20000 in
theorem ggX9_free_X9_cost : GoodIn wsX9_free wsX9_cost := goodIn_r _ [12, 1, 13, 14, 6, 15, 22, 23, 24, 25, 26, 27, 28, 29, 30, 31, 32, 33, 34, 35, 36, 37, 38, 39, 40, 41, 42] (by decide +kernel) (by decide +kernel)
set_option maxRecDepth 20000 in
theorem gX9_free_X9_cost : GoodIn wsX9_free (wsV RX9 156 RX9 yX9_cost wsX9_cost) := goodIn_app (goodIn_of _ (by decide +kernel)) ggX9_free_X9_cost
set_option maxRecDepth 20000 in
theorem ggX9_free_X9_note : GoodIn wsX9_free wsX9_note := goodIn_r _ [19, 20, 21, 1, 22, 23, 24, 25, 26, 27, 28, 29, 30, 31, 32, 33, 34, 35, 36, 37, 38, 39, 40, 41, 42] (by decide +kernel) (by decide +kernel)
set_option maxRecDepth 20000 in
theorem gX9_free_X9_note : GoodIn wsX9_free (wsV RX9 139 RX9 yX9_note wsX9_note) := goodIn_app (goodIn_of _ (by decide +kernel)) ggX9_free_X9_note
theorem dX9_free_0 : decode cX9_free 0 = .ok (.aload_n 0, 1) := by decide +kernel
theorem dX9_free_1 : decode cX9_free 1 = .ok (.invokevirtual 144, 3) := by decide +kernel
theorem dX9_free_4 : decode cX9_free 4 = .ok (.ifCond .eq 17, 3) := by decide +kernel
