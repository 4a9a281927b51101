set_option maxRecDepth 20000 in
theorem ggX8_init_X7_init : GoodIn wsX8_init wsX7_init := goodIn_r _ [39, 40, 2, 3, 41, 42, 43, 85, 86, 87, 88, 89] (by decide +kernel) (by decide +kernel)
set_option maxRecDepth 20000 in
theorem gX8_init_X7_init_n9 : GoodIn wsX8_init (wsX7_init) := ggX8_init_X7_init
set_option maxRecDepth 20000 in
theorem ggX8_init_X6_init : GoodIn wsX8_init wsX6_init := goodIn_r _ [45, 46, 2, 3, 41, 47, 48, 49, 50, 101, 102, 103, 104, 105, 106, 107, 108, 109, 110, 111, 112] (by decide +kernel) (by decide +kernel)
set_option maxRecDepth 20000 in
theorem gX8_init_X6_init_n18 : GoodIn wsX8_init (wsX6_init) := ggX8_init_X6_init
set_option maxRecDepth 20000 in
theorem ggX8_init_X5_init : GoodIn wsX8_init wsX5_init := goodIn_r _ [52, 53, 2, 3, 41, 54, 55, 113, 114, 115, 116, 117, 118, 119] (by decide +kernel) (by decide +kernel)
set_option maxRecDepth 20000 in
theorem gX8_init_X5_init_n28 : GoodIn wsX8_init (wsX5_init) := ggX8_init_X5_init
set_option maxRecDepth 20000 in
theorem ggX8_init_X2_init : GoodIn wsX8_init wsX2_init := goodIn_r _ [57, 58, 2, 3, 59, 60, 14, 15, 51, 52, 53, 41, 54, 55, 120, 121, 122, 113, 114, 115, 116, 117, 118, 119] (by decide +kernel) (by decide +kernel)
set_option maxRecDepth 20000 in
theorem gX8_init_X2_init_n38 : GoodIn wsX8_init (wsX2_init) := ggX8_init_X2_init
set_option maxRecDepth 20000 in
theorem ggX8_init_X3_init : GoodIn wsX8_init wsX3_init := goodIn_r _ [62, 63, 2, 3, 41, 64, 65, 66, 123, 124, 125, 126, 127] (by decide +kernel) (by decide +kernel)
set_option maxRecDepth 20000 in
theorem gX8_init_X3_init_n51 : GoodIn wsX8_init (wsX3_init) := ggX8_init_X3_init
set_option maxRecDepth 20000 in
theorem ggX8_init_X0_init : GoodIn wsX8_init wsX0_init := goodIn_r _ [68, 69, 2, 3, 41, 70, 71, 128, 129, 130] (by decide +kernel) (by decide +kernel)
set_option maxRecDepth 20000 in
theorem gX8_init_X0_init_n58 : GoodIn wsX8_init (wsX0_init) := ggX8_init_X0_init
set_option maxRecDepth 20000 in
theorem ggX8_init_X4_init : GoodIn wsX8_init wsX4_init := goodIn_r _ [73, 74, 2, 3, 41, 75, 76, 77, 78, 79, 131, 132, 133, 134, 135, 136, 137, 138] (by decide +kernel) (by decide +kernel)
set_option maxRecDepth 20000 in
theorem gX8_init_X4_init_n65 : GoodIn wsX8_init (wsX4_init) := ggX8_init_X4_init
set_option maxRecDepth 20000 in
theorem ggX8_init_X1_init : GoodIn wsX8_init wsX1_init := goodIn_r _ [81, 82, 2, 3, 83, 14, 15, 84, 51, 52, 53, 41, 54, 55, 113, 114, 115, 116, 117, 118, 119, 139, 140, 141] (by decide +kernel) (by decide +kernel)
set_option maxRecDepth 20000 in
theorem gX8_init_X1_init_n70 : GoodIn wsX8_init (wsX1_init) := ggX8_init_X1_init
theorem dX8_init_0 : decode cX8_init 0 = .ok (.aload_n 0, 1) := by decide +kernel
theorem dX8_init_1 : decode cX8_init 1 = .ok (.invokespecial 1, 3) := by decide +kernel
theorem dX8_init_4 : decode cX8_init 4 = .ok (.aload_n 0, 1) := by decide +kernel
theorem dX8_init_5 : decode cX8_init 5 = .ok (.new 7, 3) := by decide +kernel
theorem dX8_init_8 : decode cX8_init 8 = .ok (.dup, 1) := by decide +kernel
theorem dX8_init_9 : decode cX8_init 9 = .ok (.invokespecial 9, 3) := by decide +kernel
theorem dX8_init_12 : decode cX8_init 12 = .ok (.putfield 10, 3) := by decide +kernel
theorem dX8_init_15 : decode cX8_init 15 = .ok (.aload_n 0, 1) := by decide +kernel
theorem dX8_init_16 : decode cX8_init 16 = .ok (.new 16, 3) := by decide +kernel
theorem dX8_init_19 : decode cX8_init 19 = .ok (.dup, 1) := by decide +kernel
theorem dX8_init_20 : decode cX8_init 20 = .ok (.invokespecial 18, 3) := by decide +kernel
theorem dX8_init_23 : decode cX8_init 23 = .ok (.putfield 19, 3) := by decide +kernel
theorem dX8_init_26 : decode cX8_init 26 = .ok (.aload_n 0, 1) := by decide +kernel
theorem dX8_init_27 : decode cX8_init 27 = .ok (.new 16, 3) := by decide +kernel
theorem dX8_init_30 : decode cX8_init 30 = .ok (.dup, 1) := by decide +kernel
theorem dX8_init_31 : decode cX8_init 31 = .ok (.invokespecial 18, 3) := by decide +kernel
theorem dX8_init_34 : decode cX8_init 34 = .ok (.putfield 23, 3) := by decide +kernel
theorem dX8_init_37 : decode cX8_init 37 = .ok (.aload_n 0, 1) := by decide +kernel
theorem dX8_init_38 : decode cX8_init 38 = .ok (.new 26, 3) := by decide +kernel
theorem dX8_init_41 : decode cX8_init 41 = .ok (.dup, 1) := by decide +kernel
theorem dX8_init_42 : decode cX8_init 42 = .ok (.invokespecial 28, 3) := by decide +kernel
theorem dX8_init_45 : decode cX8_init 45 = .ok (.putfield 29, 3) := by decide +kernel
theorem dX8_init_48 : decode cX8_init 48 = .ok (.aload_n 0, 1) := by decide +kernel
theorem dX8_init_49 : decode cX8_init 49 = .ok (.new 26, 3) := by decide +kernel
theorem dX8_init_52 : decode cX8_init 52 = .ok (.dup, 1) := by decide +kernel
theorem dX8_init_53 : decode cX8_init 53 = .ok (.invokespecial 28, 3) := by decide +kernel
theorem dX8_init_56 : decode cX8_init 56 = .ok (.putfield 33, 3) := by decide +kernel
theorem dX8_init_59 : decode cX8_init 59 = .ok (.aload_n 0, 1) := by decide +kernel
theorem dX8_init_60 : decode cX8_init 60 = .ok (.new 36, 3) := by decide +kernel
theorem dX8_init_63 : decode cX8_init 63 = .ok (.dup, 1) := by decide +kernel
theorem dX8_init_64 : decode cX8_init 64 = .ok (.invokespecial 38, 3) := by decide +kernel
theorem dX8_init_67 : decode cX8_init 67 = .ok (.putfield 39, 3) := by decide +kernel
theorem dX8_init_70 : decode cX8_init 70 = .ok (.aload_n 0, 1) := by decide +kernel
theorem dX8_init_71 : decode cX8_init 71 = .ok (.iconst 2, 1) := by decide +kernel
theorem dX8_init_72 : decode cX8_init 72 = .ok (.anewarray 43, 3) := by decide +kernel
theorem dX8_init_75 : decode cX8_init 75 = .ok (.putfield 45, 3) := by decide +kernel
theorem dX8_init_78 : decode cX8_init 78 = .ok (.aload_n 0, 1) := by decide +kernel
theorem dX8_init_79 : decode cX8_init 79 = .ok (.new 49, 3) := by decide +kernel
theorem dX8_init_82 : decode cX8_init 82 = .ok (.dup, 1) := by decide +kernel
theorem dX8_init_83 : decode cX8_init 83 = .ok (.invokespecial 51, 3) := by decide +kernel
theorem dX8_init_86 : decode cX8_init 86 = .ok (.putfield 52, 3) := by decide +kernel
theorem dX8_init_89 : decode cX8_init 89 = .ok (.aload_n 0, 1) := by decide +kernel
theorem dX8_init_90 : decode cX8_init 90 = .ok (.new 56, 3) := by decide +kernel
theorem dX8_init_93 : decode cX8_init 93 = .ok (.dup, 1) := by decide +kernel
theorem dX8_init_94 : decode cX8_init 94 = .ok (.invokespecial 58, 3) := by decide +kernel
theorem dX8_init_97 : decode cX8_init 97 = .ok (.putfield 59, 3) := by decide +kernel
theorem dX8_init_100 : decode cX8_init 100 = .ok (.aload_n 0, 1) := by decide +kernel
theorem dX8_init_101 : decode cX8_init 101 = .ok (.new 63, 3) := by decide +kernel
theorem dX8_init_104 : decode cX8_init 104 = .ok (.dup, 1) := by decide +kernel
theorem dX8_init_105 : decode cX8_init 105 = .ok (.invokespecial 65, 3) := by decide +kernel
theorem dX8_init_108 : decode cX8_init 108 = .ok (.putfield 66, 3) := by decide +kernel
theorem dX8_init_111 : decode cX8_init 111 = .ok (.iconst 0, 1) := by decide +kernel
theorem dX8_init_112 : decode cX8_init 112 = .ok (.istore_n 1, 1) := by decide +kernel
theorem dX8_init_113 : decode cX8_init 113 = .ok (.iload_n 1, 1) := by decide +kernel
theorem dX8_init_114 : decode cX8_init 114 = .ok (.iconst 2, 1) := by decide +kernel
theorem dX8_init_115 : decode cX8_init 115 = .ok (.if_icmp .ge 22, 3) := by decide +kernel
theorem dX8_init_118 : decode cX8_init 118 = .ok (.aload_n 0, 1) := by decide +kernel
theorem dX8_init_119 : decode cX8_init 119 = .ok (.getfield 45, 3) := by decide +kernel
theorem dX8_init_122 : decode cX8_init 122 = .ok (.iload_n 1, 1) := by decide +kernel
theorem dX8_init_123 : decode cX8_init 123 = .ok (.new 43, 3) := by decide +kernel
theorem dX8_init_126 : decode cX8_init 126 = .ok (.dup, 1) := by decide +kernel
theorem dX8_init_127 : decode cX8_init 127 = .ok (.invokespecial 70, 3) := by decide +kernel
theorem dX8_init_130 : decode cX8_init 130 = .ok (.aastore, 1) := by decide +kernel
theorem dX8_init_131 : decode cX8_init 131 = .ok (.iinc 1 1, 3) := by decide +kernel
theorem dX8_init_134 : decode cX8_init 134 = .ok (.goto (-21), 3) := by decide +kernel
theorem dX8_init_137 : decode cX8_init 137 = .ok (.return_, 1) := by decide +kernel
set_option maxRecDepth 20000 in
theorem ggX8_feed_X7_add : GoodIn wsX8_feed wsX7_add := goodIn_r _ [7, 8, 9, 21, 22, 23, 24, 25] (by decide +kernel) (by decide +kernel)
set_option maxRecDepth 20000 in
theorem gX8_feed_X7_add_n72 : GoodIn wsX8_feed (wsX7_add) := ggX8_feed_X7_add
theorem dX8_feed_0 : decode cX8_feed 0 = .ok (.iload_n 1, 1) := by decide +kernel
theorem dX8_feed_1 : decode cX8_feed 1 = .ok (.ifCond .lt 10, 3) := by decide +kernel
theorem dX8_feed_4 : decode cX8_feed 4 = .ok (.iload_n 1, 1) := by decide +kernel
theorem dX8_feed_5 : decode cX8_feed 5 = .ok (.sipush 255, 3) := by decide +kernel
theorem dX8_feed_8 : decode cX8_feed 8 = .ok (.if_icmp .le 6, 3) := by decide +kernel
theorem dX8_feed_11 : decode cX8_feed 11 = .ok (.ldc 71, 2) := by decide +kernel
theorem dX8_feed_13 : decode cX8_feed 13 = .ok (.ireturn, 1) := by decide +kernel
theorem dX8_feed_14 : decode cX8_feed 14 = .ok (.aload_n 0, 1) := by decide +kernel
theorem dX8_feed_15 : decode cX8_feed 15 = .ok (.getfield 10, 3) := by decide +kernel
theorem dX8_feed_18 : decode cX8_feed 18 = .ok (.iload_n 1, 1) := by decide +kernel
theorem dX8_feed_19 : decode cX8_feed 19 = .ok (.invokevirtual 72, 3) := by decide +kernel
theorem dX8_feed_22 : decode cX8_feed 22 = .ok (.ifCond .eq 13, 3) := by decide +kernel
theorem dX8_feed_25 : decode cX8_feed 25 = .ok (.aload_n 0, 1) := by decide +kernel
theorem dX8_feed_26 : decode cX8_feed 26 = .ok (.getfield 10, 3) := by decide +kernel
theorem dX8_feed_29 : decode cX8_feed 29 = .ok (.getfield 76, 3) := by decide +kernel
theorem dX8_feed_32 : decode cX8_feed 32 = .ok (.goto 5, 3) := by decide +kernel
theorem dX8_feed_35 : decode cX8_feed 35 = .ok (.ldc 80, 2) := by decide +kernel
theorem dX8_feed_37 : decode cX8_feed 37 = .ok (.ireturn, 1) := by decide +kernel
set_option maxRecDepth 20000 in
theorem ggX8_ransom_X7_readInto : GoodIn wsX8_ransom wsX7_readInto := goodIn_r _ [12, 13, 14, 15, 16, 17, 18, 19, 20, 21, 22, 23, 24, 25, 26, 27, 28, 29, 30, 31, 10, 32, 33, 34, 35, 36, 37, 38, 39, 40, 41, 42, 43, 44, 45, 46, 47, 48, 49, 50, 51, 52, 53, 54, 55, 56, 57, 58, 59, 60, 61, 62, 63, 64, 65, 66, 67, 68, 69, 70, 71, 72, 73, 74, 75, 76, 77, 78, 79, 80, 81, 82, 83, 84, 85, 86, 87, 88, 89, 90, 91, 92, 93, 94, 95, 96, 97, 135, 136, 137, 138, 139, 143, 144, 145, 146, 147, 148, 149, 150, 151, 152, 153, 154] (by decide +kernel) (by decide +kernel)
set_option maxRecDepth 20000 in
theorem gX8_ransom_X7_readInto_n81 : GoodIn wsX8_ransom (wsX7_readInto) := ggX8_ransom_X7_readInto
set_option maxRecDepth 20000 in
theorem ggX8_ransom_X5_begin : GoodIn wsX8_ransom wsX5_begin := goodIn_r _ [101, 102, 103, 104, 105, 106, 107, 108, 143, 144, 145, 146, 147, 148, 149, 150, 151, 152, 153, 154, 155, 156, 157, 158, 159, 160, 161] (by decide +kernel) (by decide +kernel)
set_option maxRecDepth 20000 in
theorem gX8_ransom_X5_begin_n88 : GoodIn wsX8_ransom (wsX5_begin) := ggX8_ransom_X5_begin
set_option maxRecDepth 20000 in
theorem ggX8_ransom_X2_forget : GoodIn wsX8_ransom wsX2_forget := goodIn_r _ [112, 113, 162, 163, 164] (by decide +kernel) (by decide +kernel)
set_option maxRecDepth 20000 in
theorem gX8_ransom_X2_forget_n91 : GoodIn wsX8_ransom (wsX2_forget) := ggX8_ransom_X2_forget
set_option maxRecDepth 20000 in
theorem ggX8_ransom_X3_clear : GoodIn wsX8_ransom wsX3_clear := goodIn_r _ [117, 118, 165, 166, 167, 168, 169] (by decide +kernel) (by decide +kernel)
set_option maxRecDepth 20000 in
theorem gX8_ransom_X3_clear_n94 : GoodIn wsX8_ransom (wsX3_clear) := ggX8_ransom_X3_clear
set_option maxRecDepth 20000 in
theorem ggX8_ransom_X0_clear : GoodIn wsX8_ransom wsX0_clear := goodIn_r _ [122, 123, 170, 171, 172] (by decide +kernel) (by decide +kernel)
set_option maxRecDepth 20000 in
theorem gX8_ransom_X0_clear_n97 : GoodIn wsX8_ransom (wsX0_clear) := ggX8_ransom_X0_clear
theorem dX8_ransom_0 : decode cX8_ransom 0 = .ok (.aload_n 0, 1) := by decide +kernel
theorem dX8_ransom_1 : decode cX8_ransom 1 = .ok (.getfield 10, 3) := by decide +kernel
theorem dX8_ransom_4 : decode cX8_ransom 4 = .ok (.aload_n 0, 1) := by decide +kernel
theorem dX8_ransom_5 : decode cX8_ransom 5 = .ok (.getfield 23, 3) := by decide +kernel
theorem dX8_ransom_8 : decode cX8_ransom 8 = .ok (.invokevirtual 81, 3) := by decide +kernel
theorem dX8_ransom_11 : decode cX8_ransom 11 = .ok (.aload_n 0, 1) := by decide +kernel
theorem dX8_ransom_12 : decode cX8_ransom 12 = .ok (.getfield 10, 3) := by decide +kernel
theorem dX8_ransom_15 : decode cX8_ransom 15 = .ok (.getfield 85, 3) := by decide +kernel
theorem dX8_ransom_18 : decode cX8_ransom 18 = .ok (.ifCond .eq 14, 3) := by decide +kernel
theorem dX8_ransom_21 : decode cX8_ransom 21 = .ok (.bipush (-10), 2) := by decide +kernel
theorem dX8_ransom_23 : decode cX8_ransom 23 = .ok (.aload_n 0, 1) := by decide +kernel
theorem dX8_ransom_24 : decode cX8_ransom 24 = .ok (.getfield 10, 3) := by decide +kernel
theorem dX8_ransom_27 : decode cX8_ransom 27 = .ok (.getfield 85, 3) := by decide +kernel
theorem dX8_ransom_30 : decode cX8_ransom 30 = .ok (.isub, 1) := by decide +kernel
theorem dX8_ransom_31 : decode cX8_ransom 31 = .ok (.ireturn, 1) := by decide +kernel
theorem dX8_ransom_32 : decode cX8_ransom 32 = .ok (.aload_n 0, 1) := by decide +kernel
theorem dX8_ransom_33 : decode cX8_ransom 33 = .ok (.getfield 19, 3) := by decide +kernel
theorem dX8_ransom_36 : decode cX8_ransom 36 = .ok (.astore_n 1, 1) := by decide +kernel
theorem dX8_ransom_37 : decode cX8_ransom 37 = .ok (.aload_n 0, 1) := by decide +kernel
theorem dX8_ransom_38 : decode cX8_ransom 38 = .ok (.aload_n 0, 1) := by decide +kernel
theorem dX8_ransom_39 : decode cX8_ransom 39 = .ok (.getfield 23, 3) := by decide +kernel
theorem dX8_ransom_42 : decode cX8_ransom 42 = .ok (.putfield 19, 3) := by decide +kernel
theorem dX8_ransom_45 : decode cX8_ransom 45 = .ok (.aload_n 0, 1) := by decide +kernel
theorem dX8_ransom_46 : decode cX8_ransom 46 = .ok (.aload_n 1, 1) := by decide +kernel
theorem dX8_ransom_47 : decode cX8_ransom 47 = .ok (.putfield 23, 3) := by decide +kernel
theorem dX8_ransom_50 : decode cX8_ransom 50 = .ok (.aload_n 0, 1) := by decide +kernel
theorem dX8_ransom_51 : decode cX8_ransom 51 = .ok (.getfield 29, 3) := by decide +kernel
theorem dX8_ransom_54 : decode cX8_ransom 54 = .ok (.aload_n 0, 1) := by decide +kernel
theorem dX8_ransom_55 : decode cX8_ransom 55 = .ok (.getfield 19, 3) := by decide +kernel
theorem dX8_ransom_58 : decode cX8_ransom 58 = .ok (.invokevirtual 88, 3) := by decide +kernel
theorem dX8_ransom_61 : decode cX8_ransom 61 = .ok (.aload_n 0, 1) := by decide +kernel
theorem dX8_ransom_62 : decode cX8_ransom 62 = .ok (.getfield 39, 3) := by decide +kernel
theorem dX8_ransom_65 : decode cX8_ransom 65 = .ok (.invokevirtual 91, 3) := by decide +kernel
theorem dX8_ransom_68 : decode cX8_ransom 68 = .ok (.aload_n 0, 1) := by decide +kernel
theorem dX8_ransom_69 : decode cX8_ransom 69 = .ok (.getfield 52, 3) := by decide +kernel
theorem dX8_ransom_72 : decode cX8_ransom 72 = .ok (.invokevirtual 94, 3) := by decide +kernel
theorem dX8_ransom_75 : decode cX8_ransom 75 = .ok (.aload_n 0, 1) := by decide +kernel
theorem dX8_ransom_76 : decode cX8_ransom 76 = .ok (.getfield 59, 3) := by decide +kernel
theorem dX8_ransom_79 : decode cX8_ransom 79 = .ok (.invokevirtual 97, 3) := by decide +kernel
theorem dX8_ransom_82 : decode cX8_ransom 82 = .ok (.iconst 0, 1) := by decide +kernel
theorem dX8_ransom_83 : decode cX8_ransom 83 = .ok (.istore_n 2, 1) := by decide +kernel
theorem dX8_ransom_84 : decode cX8_ransom 84 = .ok (.iload_n 2, 1) := by decide +kernel
theorem dX8_ransom_85 : decode cX8_ransom 85 = .ok (.iconst 2, 1) := by decide +kernel
theorem dX8_ransom_86 : decode cX8_ransom 86 = .ok (.if_icmp .ge 19, 3) := by decide +kernel
theorem dX8_ransom_89 : decode cX8_ransom 89 = .ok (.aload_n 0, 1) := by decide +kernel
theorem dX8_ransom_90 : decode cX8_ransom 90 = .ok (.getfield 45, 3) := by decide +kernel
theorem dX8_ransom_93 : decode cX8_ransom 93 = .ok (.iload_n 2, 1) := by decide +kernel
theorem dX8_ransom_94 : decode cX8_ransom 94 = .ok (.aaload, 1) := by decide +kernel
theorem dX8_ransom_95 : decode cX8_ransom 95 = .ok (.iconst 0, 1) := by decide +kernel
theorem dX8_ransom_96 : decode cX8_ransom 96 = .ok (.putfield 98, 3) := by decide +kernel
theorem dX8_ransom_99 : decode cX8_ransom 99 = .ok (.iinc 2 1, 3) := by decide +kernel
theorem dX8_ransom_102 : decode cX8_ransom 102 = .ok (.goto (-18), 3) := by decide +kernel
theorem dX8_ransom_105 : decode cX8_ransom 105 = .ok (.aload_n 0, 1) := by decide +kernel
theorem dX8_ransom_106 : decode cX8_ransom 106 = .ok (.getfield 19, 3) := by decide +kernel
theorem dX8_ransom_109 : decode cX8_ransom 109 = .ok (.getfield 102, 3) := by decide +kernel
theorem dX8_ransom_112 : decode cX8_ransom 112 = .ok (.ireturn, 1) := by decide +kernel
theorem dX8_fault_0 : decode cX8_fault 0 = .ok (.aload_n 0, 1) := by decide +kernel
theorem dX8_fault_1 : decode cX8_fault 1 = .ok (.getfield 10, 3) := by decide +kernel
theorem dX8_fault_4 : decode cX8_fault 4 = .ok (.getfield 105, 3) := by decide +kernel
theorem dX8_fault_7 : decode cX8_fault 7 = .ok (.ireturn, 1) := by decide +kernel
theorem dX8_told_0 : decode cX8_told 0 = .ok (.iload_n 1, 1) := by decide +kernel
theorem dX8_told_1 : decode cX8_told 1 = .ok (.tableswitch 195 0 14 #[75, 83, 91, 99, 107, 115, 123, 131, 139, 147, 155, 163, 171, 179, 187], 75) := by decide +kernel
theorem dX8_told_76 : decode cX8_told 76 = .ok (.aload_n 0, 1) := by decide +kernel
theorem dX8_told_77 : decode cX8_told 77 = .ok (.getfield 29, 3) := by decide +kernel
theorem dX8_told_80 : decode cX8_told 80 = .ok (.getfield 108, 3) := by decide +kernel
theorem dX8_told_83 : decode cX8_told 83 = .ok (.ireturn, 1) := by decide +kernel
theorem dX8_told_84 : decode cX8_told 84 = .ok (.aload_n 0, 1) := by decide +kernel
theorem dX8_told_85 : decode cX8_told 85 = .ok (.getfield 19, 3) := by decide +kernel
theorem dX8_told_88 : decode cX8_told 88 = .ok (.getfield 111, 3) := by decide +kernel
theorem dX8_told_91 : decode cX8_told 91 = .ok (.ireturn, 1) := by decide +kernel
theorem dX8_told_92 : decode cX8_told 92 = .ok (.aload_n 0, 1) := by decide +kernel
theorem dX8_told_93 : decode cX8_told 93 = .ok (.getfield 19, 3) := by decide +kernel
theorem dX8_told_96 : decode cX8_told 96 = .ok (.getfield 102, 3) := by decide +kernel
theorem dX8_told_99 : decode cX8_told 99 = .ok (.ireturn, 1) := by decide +kernel
theorem dX8_told_100 : decode cX8_told 100 = .ok (.aload_n 0, 1) := by decide +kernel
theorem dX8_told_101 : decode cX8_told 101 = .ok (.getfield 19, 3) := by decide +kernel
theorem dX8_told_104 : decode cX8_told 104 = .ok (.getfield 114, 3) := by decide +kernel
theorem dX8_told_107 : decode cX8_told 107 = .ok (.ireturn, 1) := by decide +kernel
theorem dX8_told_108 : decode cX8_told 108 = .ok (.aload_n 0, 1) := by decide +kernel
theorem dX8_told_109 : decode cX8_told 109 = .ok (.getfield 19, 3) := by decide +kernel
theorem dX8_told_112 : decode cX8_told 112 = .ok (.getfield 117, 3) := by decide +kernel
theorem dX8_told_115 : decode cX8_told 115 = .ok (.ireturn, 1) := by decide +kernel
theorem dX8_told_116 : decode cX8_told 116 = .ok (.aload_n 0, 1) := by decide +kernel
theorem dX8_told_117 : decode cX8_told 117 = .ok (.getfield 19, 3) := by decide +kernel
theorem dX8_told_120 : decode cX8_told 120 = .ok (.getfield 120, 3) := by decide +kernel
theorem dX8_told_123 : decode cX8_told 123 = .ok (.ireturn, 1) := by decide +kernel
theorem dX8_told_124 : decode cX8_told 124 = .ok (.aload_n 0, 1) := by decide +kernel
theorem dX8_told_125 : decode cX8_told 125 = .ok (.getfield 19, 3) := by decide +kernel
theorem dX8_told_128 : decode cX8_told 128 = .ok (.getfield 123, 3) := by decide +kernel
theorem dX8_told_131 : decode cX8_told 131 = .ok (.ireturn, 1) := by decide +kernel
theorem dX8_told_132 : decode cX8_told 132 = .ok (.aload_n 0, 1) := by decide +kernel
theorem dX8_told_133 : decode cX8_told 133 = .ok (.getfield 10, 3) := by decide +kernel
theorem dX8_told_136 : decode cX8_told 136 = .ok (.getfield 76, 3) := by decide +kernel
theorem dX8_told_139 : decode cX8_told 139 = .ok (.ireturn, 1) := by decide +kernel
theorem dX8_told_140 : decode cX8_told 140 = .ok (.aload_n 0, 1) := by decide +kernel
theorem dX8_told_141 : decode cX8_told 141 = .ok (.getfield 29, 3) := by decide +kernel
theorem dX8_told_144 : decode cX8_told 144 = .ok (.getfield 126, 3) := by decide +kernel
theorem dX8_told_147 : decode cX8_told 147 = .ok (.ireturn, 1) := by decide +kernel
theorem dX8_told_148 : decode cX8_told 148 = .ok (.aload_n 0, 1) := by decide +kernel
theorem dX8_told_149 : decode cX8_told 149 = .ok (.getfield 29, 3) := by decide +kernel
theorem dX8_told_152 : decode cX8_told 152 = .ok (.getfield 129, 3) := by decide +kernel
theorem dX8_told_155 : decode cX8_told 155 = .ok (.ireturn, 1) := by decide +kernel
theorem dX8_told_156 : decode cX8_told 156 = .ok (.aload_n 0, 1) := by decide +kernel
theorem dX8_told_157 : decode cX8_told 157 = .ok (.getfield 29, 3) := by decide +kernel
theorem dX8_told_160 : decode cX8_told 160 = .ok (.getfield 132, 3) := by decide +kernel
theorem dX8_told_163 : decode cX8_told 163 = .ok (.ireturn, 1) := by decide +kernel
theorem dX8_told_164 : decode cX8_told 164 = .ok (.aload_n 0, 1) := by decide +kernel
theorem dX8_told_165 : decode cX8_told 165 = .ok (.getfield 29, 3) := by decide +kernel
theorem dX8_told_168 : decode cX8_told 168 = .ok (.getfield 135, 3) := by decide +kernel
theorem dX8_told_171 : decode cX8_told 171 = .ok (.ireturn, 1) := by decide +kernel
theorem dX8_told_172 : decode cX8_told 172 = .ok (.aload_n 0, 1) := by decide +kernel
theorem dX8_told_173 : decode cX8_told 173 = .ok (.getfield 52, 3) := by decide +kernel
theorem dX8_told_176 : decode cX8_told 176 = .ok (.getfield 138, 3) := by decide +kernel
theorem dX8_told_179 : decode cX8_told 179 = .ok (.ireturn, 1) := by decide +kernel
theorem dX8_told_180 : decode cX8_told 180 = .ok (.aload_n 0, 1) := by decide +kernel
theorem dX8_told_181 : decode cX8_told 181 = .ok (.getfield 59, 3) := by decide +kernel
theorem dX8_told_184 : decode cX8_told 184 = .ok (.getfield 141, 3) := by decide +kernel
theorem dX8_told_187 : decode cX8_told 187 = .ok (.ireturn, 1) := by decide +kernel
theorem dX8_told_188 : decode cX8_told 188 = .ok (.aload_n 0, 1) := by decide +kernel
theorem dX8_told_189 : decode cX8_told 189 = .ok (.getfield 39, 3) := by decide +kernel
theorem dX8_told_192 : decode cX8_told 192 = .ok (.getfield 142, 3) := by decide +kernel
theorem dX8_told_195 : decode cX8_told 195 = .ok (.ireturn, 1) := by decide +kernel
theorem dX8_told_196 : decode cX8_told 196 = .ok (.ldc 71, 2) := by decide +kernel
theorem dX8_told_198 : decode cX8_told 198 = .ok (.ireturn, 1) := by decide +kernel
set_option maxRecDepth 20000 in
theorem ggX8_payer_X8_isPayer : GoodIn wsX8_payer wsX8_isPayer := goodIn_r _ [9, 3, 20, 21, 22, 23, 24, 25, 26, 27, 28, 29, 30, 38, 39, 40, 41, 42, 43, 44, 45, 46, 47, 48, 49] (by decide +kernel) (by decide +kernel)
set_option maxRecDepth 20000 in
theorem gX8_payer_X8_isPayer : GoodIn wsX8_payer (wsV RX8 143 RX8 yX8_isPayer wsX8_isPayer) := goodIn_app (goodIn_of _ (by decide +kernel)) ggX8_payer_X8_isPayer
set_option maxRecDepth 20000 in
theorem ggX8_payer_X8_tells : GoodIn wsX8_payer wsX8_tells := goodIn_r _ [12, 13, 14, 15, 16] (by decide +kernel) (by decide +kernel)
set_option maxRecDepth 20000 in
theorem gX8_payer_X8_tells : GoodIn wsX8_payer (va_wsS RX8 157 yX8_tells wsX8_tells) := goodIn_app (goodIn_of _ (by decide +kernel)) ggX8_payer_X8_tells
set_option maxRecDepth 20000 in
theorem ggX8_payer_X8_pays : GoodIn wsX8_payer wsX8_pays := goodIn_r _ [19, 10, 11, 8, 12, 13, 14, 15, 16] (by decide +kernel) (by decide +kernel)
set_option maxRecDepth 20000 in
theorem gX8_payer_X8_pays : GoodIn wsX8_payer (va_wsS RX8 161 yX8_pays wsX8_pays) := goodIn_app (goodIn_of _ (by decide +kernel)) ggX8_payer_X8_pays
theorem dX8_payer_0 : decode cX8_payer 0 = .ok (.aload_n 0, 1) := by decide +kernel
theorem dX8_payer_1 : decode cX8_payer 1 = .ok (.iload_n 1, 1) := by decide +kernel
theorem dX8_payer_2 : decode cX8_payer 2 = .ok (.invokevirtual 143, 3) := by decide +kernel
theorem dX8_payer_5 : decode cX8_payer 5 = .ok (.ifCond .ne 6, 3) := by decide +kernel
theorem dX8_payer_8 : decode cX8_payer 8 = .ok (.ldc 146, 2) := by decide +kernel
theorem dX8_payer_10 : decode cX8_payer 10 = .ok (.ireturn, 1) := by decide +kernel
theorem dX8_payer_11 : decode cX8_payer 11 = .ok (.aload_n 0, 1) := by decide +kernel
theorem dX8_payer_12 : decode cX8_payer 12 = .ok (.getfield 29, 3) := by decide +kernel
theorem dX8_payer_15 : decode cX8_payer 15 = .ok (.getfield 147, 3) := by decide +kernel
theorem dX8_payer_18 : decode cX8_payer 18 = .ok (.iload_n 1, 1) := by decide +kernel
theorem dX8_payer_19 : decode cX8_payer 19 = .ok (.iaload, 1) := by decide +kernel
theorem dX8_payer_20 : decode cX8_payer 20 = .ok (.istore_n 3, 1) := by decide +kernel
theorem dX8_payer_21 : decode cX8_payer 21 = .ok (.aload_n 0, 1) := by decide +kernel
theorem dX8_payer_22 : decode cX8_payer 22 = .ok (.getfield 19, 3) := by decide +kernel
theorem dX8_payer_25 : decode cX8_payer 25 = .ok (.getfield 151, 3) := by decide +kernel
theorem dX8_payer_28 : decode cX8_payer 28 = .ok (.iload_n 1, 1) := by decide +kernel
theorem dX8_payer_29 : decode cX8_payer 29 = .ok (.iaload, 1) := by decide +kernel
theorem dX8_payer_30 : decode cX8_payer 30 = .ok (.istore 4, 2) := by decide +kernel
theorem dX8_payer_32 : decode cX8_payer 32 = .ok (.aload_n 0, 1) := by decide +kernel
theorem dX8_payer_33 : decode cX8_payer 33 = .ok (.getfield 29, 3) := by decide +kernel
theorem dX8_payer_36 : decode cX8_payer 36 = .ok (.getfield 154, 3) := by decide +kernel
theorem dX8_payer_39 : decode cX8_payer 39 = .ok (.iload_n 1, 1) := by decide +kernel
theorem dX8_payer_40 : decode cX8_payer 40 = .ok (.iaload, 1) := by decide +kernel
theorem dX8_payer_41 : decode cX8_payer 41 = .ok (.istore 5, 2) := by decide +kernel
theorem dX8_payer_43 : decode cX8_payer 43 = .ok (.iload_n 2, 1) := by decide +kernel
theorem dX8_payer_44 : decode cX8_payer 44 = .ok (.tableswitch 77 0 5 #[40, 42, 45, 48, 57, 68], 40) := by decide +kernel
theorem dX8_payer_84 : decode cX8_payer 84 = .ok (.iload_n 3, 1) := by decide +kernel
theorem dX8_payer_85 : decode cX8_payer 85 = .ok (.ireturn, 1) := by decide +kernel
theorem dX8_payer_86 : decode cX8_payer 86 = .ok (.iload 4, 2) := by decide +kernel
theorem dX8_payer_88 : decode cX8_payer 88 = .ok (.ireturn, 1) := by decide +kernel
theorem dX8_payer_89 : decode cX8_payer 89 = .ok (.iload 5, 2) := by decide +kernel
theorem dX8_payer_91 : decode cX8_payer 91 = .ok (.ireturn, 1) := by decide +kernel
theorem dX8_payer_92 : decode cX8_payer 92 = .ok (.iload_n 3, 1) := by decide +kernel
theorem dX8_payer_93 : decode cX8_payer 93 = .ok (.iload 4, 2) := by decide +kernel
theorem dX8_payer_95 : decode cX8_payer 95 = .ok (.iload 5, 2) := by decide +kernel
theorem dX8_payer_97 : decode cX8_payer 97 = .ok (.invokestatic 157, 3) := by decide +kernel
theorem dX8_payer_100 : decode cX8_payer 100 = .ok (.ireturn, 1) := by decide +kernel
theorem dX8_payer_101 : decode cX8_payer 101 = .ok (.iload_n 3, 1) := by decide +kernel
theorem dX8_payer_102 : decode cX8_payer 102 = .ok (.iload_n 3, 1) := by decide +kernel
theorem dX8_payer_103 : decode cX8_payer 103 = .ok (.iload 4, 2) := by decide +kernel
theorem dX8_payer_105 : decode cX8_payer 105 = .ok (.iload 5, 2) := by decide +kernel
theorem dX8_payer_107 : decode cX8_payer 107 = .ok (.invokestatic 157, 3) := by decide +kernel
theorem dX8_payer_110 : decode cX8_payer 110 = .ok (.isub, 1) := by decide +kernel
theorem dX8_payer_111 : decode cX8_payer 111 = .ok (.ireturn, 1) := by decide +kernel
theorem dX8_payer_112 : decode cX8_payer 112 = .ok (.iload_n 3, 1) := by decide +kernel
theorem dX8_payer_113 : decode cX8_payer 113 = .ok (.iload 4, 2) := by decide +kernel
theorem dX8_payer_115 : decode cX8_payer 115 = .ok (.iload 5, 2) := by decide +kernel
theorem dX8_payer_117 : decode cX8_payer 117 = .ok (.invokestatic 161, 3) := by decide +kernel
theorem dX8_payer_120 : decode cX8_payer 120 = .ok (.ireturn, 1) := by decide +kernel
theorem dX8_payer_121 : decode cX8_payer 121 = .ok (.ldc 71, 2) := by decide +kernel
theorem dX8_payer_123 : decode cX8_payer 123 = .ok (.ireturn, 1) := by decide +kernel
theorem dX8_bid_0 : decode cX8_bid 0 = .ok (.iload_n 1, 1) := by decide +kernel
theorem dX8_bid_1 : decode cX8_bid 1 = .ok (.ifCond .lt 26, 3) := by decide +kernel
theorem dX8_bid_4 : decode cX8_bid 4 = .ok (.iload_n 1, 1) := by decide +kernel
theorem dX8_bid_5 : decode cX8_bid 5 = .ok (.aload_n 0, 1) := by decide +kernel
theorem dX8_bid_6 : decode cX8_bid 6 = .ok (.getfield 19, 3) := by decide +kernel
theorem dX8_bid_9 : decode cX8_bid 9 = .ok (.getfield 114, 3) := by decide +kernel
theorem dX8_bid_12 : decode cX8_bid 12 = .ok (.if_icmp .ge 15, 3) := by decide +kernel
theorem dX8_bid_15 : decode cX8_bid 15 = .ok (.aload_n 0, 1) := by decide +kernel
theorem dX8_bid_16 : decode cX8_bid 16 = .ok (.getfield 19, 3) := by decide +kernel
theorem dX8_bid_19 : decode cX8_bid 19 = .ok (.getfield 164, 3) := by decide +kernel
theorem dX8_bid_22 : decode cX8_bid 22 = .ok (.iload_n 1, 1) := by decide +kernel
theorem dX8_bid_23 : decode cX8_bid 23 = .ok (.iaload, 1) := by decide +kernel
theorem dX8_bid_24 : decode cX8_bid 24 = .ok (.goto 4, 3) := by decide +kernel
theorem dX8_bid_27 : decode cX8_bid 27 = .ok (.iconst (-1), 1) := by decide +kernel
theorem dX8_bid_28 : decode cX8_bid 28 = .ok (.ireturn, 1) := by decide +kernel
set_option maxRecDepth 20000 in
theorem ggX8_rate_X8_isPayer : GoodIn wsX8_rate wsX8_isPayer := goodIn_r _ [9, 10, 36, 37, 38, 39, 40, 41, 42, 43, 44, 45, 46, 54, 55, 56, 57, 58, 59, 60, 61, 62, 63, 64, 65] (by decide +kernel) (by decide +kernel)
set_option maxRecDepth 20000 in
theorem gX8_rate_X8_isPayer : GoodIn wsX8_rate (wsV RX8 143 RX8 yX8_isPayer wsX8_isPayer) := goodIn_app (goodIn_of _ (by decide +kernel)) ggX8_rate_X8_isPayer
set_option maxRecDepth 20000 in
theorem ggX8_rate_X8_isRate : GoodIn wsX8_rate wsX8_isRate := goodIn_r _ [13] (by decide +kernel) (by decide +kernel)
set_option maxRecDepth 20000 in
theorem gX8_rate_X8_isRate : GoodIn wsX8_rate (va_wsS RX8 167 yX8_isRate wsX8_isRate) := goodIn_app (goodIn_of _ (by decide +kernel)) ggX8_rate_X8_isRate
set_option maxRecDepth 20000 in
theorem ggX8_rate_X2_push : GoodIn wsX8_rate wsX2_push := goodIn_r _ [17, 18, 19, 20, 21, 22, 23, 24, 25, 26, 27, 28, 29, 30, 31, 32, 33, 34, 35, 66, 67, 68, 47, 48, 49, 50, 51, 52, 53] (by decide +kernel) (by decide +kernel)
set_option maxRecDepth 20000 in
theorem gX8_rate_X2_push_n170 : GoodIn wsX8_rate (wsX2_push) := ggX8_rate_X2_push
theorem dX8_rate_0 : decode cX8_rate 0 = .ok (.aload_n 0, 1) := by decide +kernel
theorem dX8_rate_1 : decode cX8_rate 1 = .ok (.iload_n 1, 1) := by decide +kernel
theorem dX8_rate_2 : decode cX8_rate 2 = .ok (.invokevirtual 143, 3) := by decide +kernel
theorem dX8_rate_5 : decode cX8_rate 5 = .ok (.ifCond .ne 6, 3) := by decide +kernel
theorem dX8_rate_8 : decode cX8_rate 8 = .ok (.ldc 146, 2) := by decide +kernel
theorem dX8_rate_10 : decode cX8_rate 10 = .ok (.ireturn, 1) := by decide +kernel
theorem dX8_rate_11 : decode cX8_rate 11 = .ok (.iload_n 2, 1) := by decide +kernel
theorem dX8_rate_12 : decode cX8_rate 12 = .ok (.invokestatic 167, 3) := by decide +kernel
theorem dX8_rate_15 : decode cX8_rate 15 = .ok (.ifCond .ne 6, 3) := by decide +kernel
theorem dX8_rate_18 : decode cX8_rate 18 = .ok (.ldc 71, 2) := by decide +kernel
theorem dX8_rate_20 : decode cX8_rate 20 = .ok (.ireturn, 1) := by decide +kernel
theorem dX8_rate_21 : decode cX8_rate 21 = .ok (.aload_n 0, 1) := by decide +kernel
theorem dX8_rate_22 : decode cX8_rate 22 = .ok (.getfield 39, 3) := by decide +kernel
theorem dX8_rate_25 : decode cX8_rate 25 = .ok (.aload_n 0, 1) := by decide +kernel
theorem dX8_rate_26 : decode cX8_rate 26 = .ok (.getfield 29, 3) := by decide +kernel
theorem dX8_rate_29 : decode cX8_rate 29 = .ok (.invokevirtual 170, 3) := by decide +kernel
theorem dX8_rate_32 : decode cX8_rate 32 = .ok (.aload_n 0, 1) := by decide +kernel
theorem dX8_rate_33 : decode cX8_rate 33 = .ok (.getfield 29, 3) := by decide +kernel
theorem dX8_rate_36 : decode cX8_rate 36 = .ok (.getfield 154, 3) := by decide +kernel
theorem dX8_rate_39 : decode cX8_rate 39 = .ok (.iload_n 1, 1) := by decide +kernel
theorem dX8_rate_40 : decode cX8_rate 40 = .ok (.iaload, 1) := by decide +kernel
theorem dX8_rate_41 : decode cX8_rate 41 = .ok (.istore_n 3, 1) := by decide +kernel
theorem dX8_rate_42 : decode cX8_rate 42 = .ok (.aload_n 0, 1) := by decide +kernel
theorem dX8_rate_43 : decode cX8_rate 43 = .ok (.getfield 29, 3) := by decide +kernel
theorem dX8_rate_46 : decode cX8_rate 46 = .ok (.getfield 154, 3) := by decide +kernel
theorem dX8_rate_49 : decode cX8_rate 49 = .ok (.iload_n 1, 1) := by decide +kernel
theorem dX8_rate_50 : decode cX8_rate 50 = .ok (.iload_n 2, 1) := by decide +kernel
theorem dX8_rate_51 : decode cX8_rate 51 = .ok (.iastore, 1) := by decide +kernel
theorem dX8_rate_52 : decode cX8_rate 52 = .ok (.iload_n 3, 1) := by decide +kernel
theorem dX8_rate_53 : decode cX8_rate 53 = .ok (.ireturn, 1) := by decide +kernel
set_option maxRecDepth 20000 in
theorem ggX8_month_X8_refusalOfMonths : GoodIn wsX8_month wsX8_refusalOfMonths := goodIn_r _ [8, 9, 10, 2, 11, 12, 13, 14, 7, 15, 3, 49, 50, 51, 52, 53, 54, 55, 56, 57, 58, 59, 60, 61, 62, 63, 64, 65, 66, 67, 68, 69, 70, 71, 72, 73, 74, 75, 76, 77, 78] (by decide +kernel) (by decide +kernel)
set_option maxRecDepth 20000 in
theorem gX8_month_X8_refusalOfMonths : GoodIn wsX8_month (wsV RX8 174 RX8 yX8_refusalOfMonths wsX8_refusalOfMonths) := goodIn_app (goodIn_of _ (by decide +kernel)) ggX8_month_X8_refusalOfMonths
set_option maxRecDepth 20000 in
theorem ggX8_month_X2_push : GoodIn wsX8_month wsX2_push := goodIn_r _ [19, 20, 21, 22, 23, 24, 25, 26, 27, 28, 29, 30, 31, 32, 33, 34, 35, 36, 37, 79, 80, 81, 60, 61, 62, 63, 64, 65, 66] (by decide +kernel) (by decide +kernel)
set_option maxRecDepth 20000 in
theorem gX8_month_X2_push_n170 : GoodIn wsX8_month (wsX2_push) := ggX8_month_X2_push
set_option maxRecDepth 20000 in
theorem ggX8_month_X5_passMonth : GoodIn wsX8_month wsX5_passMonth := goodIn_r _ [40, 36, 37, 33, 32, 41, 7, 42, 43, 44, 45, 46, 47, 25, 48, 67, 68, 69, 70, 71, 72, 73, 74, 75, 76, 77, 78, 60, 61, 62, 63, 64, 65, 66] (by decide +kernel) (by decide +kernel)
set_option maxRecDepth 20000 in
theorem gX8_month_X5_passMonth_n178 : GoodIn wsX8_month (wsX5_passMonth) := ggX8_month_X5_passMonth
theorem dX8_month_0 : decode cX8_month 0 = .ok (.aload_n 0, 1) := by decide +kernel
theorem dX8_month_1 : decode cX8_month 1 = .ok (.iload_n 1, 1) := by decide +kernel
theorem dX8_month_2 : decode cX8_month 2 = .ok (.invokevirtual 174, 3) := by decide +kernel
theorem dX8_month_5 : decode cX8_month 5 = .ok (.istore_n 2, 1) := by decide +kernel
theorem dX8_month_6 : decode cX8_month 6 = .ok (.iload_n 2, 1) := by decide +kernel
theorem dX8_month_7 : decode cX8_month 7 = .ok (.ifCond .eq 5, 3) := by decide +kernel
theorem dX8_month_10 : decode cX8_month 10 = .ok (.iload_n 2, 1) := by decide +kernel
theorem dX8_month_11 : decode cX8_month 11 = .ok (.ireturn, 1) := by decide +kernel
theorem dX8_month_12 : decode cX8_month 12 = .ok (.aload_n 0, 1) := by decide +kernel
theorem dX8_month_13 : decode cX8_month 13 = .ok (.getfield 39, 3) := by decide +kernel
theorem dX8_month_16 : decode cX8_month 16 = .ok (.aload_n 0, 1) := by decide +kernel
theorem dX8_month_17 : decode cX8_month 17 = .ok (.getfield 29, 3) := by decide +kernel
theorem dX8_month_20 : decode cX8_month 20 = .ok (.invokevirtual 170, 3) := by decide +kernel
theorem dX8_month_23 : decode cX8_month 23 = .ok (.iconst 0, 1) := by decide +kernel
theorem dX8_month_24 : decode cX8_month 24 = .ok (.istore_n 3, 1) := by decide +kernel
theorem dX8_month_25 : decode cX8_month 25 = .ok (.iload_n 3, 1) := by decide +kernel
theorem dX8_month_26 : decode cX8_month 26 = .ok (.iload_n 1, 1) := by decide +kernel
theorem dX8_month_27 : decode cX8_month 27 = .ok (.if_icmp .ge 20, 3) := by decide +kernel
theorem dX8_month_30 : decode cX8_month 30 = .ok (.aload_n 0, 1) := by decide +kernel
theorem dX8_month_31 : decode cX8_month 31 = .ok (.getfield 29, 3) := by decide +kernel
theorem dX8_month_34 : decode cX8_month 34 = .ok (.aload_n 0, 1) := by decide +kernel
theorem dX8_month_35 : decode cX8_month 35 = .ok (.getfield 19, 3) := by decide +kernel
theorem dX8_month_38 : decode cX8_month 38 = .ok (.invokevirtual 178, 3) := by decide +kernel
theorem dX8_month_41 : decode cX8_month 41 = .ok (.iinc 3 1, 3) := by decide +kernel
theorem dX8_month_44 : decode cX8_month 44 = .ok (.goto (-19), 3) := by decide +kernel
theorem dX8_month_47 : decode cX8_month 47 = .ok (.aload_n 0, 1) := by decide +kernel
theorem dX8_month_48 : decode cX8_month 48 = .ok (.getfield 29, 3) := by decide +kernel
theorem dX8_month_51 : decode cX8_month 51 = .ok (.getfield 129, 3) := by decide +kernel
theorem dX8_month_54 : decode cX8_month 54 = .ok (.ireturn, 1) := by decide +kernel
set_option maxRecDepth 20000 in
theorem ggX8_raise_X8_isKept : GoodIn wsX8_raise wsX8_isKept := goodIn_r _ [13, 14, 4, 34, 35, 36, 37, 38, 39, 40, 41, 42, 43, 44, 52, 53, 54, 55, 56, 57, 58, 59, 60, 61, 62, 63, 45, 46, 47, 48, 49, 50, 51] (by decide +kernel) (by decide +kernel)
set_option maxRecDepth 20000 in
theorem gX8_raise_X8_isKept : GoodIn wsX8_raise (wsV RX8 181 RX8 yX8_isKept wsX8_isKept) := goodIn_app (goodIn_of _ (by decide +kernel)) ggX8_raise_X8_isKept
set_option maxRecDepth 20000 in
theorem ggX8_raise_X2_push : GoodIn wsX8_raise wsX2_push := goodIn_r _ [18, 19, 20, 21, 22, 6, 7, 8, 23, 24, 25, 26, 27, 28, 29, 30, 31, 32, 33, 64, 65, 66, 45, 46, 47, 48, 49, 50, 51] (by decide +kernel) (by decide +kernel)
set_option maxRecDepth 20000 in
theorem gX8_raise_X2_push_n170 : GoodIn wsX8_raise (wsX2_push) := ggX8_raise_X2_push
theorem dX8_raise_0 : decode cX8_raise 0 = .ok (.iload_n 1, 1) := by decide +kernel
theorem dX8_raise_1 : decode cX8_raise 1 = .ok (.iconst 1, 1) := by decide +kernel
theorem dX8_raise_2 : decode cX8_raise 2 = .ok (.if_icmp .lt 10, 3) := by decide +kernel
theorem dX8_raise_5 : decode cX8_raise 5 = .ok (.iload_n 1, 1) := by decide +kernel
theorem dX8_raise_6 : decode cX8_raise 6 = .ok (.sipush 999, 3) := by decide +kernel
theorem dX8_raise_9 : decode cX8_raise 9 = .ok (.if_icmp .le 6, 3) := by decide +kernel
theorem dX8_raise_12 : decode cX8_raise 12 = .ok (.ldc 71, 2) := by decide +kernel
theorem dX8_raise_14 : decode cX8_raise 14 = .ok (.ireturn, 1) := by decide +kernel
theorem dX8_raise_15 : decode cX8_raise 15 = .ok (.aload_n 0, 1) := by decide +kernel
theorem dX8_raise_16 : decode cX8_raise 16 = .ok (.invokevirtual 181, 3) := by decide +kernel
theorem dX8_raise_19 : decode cX8_raise 19 = .ok (.ifCond .ne 6, 3) := by decide +kernel
theorem dX8_raise_22 : decode cX8_raise 22 = .ok (.ldc 185, 2) := by decide +kernel
theorem dX8_raise_24 : decode cX8_raise 24 = .ok (.ireturn, 1) := by decide +kernel
theorem dX8_raise_25 : decode cX8_raise 25 = .ok (.aload_n 0, 1) := by decide +kernel
theorem dX8_raise_26 : decode cX8_raise 26 = .ok (.getfield 39, 3) := by decide +kernel
theorem dX8_raise_29 : decode cX8_raise 29 = .ok (.aload_n 0, 1) := by decide +kernel
theorem dX8_raise_30 : decode cX8_raise 30 = .ok (.getfield 29, 3) := by decide +kernel
theorem dX8_raise_33 : decode cX8_raise 33 = .ok (.invokevirtual 170, 3) := by decide +kernel
theorem dX8_raise_36 : decode cX8_raise 36 = .ok (.aload_n 0, 1) := by decide +kernel
theorem dX8_raise_37 : decode cX8_raise 37 = .ok (.getfield 29, 3) := by decide +kernel
theorem dX8_raise_40 : decode cX8_raise 40 = .ok (.sipush 9999, 3) := by decide +kernel
theorem dX8_raise_43 : decode cX8_raise 43 = .ok (.aload_n 0, 1) := by decide +kernel
theorem dX8_raise_44 : decode cX8_raise 44 = .ok (.getfield 29, 3) := by decide +kernel
theorem dX8_raise_47 : decode cX8_raise 47 = .ok (.getfield 108, 3) := by decide +kernel
theorem dX8_raise_50 : decode cX8_raise 50 = .ok (.iload_n 1, 1) := by decide +kernel
theorem dX8_raise_51 : decode cX8_raise 51 = .ok (.iadd, 1) := by decide +kernel
theorem dX8_raise_52 : decode cX8_raise 52 = .ok (.invokestatic 186, 3) := by decide +kernel
theorem dX8_raise_55 : decode cX8_raise 55 = .ok (.putfield 108, 3) := by decide +kernel
theorem dX8_raise_58 : decode cX8_raise 58 = .ok (.aload_n 0, 1) := by decide +kernel
theorem dX8_raise_59 : decode cX8_raise 59 = .ok (.getfield 29, 3) := by decide +kernel
theorem dX8_raise_62 : decode cX8_raise 62 = .ok (.getfield 108, 3) := by decide +kernel
theorem dX8_raise_65 : decode cX8_raise 65 = .ok (.ireturn, 1) := by decide +kernel
set_option maxRecDepth 20000 in
theorem ggX8_hostage_X2_push : GoodIn wsX8_hostage wsX2_push := goodIn_r _ [8, 9, 10, 11, 12, 13, 14, 15, 16, 17, 18, 19, 20, 21, 22, 23, 24, 25, 26, 57, 58, 59, 50, 51, 52, 53, 54, 55, 56] (by decide +kernel) (by decide +kernel)
set_option maxRecDepth 20000 in
theorem gX8_hostage_X2_push_n170 : GoodIn wsX8_hostage (wsX2_push) := ggX8_hostage_X2_push
theorem dX8_hostage_0 : decode cX8_hostage 0 = .ok (.iload_n 1, 1) := by decide +kernel
theorem dX8_hostage_1 : decode cX8_hostage 1 = .ok (.ifCond .lt 14, 3) := by decide +kernel
theorem dX8_hostage_4 : decode cX8_hostage 4 = .ok (.iload_n 1, 1) := by decide +kernel
theorem dX8_hostage_5 : decode cX8_hostage 5 = .ok (.aload_n 0, 1) := by decide +kernel
theorem dX8_hostage_6 : decode cX8_hostage 6 = .ok (.getfield 19, 3) := by decide +kernel
theorem dX8_hostage_9 : decode cX8_hostage 9 = .ok (.getfield 117, 3) := by decide +kernel
theorem dX8_hostage_12 : decode cX8_hostage 12 = .ok (.if_icmp .lt 6, 3) := by decide +kernel
theorem dX8_hostage_15 : decode cX8_hostage 15 = .ok (.ldc 146, 2) := by decide +kernel
theorem dX8_hostage_17 : decode cX8_hostage 17 = .ok (.ireturn, 1) := by decide +kernel
theorem dX8_hostage_18 : decode cX8_hostage 18 = .ok (.aload_n 0, 1) := by decide +kernel
theorem dX8_hostage_19 : decode cX8_hostage 19 = .ok (.getfield 39, 3) := by decide +kernel
theorem dX8_hostage_22 : decode cX8_hostage 22 = .ok (.aload_n 0, 1) := by decide +kernel
theorem dX8_hostage_23 : decode cX8_hostage 23 = .ok (.getfield 29, 3) := by decide +kernel
theorem dX8_hostage_26 : decode cX8_hostage 26 = .ok (.invokevirtual 170, 3) := by decide +kernel
theorem dX8_hostage_29 : decode cX8_hostage 29 = .ok (.iconst 1, 1) := by decide +kernel
theorem dX8_hostage_30 : decode cX8_hostage 30 = .ok (.iload_n 1, 1) := by decide +kernel
theorem dX8_hostage_31 : decode cX8_hostage 31 = .ok (.ishl, 1) := by decide +kernel
theorem dX8_hostage_32 : decode cX8_hostage 32 = .ok (.istore_n 3, 1) := by decide +kernel
theorem dX8_hostage_33 : decode cX8_hostage 33 = .ok (.aload_n 0, 1) := by decide +kernel
theorem dX8_hostage_34 : decode cX8_hostage 34 = .ok (.getfield 29, 3) := by decide +kernel
theorem dX8_hostage_37 : decode cX8_hostage 37 = .ok (.getfield 132, 3) := by decide +kernel
theorem dX8_hostage_40 : decode cX8_hostage 40 = .ok (.iload_n 3, 1) := by decide +kernel
theorem dX8_hostage_41 : decode cX8_hostage 41 = .ok (.iand, 1) := by decide +kernel
theorem dX8_hostage_42 : decode cX8_hostage 42 = .ok (.ifCond .eq 7, 3) := by decide +kernel
theorem dX8_hostage_45 : decode cX8_hostage 45 = .ok (.iconst 1, 1) := by decide +kernel
theorem dX8_hostage_46 : decode cX8_hostage 46 = .ok (.goto 4, 3) := by decide +kernel
theorem dX8_hostage_49 : decode cX8_hostage 49 = .ok (.iconst 0, 1) := by decide +kernel
theorem dX8_hostage_50 : decode cX8_hostage 50 = .ok (.istore 4, 2) := by decide +kernel
theorem dX8_hostage_52 : decode cX8_hostage 52 = .ok (.aload_n 0, 1) := by decide +kernel
theorem dX8_hostage_53 : decode cX8_hostage 53 = .ok (.getfield 29, 3) := by decide +kernel
theorem dX8_hostage_56 : decode cX8_hostage 56 = .ok (.iload_n 2, 1) := by decide +kernel
theorem dX8_hostage_57 : decode cX8_hostage 57 = .ok (.ifCond .eq 15, 3) := by decide +kernel
theorem dX8_hostage_60 : decode cX8_hostage 60 = .ok (.aload_n 0, 1) := by decide +kernel
theorem dX8_hostage_61 : decode cX8_hostage 61 = .ok (.getfield 29, 3) := by decide +kernel
theorem dX8_hostage_64 : decode cX8_hostage 64 = .ok (.getfield 132, 3) := by decide +kernel
theorem dX8_hostage_67 : decode cX8_hostage 67 = .ok (.iload_n 3, 1) := by decide +kernel
theorem dX8_hostage_68 : decode cX8_hostage 68 = .ok (.ior, 1) := by decide +kernel
theorem dX8_hostage_69 : decode cX8_hostage 69 = .ok (.goto 14, 3) := by decide +kernel
theorem dX8_hostage_72 : decode cX8_hostage 72 = .ok (.aload_n 0, 1) := by decide +kernel
theorem dX8_hostage_73 : decode cX8_hostage 73 = .ok (.getfield 29, 3) := by decide +kernel
theorem dX8_hostage_76 : decode cX8_hostage 76 = .ok (.getfield 132, 3) := by decide +kernel
theorem dX8_hostage_79 : decode cX8_hostage 79 = .ok (.iload_n 3, 1) := by decide +kernel
theorem dX8_hostage_80 : decode cX8_hostage 80 = .ok (.iconst (-1), 1) := by decide +kernel
theorem dX8_hostage_81 : decode cX8_hostage 81 = .ok (.ixor, 1) := by decide +kernel
theorem dX8_hostage_82 : decode cX8_hostage 82 = .ok (.iand, 1) := by decide +kernel
theorem dX8_hostage_83 : decode cX8_hostage 83 = .ok (.putfield 132, 3) := by decide +kernel
theorem dX8_hostage_86 : decode cX8_hostage 86 = .ok (.iload 4, 2) := by decide +kernel
theorem dX8_hostage_88 : decode cX8_hostage 88 = .ok (.ireturn, 1) := by decide +kernel
set_option maxRecDepth 20000 in
theorem ggX8_free_X8_isKept : GoodIn wsX8_free wsX8_isKept := goodIn_r _ [8, 9, 1, 45, 46, 47, 48, 49, 50, 51, 52, 53, 54, 55, 63, 64, 65, 66, 67, 68, 69, 70, 71, 72, 73, 74, 56, 57, 58, 59, 60, 61, 62] (by decide +kernel) (by decide +kernel)
set_option maxRecDepth 20000 in
theorem gX8_free_X8_isKept : GoodIn wsX8_free (wsV RX8 181 RX8 yX8_isKept wsX8_isKept) := goodIn_app (goodIn_of _ (by decide +kernel)) ggX8_free_X8_isKept
set_option maxRecDepth 20000 in
theorem ggX8_free_X5_cost : GoodIn wsX8_free wsX5_cost := goodIn_r _ [13, 14, 15, 16, 17, 18, 19, 20, 21, 22, 23, 24, 25, 26, 56, 57, 58, 59, 60, 61, 62] (by decide +kernel) (by decide +kernel)
set_option maxRecDepth 20000 in
theorem gX8_free_X5_cost_n192 : GoodIn wsX8_free (wsX5_cost) := ggX8_free_X5_cost
set_option maxRecDepth 20000 in
theorem ggX8_free_X2_push : GoodIn wsX8_free wsX2_push := goodIn_r _ [30, 31, 32, 33, 34, 35, 18, 36, 37, 11, 38, 39, 14, 40, 41, 15, 42, 43, 44, 75, 76, 77, 56, 57, 58, 59, 60, 61, 62] (by decide +kernel) (by decide +kernel)
set_option maxRecDepth 20000 in
theorem gX8_free_X2_push_n170 : GoodIn wsX8_free (wsX2_push) := ggX8_free_X2_push
theorem dX8_free_0 : decode cX8_free 0 = .ok (.aload_n 0, 1) := by decide +kernel
theorem dX8_free_1 : decode cX8_free 1 = .ok (.invokevirtual 181, 3) := by decide +kernel
theorem dX8_free_4 : decode cX8_free 4 = .ok (.ifCond .eq 20, 3) := by decide +kernel
theorem dX8_free_7 : decode cX8_free 7 = .ok (.aload_n 0, 1) := by decide +kernel
theorem dX8_free_8 : decode cX8_free 8 = .ok (.getfield 29, 3) := by decide +kernel
theorem dX8_free_11 : decode cX8_free 11 = .ok (.getfield 129, 3) := by decide +kernel
theorem dX8_free_14 : decode cX8_free 14 = .ok (.aload_n 0, 1) := by decide +kernel
theorem dX8_free_15 : decode cX8_free 15 = .ok (.getfield 29, 3) := by decide +kernel
theorem dX8_free_18 : decode cX8_free 18 = .ok (.invokevirtual 192, 3) := by decide +kernel
theorem dX8_free_21 : decode cX8_free 21 = .ok (.if_icmp .ge 6, 3) := by decide +kernel
theorem dX8_free_24 : decode cX8_free 24 = .ok (.ldc 185, 2) := by decide +kernel
theorem dX8_free_26 : decode cX8_free 26 = .ok (.ireturn, 1) := by decide +kernel
theorem dX8_free_27 : decode cX8_free 27 = .ok (.aload_n 0, 1) := by decide +kernel
theorem dX8_free_28 : decode cX8_free 28 = .ok (.getfield 39, 3) := by decide +kernel
theorem dX8_free_31 : decode cX8_free 31 = .ok (.aload_n 0, 1) := by decide +kernel
theorem dX8_free_32 : decode cX8_free 32 = .ok (.getfield 29, 3) := by decide +kernel
theorem dX8_free_35 : decode cX8_free 35 = .ok (.invokevirtual 170, 3) := by decide +kernel
theorem dX8_free_38 : decode cX8_free 38 = .ok (.aload_n 0, 1) := by decide +kernel
theorem dX8_free_39 : decode cX8_free 39 = .ok (.getfield 29, 3) := by decide +kernel
theorem dX8_free_42 : decode cX8_free 42 = .ok (.dup, 1) := by decide +kernel
theorem dX8_free_43 : decode cX8_free 43 = .ok (.getfield 129, 3) := by decide +kernel
theorem dX8_free_46 : decode cX8_free 46 = .ok (.aload_n 0, 1) := by decide +kernel
theorem dX8_free_47 : decode cX8_free 47 = .ok (.getfield 29, 3) := by decide +kernel
theorem dX8_free_50 : decode cX8_free 50 = .ok (.invokevirtual 192, 3) := by decide +kernel
theorem dX8_free_53 : decode cX8_free 53 = .ok (.isub, 1) := by decide +kernel
theorem dX8_free_54 : decode cX8_free 54 = .ok (.putfield 129, 3) := by decide +kernel
theorem dX8_free_57 : decode cX8_free 57 = .ok (.aload_n 0, 1) := by decide +kernel
theorem dX8_free_58 : decode cX8_free 58 = .ok (.getfield 29, 3) := by decide +kernel
theorem dX8_free_61 : decode cX8_free 61 = .ok (.iconst 1, 1) := by decide +kernel
theorem dX8_free_62 : decode cX8_free 62 = .ok (.putfield 135, 3) := by decide +kernel
theorem dX8_free_65 : decode cX8_free 65 = .ok (.aload_n 0, 1) := by decide +kernel
theorem dX8_free_66 : decode cX8_free 66 = .ok (.getfield 29, 3) := by decide +kernel
theorem dX8_free_69 : decode cX8_free 69 = .ok (.getfield 129, 3) := by decide +kernel
theorem dX8_free_72 : decode cX8_free 72 = .ok (.ireturn, 1) := by decide +kernel
set_option maxRecDepth 20000 in
theorem ggX8_dies_X8_isKept : GoodIn wsX8_dies wsX8_isKept := goodIn_r _ [8, 9, 3, 32, 33, 34, 35, 36, 37, 38, 39, 40, 41, 42, 50, 51, 52, 53, 54, 55, 56, 57, 58, 59, 60, 61, 43, 44, 45, 46, 47, 48, 49] (by decide +kernel) (by decide +kernel)
set_option maxRecDepth 20000 in
theorem gX8_dies_X8_isKept : GoodIn wsX8_dies (wsV RX8 181 RX8 yX8_isKept wsX8_isKept) := goodIn_app (goodIn_of _ (by decide +kernel)) ggX8_dies_X8_isKept
set_option maxRecDepth 20000 in
theorem ggX8_dies_X2_push : GoodIn wsX8_dies wsX2_push := goodIn_r _ [13, 14, 15, 16, 17, 18, 19, 20, 21, 22, 23, 24, 25, 26, 27, 28, 29, 30, 31, 62, 63, 64, 43, 44, 45, 46, 47, 48, 49] (by decide +kernel) (by decide +kernel)
set_option maxRecDepth 20000 in
theorem gX8_dies_X2_push_n170 : GoodIn wsX8_dies (wsX2_push) := ggX8_dies_X2_push
theorem dX8_dies_0 : decode cX8_dies 0 = .ok (.aload_n 0, 1) := by decide +kernel
theorem dX8_dies_1 : decode cX8_dies 1 = .ok (.invokevirtual 181, 3) := by decide +kernel
theorem dX8_dies_4 : decode cX8_dies 4 = .ok (.ifCond .ne 6, 3) := by decide +kernel
theorem dX8_dies_7 : decode cX8_dies 7 = .ok (.ldc 185, 2) := by decide +kernel
theorem dX8_dies_9 : decode cX8_dies 9 = .ok (.ireturn, 1) := by decide +kernel
theorem dX8_dies_10 : decode cX8_dies 10 = .ok (.aload_n 0, 1) := by decide +kernel
theorem dX8_dies_11 : decode cX8_dies 11 = .ok (.getfield 39, 3) := by decide +kernel
theorem dX8_dies_14 : decode cX8_dies 14 = .ok (.aload_n 0, 1) := by decide +kernel
theorem dX8_dies_15 : decode cX8_dies 15 = .ok (.getfield 29, 3) := by decide +kernel
theorem dX8_dies_18 : decode cX8_dies 18 = .ok (.invokevirtual 170, 3) := by decide +kernel
theorem dX8_dies_21 : decode cX8_dies 21 = .ok (.aload_n 0, 1) := by decide +kernel
theorem dX8_dies_22 : decode cX8_dies 22 = .ok (.getfield 29, 3) := by decide +kernel
theorem dX8_dies_25 : decode cX8_dies 25 = .ok (.iconst 2, 1) := by decide +kernel
theorem dX8_dies_26 : decode cX8_dies 26 = .ok (.putfield 135, 3) := by decide +kernel
theorem dX8_dies_29 : decode cX8_dies 29 = .ok (.aload_n 0, 1) := by decide +kernel
theorem dX8_dies_30 : decode cX8_dies 30 = .ok (.getfield 29, 3) := by decide +kernel
theorem dX8_dies_33 : decode cX8_dies 33 = .ok (.getfield 126, 3) := by decide +kernel
theorem dX8_dies_36 : decode cX8_dies 36 = .ok (.ireturn, 1) := by decide +kernel
set_option maxRecDepth 20000 in
theorem ggX8_drift_X8_refusalOfMonths : GoodIn wsX8_drift wsX8_refusalOfMonths := goodIn_r _ [8, 9, 10, 2, 11, 12, 13, 14, 7, 15, 3, 58, 59, 60, 61, 62, 63, 64, 65, 66, 67, 68, 69, 70, 71, 72, 73, 74, 75, 76, 77, 78, 79, 80, 81, 82, 83, 84, 85, 86, 87] (by decide +kernel) (by decide +kernel)
set_option maxRecDepth 20000 in
theorem gX8_drift_X8_refusalOfMonths : GoodIn wsX8_drift (wsV RX8 174 RX8 yX8_refusalOfMonths wsX8_refusalOfMonths) := goodIn_app (goodIn_of _ (by decide +kernel)) ggX8_drift_X8_refusalOfMonths
set_option maxRecDepth 20000 in
theorem ggX8_drift_X2_push : GoodIn wsX8_drift wsX2_push := goodIn_r _ [19, 20, 21, 22, 23, 24, 25, 26, 27, 28, 29, 30, 31, 32, 33, 34, 35, 36, 37, 88, 89, 90, 69, 70, 71, 72, 73, 74, 75] (by decide +kernel) (by decide +kernel)
set_option maxRecDepth 20000 in
theorem gX8_drift_X2_push_n170 : GoodIn wsX8_drift (wsX2_push) := ggX8_drift_X2_push
set_option maxRecDepth 20000 in
theorem ggX8_drift_X8_drawOfHundred : GoodIn wsX8_drift wsX8_drawOfHundred := goodIn_r _ [41, 42, 43, 44, 45, 46, 58, 59, 60, 61, 62, 63, 64, 65, 66, 67, 68] (by decide +kernel) (by decide +kernel)
set_option maxRecDepth 20000 in
theorem gX8_drift_X8_drawOfHundred : GoodIn wsX8_drift (wsV RX8 196 RX8 yX8_drawOfHundred wsX8_drawOfHundred) := goodIn_app (goodIn_of _ (by decide +kernel)) ggX8_drift_X8_drawOfHundred
set_option maxRecDepth 20000 in
theorem ggX8_drift_X5_passMonth : GoodIn wsX8_drift wsX5_passMonth := goodIn_r _ [49, 36, 37, 33, 32, 50, 7, 51, 52, 53, 54, 55, 56, 25, 57, 76, 77, 78, 79, 80, 81, 82, 83, 84, 85, 86, 87, 69, 70, 71, 72, 73, 74, 75] (by decide +kernel) (by decide +kernel)
set_option maxRecDepth 20000 in
theorem gX8_drift_X5_passMonth_n178 : GoodIn wsX8_drift (wsX5_passMonth) := ggX8_drift_X5_passMonth
theorem dX8_drift_0 : decode cX8_drift 0 = .ok (.aload_n 0, 1) := by decide +kernel
theorem dX8_drift_1 : decode cX8_drift 1 = .ok (.iload_n 1, 1) := by decide +kernel
theorem dX8_drift_2 : decode cX8_drift 2 = .ok (.invokevirtual 174, 3) := by decide +kernel
theorem dX8_drift_5 : decode cX8_drift 5 = .ok (.istore_n 2, 1) := by decide +kernel
theorem dX8_drift_6 : decode cX8_drift 6 = .ok (.iload_n 2, 1) := by decide +kernel
theorem dX8_drift_7 : decode cX8_drift 7 = .ok (.ifCond .eq 5, 3) := by decide +kernel
theorem dX8_drift_10 : decode cX8_drift 10 = .ok (.iload_n 2, 1) := by decide +kernel
theorem dX8_drift_11 : decode cX8_drift 11 = .ok (.ireturn, 1) := by decide +kernel
theorem dX8_drift_12 : decode cX8_drift 12 = .ok (.aload_n 0, 1) := by decide +kernel
theorem dX8_drift_13 : decode cX8_drift 13 = .ok (.getfield 39, 3) := by decide +kernel
theorem dX8_drift_16 : decode cX8_drift 16 = .ok (.aload_n 0, 1) := by decide +kernel
theorem dX8_drift_17 : decode cX8_drift 17 = .ok (.getfield 29, 3) := by decide +kernel
theorem dX8_drift_20 : decode cX8_drift 20 = .ok (.invokevirtual 170, 3) := by decide +kernel
theorem dX8_drift_23 : decode cX8_drift 23 = .ok (.iconst 0, 1) := by decide +kernel
theorem dX8_drift_24 : decode cX8_drift 24 = .ok (.istore_n 3, 1) := by decide +kernel
theorem dX8_drift_25 : decode cX8_drift 25 = .ok (.iload_n 3, 1) := by decide +kernel
theorem dX8_drift_26 : decode cX8_drift 26 = .ok (.iload_n 1, 1) := by decide +kernel
theorem dX8_drift_27 : decode cX8_drift 27 = .ok (.if_icmp .ge 55, 3) := by decide +kernel
theorem dX8_drift_30 : decode cX8_drift 30 = .ok (.aload_n 0, 1) := by decide +kernel
theorem dX8_drift_31 : decode cX8_drift 31 = .ok (.getfield 29, 3) := by decide +kernel
theorem dX8_drift_34 : decode cX8_drift 34 = .ok (.getfield 135, 3) := by decide +kernel
theorem dX8_drift_37 : decode cX8_drift 37 = .ok (.ifCond .ne 45, 3) := by decide +kernel
theorem dX8_drift_40 : decode cX8_drift 40 = .ok (.aload_n 0, 1) := by decide +kernel
theorem dX8_drift_41 : decode cX8_drift 41 = .ok (.invokevirtual 196, 3) := by decide +kernel
theorem dX8_drift_44 : decode cX8_drift 44 = .ok (.aload_n 0, 1) := by decide +kernel
theorem dX8_drift_45 : decode cX8_drift 45 = .ok (.getfield 19, 3) := by decide +kernel
theorem dX8_drift_48 : decode cX8_drift 48 = .ok (.getfield 111, 3) := by decide +kernel
theorem dX8_drift_51 : decode cX8_drift 51 = .ok (.if_icmp .ge 14, 3) := by decide +kernel
theorem dX8_drift_54 : decode cX8_drift 54 = .ok (.aload_n 0, 1) := by decide +kernel
theorem dX8_drift_55 : decode cX8_drift 55 = .ok (.getfield 29, 3) := by decide +kernel
theorem dX8_drift_58 : decode cX8_drift 58 = .ok (.iconst 2, 1) := by decide +kernel
theorem dX8_drift_59 : decode cX8_drift 59 = .ok (.putfield 135, 3) := by decide +kernel
theorem dX8_drift_62 : decode cX8_drift 62 = .ok (.goto 14, 3) := by decide +kernel
theorem dX8_drift_65 : decode cX8_drift 65 = .ok (.aload_n 0, 1) := by decide +kernel
theorem dX8_drift_66 : decode cX8_drift 66 = .ok (.getfield 29, 3) := by decide +kernel
theorem dX8_drift_69 : decode cX8_drift 69 = .ok (.aload_n 0, 1) := by decide +kernel
theorem dX8_drift_70 : decode cX8_drift 70 = .ok (.getfield 19, 3) := by decide +kernel
theorem dX8_drift_73 : decode cX8_drift 73 = .ok (.invokevirtual 178, 3) := by decide +kernel
theorem dX8_drift_76 : decode cX8_drift 76 = .ok (.iinc 3 1, 3) := by decide +kernel
theorem dX8_drift_79 : decode cX8_drift 79 = .ok (.goto (-54), 3) := by decide +kernel
theorem dX8_drift_82 : decode cX8_drift 82 = .ok (.aload_n 0, 1) := by decide +kernel
theorem dX8_drift_83 : decode cX8_drift 83 = .ok (.getfield 29, 3) := by decide +kernel
theorem dX8_drift_86 : decode cX8_drift 86 = .ok (.getfield 135, 3) := by decide +kernel
theorem dX8_drift_89 : decode cX8_drift 89 = .ok (.ireturn, 1) := by decide +kernel
set_option maxRecDepth 20000 in
theorem ggX8_undo_X2_pop : GoodIn wsX8_undo wsX2_pop := goodIn_r _ [7, 8, 9, 10, 11, 12, 13, 14, 15, 16, 17, 18, 19, 20, 21, 33, 34, 35, 36, 37, 38, 39, 40, 41, 42] (by decide +kernel) (by decide +kernel)
set_option maxRecDepth 20000 in
theorem gX8_undo_X2_pop_n199 : GoodIn wsX8_undo (wsX2_pop) := ggX8_undo_X2_pop
theorem dX8_undo_0 : decode cX8_undo 0 = .ok (.aload_n 0, 1) := by decide +kernel
theorem dX8_undo_1 : decode cX8_undo 1 = .ok (.getfield 39, 3) := by decide +kernel
theorem dX8_undo_4 : decode cX8_undo 4 = .ok (.aload_n 0, 1) := by decide +kernel
theorem dX8_undo_5 : decode cX8_undo 5 = .ok (.getfield 29, 3) := by decide +kernel
theorem dX8_undo_8 : decode cX8_undo 8 = .ok (.invokevirtual 199, 3) := by decide +kernel
theorem dX8_undo_11 : decode cX8_undo 11 = .ok (.ifCond .eq 13, 3) := by decide +kernel
theorem dX8_undo_14 : decode cX8_undo 14 = .ok (.aload_n 0, 1) := by decide +kernel
theorem dX8_undo_15 : decode cX8_undo 15 = .ok (.getfield 39, 3) := by decide +kernel
theorem dX8_undo_18 : decode cX8_undo 18 = .ok (.getfield 142, 3) := by decide +kernel
theorem dX8_undo_21 : decode cX8_undo 21 = .ok (.goto 5, 3) := by decide +kernel
theorem dX8_undo_24 : decode cX8_undo 24 = .ok (.ldc 185, 2) := by decide +kernel
theorem dX8_undo_26 : decode cX8_undo 26 = .ok (.ireturn, 1) := by decide +kernel
set_option maxRecDepth 20000 in
theorem ggX8_brings_X8_isRate : GoodIn wsX8_brings wsX8_isRate := goodIn_r _ [5] (by decide +kernel) (by decide +kernel)
set_option maxRecDepth 20000 in
theorem gX8_brings_X8_isRate : GoodIn wsX8_brings (va_wsS RX8 167 yX8_isRate wsX8_isRate) := goodIn_app (goodIn_of _ (by decide +kernel)) ggX8_brings_X8_isRate
set_option maxRecDepth 20000 in
theorem ggX8_brings_X8_comesBy : GoodIn wsX8_brings wsX8_comesBy := goodIn_r _ [9, 10, 11, 12, 13, 4, 14, 15, 16, 17, 18, 19, 20, 21, 22, 23, 24, 25, 26, 27, 28, 29, 30, 31, 32, 33, 34, 35, 36, 37, 38, 39, 40, 41, 42, 43, 44, 45, 46, 47, 48, 49, 50, 51] (by decide +kernel) (by decide +kernel)
set_option maxRecDepth 20000 in
theorem gX8_brings_X8_comesBy : GoodIn wsX8_brings (wsV RX8 203 RX8 yX8_comesBy wsX8_comesBy) := goodIn_app (goodIn_of _ (by decide +kernel)) ggX8_brings_X8_comesBy
theorem dX8_brings_0 : decode cX8_brings 0 = .ok (.iload_n 1, 1) := by decide +kernel
theorem dX8_brings_1 : decode cX8_brings 1 = .ok (.invokestatic 167, 3) := by decide +kernel
theorem dX8_brings_4 : decode cX8_brings 4 = .ok (.ifCond .eq 12, 3) := by decide +kernel
theorem dX8_brings_7 : decode cX8_brings 7 = .ok (.aload_n 0, 1) := by decide +kernel
theorem dX8_brings_8 : decode cX8_brings 8 = .ok (.iload_n 1, 1) := by decide +kernel
theorem dX8_brings_9 : decode cX8_brings 9 = .ok (.iconst 0, 1) := by decide +kernel
theorem dX8_brings_10 : decode cX8_brings 10 = .ok (.invokevirtual 203, 3) := by decide +kernel
theorem dX8_brings_13 : decode cX8_brings 13 = .ok (.goto 5, 3) := by decide +kernel
theorem dX8_brings_16 : decode cX8_brings 16 = .ok (.ldc 71, 2) := by decide +kernel
theorem dX8_brings_18 : decode cX8_brings 18 = .ok (.ireturn, 1) := by decide +kernel
set_option maxRecDepth 20000 in
theorem ggX8_leastRate_X8_isMuch : GoodIn wsX8_leastRate wsX8_isMuch := goodIn_r _ [5] (by decide +kernel) (by decide +kernel)
set_option maxRecDepth 20000 in
theorem gX8_leastRate_X8_isMuch : GoodIn wsX8_leastRate (va_wsS RX8 206 yX8_isMuch wsX8_isMuch) := goodIn_app (goodIn_of _ (by decide +kernel)) ggX8_leastRate_X8_isMuch
set_option maxRecDepth 20000 in
theorem ggX8_leastRate_X8_comesBy : GoodIn wsX8_leastRate wsX8_comesBy := goodIn_r _ [9, 10, 11, 12, 13, 4, 14, 15, 16, 17, 18, 19, 20, 21, 22, 23, 24, 25, 26, 27, 28, 29, 30, 31, 32, 33, 34, 35, 36, 37, 38, 39, 40, 41, 42, 43, 44, 45, 46, 47, 48, 49, 50, 51] (by decide +kernel) (by decide +kernel)
set_option maxRecDepth 20000 in
theorem gX8_leastRate_X8_comesBy : GoodIn wsX8_leastRate (wsV RX8 203 RX8 yX8_comesBy wsX8_comesBy) := goodIn_app (goodIn_of _ (by decide +kernel)) ggX8_leastRate_X8_comesBy
theorem dX8_leastRate_0 : decode cX8_leastRate 0 = .ok (.iload_n 1, 1) := by decide +kernel
theorem dX8_leastRate_1 : decode cX8_leastRate 1 = .ok (.invokestatic 206, 3) := by decide +kernel
theorem dX8_leastRate_4 : decode cX8_leastRate 4 = .ok (.ifCond .ne 6, 3) := by decide +kernel
theorem dX8_leastRate_7 : decode cX8_leastRate 7 = .ok (.ldc 71, 2) := by decide +kernel
theorem dX8_leastRate_9 : decode cX8_leastRate 9 = .ok (.ireturn, 1) := by decide +kernel
theorem dX8_leastRate_10 : decode cX8_leastRate 10 = .ok (.iconst 0, 1) := by decide +kernel
theorem dX8_leastRate_11 : decode cX8_leastRate 11 = .ok (.istore_n 2, 1) := by decide +kernel
theorem dX8_leastRate_12 : decode cX8_leastRate 12 = .ok (.iload_n 2, 1) := by decide +kernel
theorem dX8_leastRate_13 : decode cX8_leastRate 13 = .ok (.bipush 100, 2) := by decide +kernel
theorem dX8_leastRate_15 : decode cX8_leastRate 15 = .ok (.if_icmp .gt 21, 3) := by decide +kernel
theorem dX8_leastRate_18 : decode cX8_leastRate 18 = .ok (.aload_n 0, 1) := by decide +kernel
theorem dX8_leastRate_19 : decode cX8_leastRate 19 = .ok (.iload_n 2, 1) := by decide +kernel
theorem dX8_leastRate_20 : decode cX8_leastRate 20 = .ok (.iconst 0, 1) := by decide +kernel
theorem dX8_leastRate_21 : decode cX8_leastRate 21 = .ok (.invokevirtual 203, 3) := by decide +kernel
theorem dX8_leastRate_24 : decode cX8_leastRate 24 = .ok (.iload_n 1, 1) := by decide +kernel
theorem dX8_leastRate_25 : decode cX8_leastRate 25 = .ok (.if_icmp .lt 5, 3) := by decide +kernel
theorem dX8_leastRate_28 : decode cX8_leastRate 28 = .ok (.iload_n 2, 1) := by decide +kernel
theorem dX8_leastRate_29 : decode cX8_leastRate 29 = .ok (.ireturn, 1) := by decide +kernel
theorem dX8_leastRate_30 : decode cX8_leastRate 30 = .ok (.iinc 2 1, 3) := by decide +kernel
theorem dX8_leastRate_33 : decode cX8_leastRate 33 = .ok (.goto (-21), 3) := by decide +kernel
theorem dX8_leastRate_36 : decode cX8_leastRate 36 = .ok (.iconst (-1), 1) := by decide +kernel
theorem dX8_leastRate_37 : decode cX8_leastRate 37 = .ok (.ireturn, 1) := by decide +kernel
set_option maxRecDepth 20000 in
theorem ggX8_rateOfMost_X8_comesBy : GoodIn wsX8_rateOfMost wsX8_comesBy := goodIn_r _ [5, 6, 7, 8, 9, 4, 10, 11, 12, 13, 14, 15, 16, 17, 18, 19, 20, 21, 22, 23, 24, 25, 26, 27, 28, 29, 30, 31, 32, 33, 34, 35, 36, 37, 38, 39, 40, 41, 42, 43, 44, 45, 46, 47] (by decide +kernel) (by decide +kernel)
set_option maxRecDepth 20000 in
theorem gX8_rateOfMost_X8_comesBy : GoodIn wsX8_rateOfMost (wsV RX8 203 RX8 yX8_comesBy wsX8_comesBy) := goodIn_app (goodIn_of _ (by decide +kernel)) ggX8_rateOfMost_X8_comesBy
theorem dX8_rateOfMost_0 : decode cX8_rateOfMost 0 = .ok (.iconst 0, 1) := by decide +kernel
theorem dX8_rateOfMost_1 : decode cX8_rateOfMost 1 = .ok (.istore_n 1, 1) := by decide +kernel
theorem dX8_rateOfMost_2 : decode cX8_rateOfMost 2 = .ok (.aload_n 0, 1) := by decide +kernel
theorem dX8_rateOfMost_3 : decode cX8_rateOfMost 3 = .ok (.iconst 0, 1) := by decide +kernel
theorem dX8_rateOfMost_4 : decode cX8_rateOfMost 4 = .ok (.iconst 0, 1) := by decide +kernel
theorem dX8_rateOfMost_5 : decode cX8_rateOfMost 5 = .ok (.invokevirtual 203, 3) := by decide +kernel
theorem dX8_rateOfMost_8 : decode cX8_rateOfMost 8 = .ok (.istore_n 2, 1) := by decide +kernel
theorem dX8_rateOfMost_9 : decode cX8_rateOfMost 9 = .ok (.iconst 1, 1) := by decide +kernel
theorem dX8_rateOfMost_10 : decode cX8_rateOfMost 10 = .ok (.istore_n 3, 1) := by decide +kernel
theorem dX8_rateOfMost_11 : decode cX8_rateOfMost 11 = .ok (.iload_n 3, 1) := by decide +kernel
theorem dX8_rateOfMost_12 : decode cX8_rateOfMost 12 = .ok (.bipush 100, 2) := by decide +kernel
theorem dX8_rateOfMost_14 : decode cX8_rateOfMost 14 = .ok (.if_icmp .gt 28, 3) := by decide +kernel
theorem dX8_rateOfMost_17 : decode cX8_rateOfMost 17 = .ok (.aload_n 0, 1) := by decide +kernel
theorem dX8_rateOfMost_18 : decode cX8_rateOfMost 18 = .ok (.iload_n 3, 1) := by decide +kernel
theorem dX8_rateOfMost_19 : decode cX8_rateOfMost 19 = .ok (.iconst 0, 1) := by decide +kernel
theorem dX8_rateOfMost_20 : decode cX8_rateOfMost 20 = .ok (.invokevirtual 203, 3) := by decide +kernel
theorem dX8_rateOfMost_23 : decode cX8_rateOfMost 23 = .ok (.istore 4, 2) := by decide +kernel
theorem dX8_rateOfMost_25 : decode cX8_rateOfMost 25 = .ok (.iload 4, 2) := by decide +kernel
theorem dX8_rateOfMost_27 : decode cX8_rateOfMost 27 = .ok (.iload_n 2, 1) := by decide +kernel
theorem dX8_rateOfMost_28 : decode cX8_rateOfMost 28 = .ok (.if_icmp .le 8, 3) := by decide +kernel
theorem dX8_rateOfMost_31 : decode cX8_rateOfMost 31 = .ok (.iload 4, 2) := by decide +kernel
theorem dX8_rateOfMost_33 : decode cX8_rateOfMost 33 = .ok (.istore_n 2, 1) := by decide +kernel
theorem dX8_rateOfMost_34 : decode cX8_rateOfMost 34 = .ok (.iload_n 3, 1) := by decide +kernel
theorem dX8_rateOfMost_35 : decode cX8_rateOfMost 35 = .ok (.istore_n 1, 1) := by decide +kernel
theorem dX8_rateOfMost_36 : decode cX8_rateOfMost 36 = .ok (.iinc 3 1, 3) := by decide +kernel
theorem dX8_rateOfMost_39 : decode cX8_rateOfMost 39 = .ok (.goto (-28), 3) := by decide +kernel
theorem dX8_rateOfMost_42 : decode cX8_rateOfMost 42 = .ok (.iload_n 1, 1) := by decide +kernel
theorem dX8_rateOfMost_43 : decode cX8_rateOfMost 43 = .ok (.ireturn, 1) := by decide +kernel
set_option maxRecDepth 20000 in
theorem ggX8_spread_X8_isPayer : GoodIn wsX8_spread wsX8_isPayer := goodIn_r _ [10, 5, 49, 50, 51, 52, 53, 54, 55, 56, 57, 58, 59, 68, 69, 70, 71, 72, 73, 74, 75, 76, 77, 78, 79] (by decide +kernel) (by decide +kernel)
set_option maxRecDepth 20000 in
theorem gX8_spread_X8_isPayer : GoodIn wsX8_spread (wsV RX8 143 RX8 yX8_isPayer wsX8_isPayer) := goodIn_app (goodIn_of _ (by decide +kernel)) ggX8_spread_X8_isPayer
set_option maxRecDepth 20000 in
theorem ggX8_spread_X8_isMuch : GoodIn wsX8_spread wsX8_isMuch := goodIn_r _ [13] (by decide +kernel) (by decide +kernel)
set_option maxRecDepth 20000 in
theorem gX8_spread_X8_isMuch : GoodIn wsX8_spread (va_wsS RX8 206 yX8_isMuch wsX8_isMuch) := goodIn_app (goodIn_of _ (by decide +kernel)) ggX8_spread_X8_isMuch
set_option maxRecDepth 20000 in
theorem ggX8_spread_X4_find : GoodIn wsX8_spread wsX4_find := goodIn_r _ [17, 18, 19, 20, 21, 22, 23, 24, 25, 15, 26, 27, 28, 29, 30, 31, 32, 33, 9, 34, 35, 36, 37, 38, 39, 40, 41, 42, 43, 44, 45, 46, 47, 48, 68, 69, 70, 71, 72, 73, 74, 75, 76, 77, 78, 79, 60, 61, 62, 63, 64, 65, 66, 67, 80, 81, 82, 83, 84, 85, 86] (by decide +kernel) (by decide +kernel)
set_option maxRecDepth 20000 in
theorem gX8_spread_X4_find_n209 : GoodIn wsX8_spread (wsX4_find) := ggX8_spread_X4_find
theorem dX8_spread_0 : decode cX8_spread 0 = .ok (.iload_n 2, 1) := by decide +kernel
theorem dX8_spread_1 : decode cX8_spread 1 = .ok (.iconst (-1), 1) := by decide +kernel
theorem dX8_spread_2 : decode cX8_spread 2 = .ok (.if_icmp .eq 14, 3) := by decide +kernel
theorem dX8_spread_5 : decode cX8_spread 5 = .ok (.aload_n 0, 1) := by decide +kernel
theorem dX8_spread_6 : decode cX8_spread 6 = .ok (.iload_n 2, 1) := by decide +kernel
theorem dX8_spread_7 : decode cX8_spread 7 = .ok (.invokevirtual 143, 3) := by decide +kernel
theorem dX8_spread_10 : decode cX8_spread 10 = .ok (.ifCond .ne 6, 3) := by decide +kernel
theorem dX8_spread_13 : decode cX8_spread 13 = .ok (.ldc 146, 2) := by decide +kernel
theorem dX8_spread_15 : decode cX8_spread 15 = .ok (.ireturn, 1) := by decide +kernel
theorem dX8_spread_16 : decode cX8_spread 16 = .ok (.iload_n 1, 1) := by decide +kernel
theorem dX8_spread_17 : decode cX8_spread 17 = .ok (.invokestatic 206, 3) := by decide +kernel
theorem dX8_spread_20 : decode cX8_spread 20 = .ok (.ifCond .ne 6, 3) := by decide +kernel
theorem dX8_spread_23 : decode cX8_spread 23 = .ok (.ldc 71, 2) := by decide +kernel
theorem dX8_spread_25 : decode cX8_spread 25 = .ok (.ireturn, 1) := by decide +kernel
theorem dX8_spread_26 : decode cX8_spread 26 = .ok (.aload_n 0, 1) := by decide +kernel
theorem dX8_spread_27 : decode cX8_spread 27 = .ok (.getfield 66, 3) := by decide +kernel
theorem dX8_spread_30 : decode cX8_spread 30 = .ok (.aload_n 0, 1) := by decide +kernel
theorem dX8_spread_31 : decode cX8_spread 31 = .ok (.getfield 29, 3) := by decide +kernel
theorem dX8_spread_34 : decode cX8_spread 34 = .ok (.aload_n 0, 1) := by decide +kernel
theorem dX8_spread_35 : decode cX8_spread 35 = .ok (.getfield 19, 3) := by decide +kernel
theorem dX8_spread_38 : decode cX8_spread 38 = .ok (.iload_n 1, 1) := by decide +kernel
theorem dX8_spread_39 : decode cX8_spread 39 = .ok (.invokevirtual 209, 3) := by decide +kernel
theorem dX8_spread_42 : decode cX8_spread 42 = .ok (.ifCond .ne 5, 3) := by decide +kernel
theorem dX8_spread_45 : decode cX8_spread 45 = .ok (.iconst (-1), 1) := by decide +kernel
theorem dX8_spread_46 : decode cX8_spread 46 = .ok (.ireturn, 1) := by decide +kernel
theorem dX8_spread_47 : decode cX8_spread 47 = .ok (.iload_n 2, 1) := by decide +kernel
theorem dX8_spread_48 : decode cX8_spread 48 = .ok (.iconst (-1), 1) := by decide +kernel
theorem dX8_spread_49 : decode cX8_spread 49 = .ok (.if_icmp .ne 13, 3) := by decide +kernel
theorem dX8_spread_52 : decode cX8_spread 52 = .ok (.aload_n 0, 1) := by decide +kernel
theorem dX8_spread_53 : decode cX8_spread 53 = .ok (.getfield 66, 3) := by decide +kernel
theorem dX8_spread_56 : decode cX8_spread 56 = .ok (.getfield 213, 3) := by decide +kernel
theorem dX8_spread_59 : decode cX8_spread 59 = .ok (.goto 12, 3) := by decide +kernel
theorem dX8_spread_62 : decode cX8_spread 62 = .ok (.aload_n 0, 1) := by decide +kernel
theorem dX8_spread_63 : decode cX8_spread 63 = .ok (.getfield 66, 3) := by decide +kernel
theorem dX8_spread_66 : decode cX8_spread 66 = .ok (.getfield 216, 3) := by decide +kernel
theorem dX8_spread_69 : decode cX8_spread 69 = .ok (.iload_n 2, 1) := by decide +kernel
theorem dX8_spread_70 : decode cX8_spread 70 = .ok (.iaload, 1) := by decide +kernel
theorem dX8_spread_71 : decode cX8_spread 71 = .ok (.ireturn, 1) := by decide +kernel
theorem dX8_sell_0 : decode cX8_sell 0 = .ok (.iload_n 1, 1) := by decide +kernel
theorem dX8_sell_1 : decode cX8_sell 1 = .ok (.ifCond .lt 18, 3) := by decide +kernel
theorem dX8_sell_4 : decode cX8_sell 4 = .ok (.iload_n 1, 1) := by decide +kernel
theorem dX8_sell_5 : decode cX8_sell 5 = .ok (.bipush 9, 2) := by decide +kernel
theorem dX8_sell_7 : decode cX8_sell 7 = .ok (.if_icmp .gt 12, 3) := by decide +kernel
theorem dX8_sell_10 : decode cX8_sell 10 = .ok (.iload_n 2, 1) := by decide +kernel
theorem dX8_sell_11 : decode cX8_sell 11 = .ok (.ifCond .lt 8, 3) := by decide +kernel
theorem dX8_sell_14 : decode cX8_sell 14 = .ok (.iload_n 2, 1) := by decide +kernel
theorem dX8_sell_15 : decode cX8_sell 15 = .ok (.iconst 1, 1) := by decide +kernel
theorem dX8_sell_16 : decode cX8_sell 16 = .ok (.if_icmp .le 6, 3) := by decide +kernel
theorem dX8_sell_19 : decode cX8_sell 19 = .ok (.ldc 71, 2) := by decide +kernel
theorem dX8_sell_21 : decode cX8_sell 21 = .ok (.ireturn, 1) := by decide +kernel
theorem dX8_sell_22 : decode cX8_sell 22 = .ok (.aload_n 0, 1) := by decide +kernel
theorem dX8_sell_23 : decode cX8_sell 23 = .ok (.getfield 29, 3) := by decide +kernel
theorem dX8_sell_26 : decode cX8_sell 26 = .ok (.getfield 108, 3) := by decide +kernel
theorem dX8_sell_29 : decode cX8_sell 29 = .ok (.istore_n 3, 1) := by decide +kernel
theorem dX8_sell_30 : decode cX8_sell 30 = .ok (.iconst (-1), 1) := by decide +kernel
theorem dX8_sell_31 : decode cX8_sell 31 = .ok (.istore 4, 2) := by decide +kernel
theorem dX8_sell_33 : decode cX8_sell 33 = .ok (.aload_n 0, 1) := by decide +kernel
theorem dX8_sell_34 : decode cX8_sell 34 = .ok (.getfield 19, 3) := by decide +kernel
theorem dX8_sell_37 : decode cX8_sell 37 = .ok (.getfield 114, 3) := by decide +kernel
theorem dX8_sell_40 : decode cX8_sell 40 = .ok (.iconst 1, 1) := by decide +kernel
theorem dX8_sell_41 : decode cX8_sell 41 = .ok (.isub, 1) := by decide +kernel
theorem dX8_sell_42 : decode cX8_sell 42 = .ok (.istore 5, 2) := by decide +kernel
theorem dX8_sell_44 : decode cX8_sell 44 = .ok (.iload 5, 2) := by decide +kernel
theorem dX8_sell_46 : decode cX8_sell 46 = .ok (.iload_n 1, 1) := by decide +kernel
theorem dX8_sell_47 : decode cX8_sell 47 = .ok (.if_icmp .lt 57, 3) := by decide +kernel
theorem dX8_sell_50 : decode cX8_sell 50 = .ok (.iload_n 3, 1) := by decide +kernel
theorem dX8_sell_51 : decode cX8_sell 51 = .ok (.bipush 100, 2) := by decide +kernel
theorem dX8_sell_53 : decode cX8_sell 53 = .ok (.aload_n 0, 1) := by decide +kernel
theorem dX8_sell_54 : decode cX8_sell 54 = .ok (.getfield 19, 3) := by decide +kernel
theorem dX8_sell_57 : decode cX8_sell 57 = .ok (.getfield 111, 3) := by decide +kernel
theorem dX8_sell_60 : decode cX8_sell 60 = .ok (.isub, 1) := by decide +kernel
theorem dX8_sell_61 : decode cX8_sell 61 = .ok (.imul, 1) := by decide +kernel
theorem dX8_sell_62 : decode cX8_sell 62 = .ok (.bipush 100, 2) := by decide +kernel
theorem dX8_sell_64 : decode cX8_sell 64 = .ok (.idiv, 1) := by decide +kernel
theorem dX8_sell_65 : decode cX8_sell 65 = .ok (.istore 6, 2) := by decide +kernel
theorem dX8_sell_67 : decode cX8_sell 67 = .ok (.aload_n 0, 1) := by decide +kernel
theorem dX8_sell_68 : decode cX8_sell 68 = .ok (.getfield 19, 3) := by decide +kernel
theorem dX8_sell_71 : decode cX8_sell 71 = .ok (.getfield 164, 3) := by decide +kernel
theorem dX8_sell_74 : decode cX8_sell 74 = .ok (.iload 5, 2) := by decide +kernel
theorem dX8_sell_76 : decode cX8_sell 76 = .ok (.iaload, 1) := by decide +kernel
theorem dX8_sell_77 : decode cX8_sell 77 = .ok (.istore 7, 2) := by decide +kernel
theorem dX8_sell_79 : decode cX8_sell 79 = .ok (.iload 7, 2) := by decide +kernel
theorem dX8_sell_81 : decode cX8_sell 81 = .ok (.iload 6, 2) := by decide +kernel
theorem dX8_sell_83 : decode cX8_sell 83 = .ok (.if_icmp .lt 7, 3) := by decide +kernel
theorem dX8_sell_86 : decode cX8_sell 86 = .ok (.iload 5, 2) := by decide +kernel
theorem dX8_sell_88 : decode cX8_sell 88 = .ok (.istore 4, 2) := by decide +kernel
theorem dX8_sell_90 : decode cX8_sell 90 = .ok (.iload 7, 2) := by decide +kernel
theorem dX8_sell_92 : decode cX8_sell 92 = .ok (.iload 6, 2) := by decide +kernel
theorem dX8_sell_94 : decode cX8_sell 94 = .ok (.invokestatic 219, 3) := by decide +kernel
theorem dX8_sell_97 : decode cX8_sell 97 = .ok (.istore_n 3, 1) := by decide +kernel
theorem dX8_sell_98 : decode cX8_sell 98 = .ok (.iinc 5 (-1), 3) := by decide +kernel
theorem dX8_sell_101 : decode cX8_sell 101 = .ok (.goto (-57), 3) := by decide +kernel
theorem dX8_sell_104 : decode cX8_sell 104 = .ok (.iload_n 2, 1) := by decide +kernel
theorem dX8_sell_105 : decode cX8_sell 105 = .ok (.ifCond .ne 7, 3) := by decide +kernel
theorem dX8_sell_108 : decode cX8_sell 108 = .ok (.iload_n 3, 1) := by decide +kernel
theorem dX8_sell_109 : decode cX8_sell 109 = .ok (.goto 5, 3) := by decide +kernel
theorem dX8_sell_112 : decode cX8_sell 112 = .ok (.iload 4, 2) := by decide +kernel
theorem dX8_sell_114 : decode cX8_sell 114 = .ok (.ireturn, 1) := by decide +kernel
set_option maxRecDepth 20000 in
theorem ggX8_homeOrder_X8_soonest : GoodIn wsX8_homeOrder wsX8_soonest := goodIn_r _ [7, 8, 2, 9, 10, 11, 12, 13, 14, 15, 16, 17, 18, 19, 27, 28, 29, 30, 31, 32, 33, 34, 35, 36, 37, 38] (by decide +kernel) (by decide +kernel)
set_option maxRecDepth 20000 in
theorem gX8_homeOrder_X8_soonest : GoodIn wsX8_homeOrder (wsV RX8 222 RX8 yX8_soonest wsX8_soonest) := goodIn_app (goodIn_of _ (by decide +kernel)) ggX8_homeOrder_X8_soonest
theorem dX8_homeOrder_0 : decode cX8_homeOrder 0 = .ok (.aload_n 0, 1) := by decide +kernel
theorem dX8_homeOrder_1 : decode cX8_homeOrder 1 = .ok (.getfield 29, 3) := by decide +kernel
theorem dX8_homeOrder_4 : decode cX8_homeOrder 4 = .ok (.getfield 132, 3) := by decide +kernel
theorem dX8_homeOrder_7 : decode cX8_homeOrder 7 = .ok (.istore_n 2, 1) := by decide +kernel
theorem dX8_homeOrder_8 : decode cX8_homeOrder 8 = .ok (.iconst 0, 1) := by decide +kernel
theorem dX8_homeOrder_9 : decode cX8_homeOrder 9 = .ok (.istore_n 3, 1) := by decide +kernel
theorem dX8_homeOrder_10 : decode cX8_homeOrder 10 = .ok (.iconst 0, 1) := by decide +kernel
theorem dX8_homeOrder_11 : decode cX8_homeOrder 11 = .ok (.istore 4, 2) := by decide +kernel
theorem dX8_homeOrder_13 : decode cX8_homeOrder 13 = .ok (.iconst 0, 1) := by decide +kernel
theorem dX8_homeOrder_14 : decode cX8_homeOrder 14 = .ok (.istore 5, 2) := by decide +kernel
theorem dX8_homeOrder_16 : decode cX8_homeOrder 16 = .ok (.iload 5, 2) := by decide +kernel
theorem dX8_homeOrder_18 : decode cX8_homeOrder 18 = .ok (.bipush 6, 2) := by decide +kernel
theorem dX8_homeOrder_20 : decode cX8_homeOrder 20 = .ok (.if_icmp .ge 57, 3) := by decide +kernel
theorem dX8_homeOrder_23 : decode cX8_homeOrder 23 = .ok (.iload_n 2, 1) := by decide +kernel
theorem dX8_homeOrder_24 : decode cX8_homeOrder 24 = .ok (.ifCond .eq 53, 3) := by decide +kernel
theorem dX8_homeOrder_27 : decode cX8_homeOrder 27 = .ok (.aload_n 0, 1) := by decide +kernel
theorem dX8_homeOrder_28 : decode cX8_homeOrder 28 = .ok (.iload_n 2, 1) := by decide +kernel
theorem dX8_homeOrder_29 : decode cX8_homeOrder 29 = .ok (.invokevirtual 222, 3) := by decide +kernel
theorem dX8_homeOrder_32 : decode cX8_homeOrder 32 = .ok (.istore 6, 2) := by decide +kernel
theorem dX8_homeOrder_34 : decode cX8_homeOrder 34 = .ok (.iload 5, 2) := by decide +kernel
theorem dX8_homeOrder_36 : decode cX8_homeOrder 36 = .ok (.iload_n 1, 1) := by decide +kernel
theorem dX8_homeOrder_37 : decode cX8_homeOrder 37 = .ok (.if_icmp .ne 6, 3) := by decide +kernel
theorem dX8_homeOrder_40 : decode cX8_homeOrder 40 = .ok (.iload 6, 2) := by decide +kernel
theorem dX8_homeOrder_42 : decode cX8_homeOrder 42 = .ok (.ireturn, 1) := by decide +kernel
theorem dX8_homeOrder_43 : decode cX8_homeOrder 43 = .ok (.iload_n 3, 1) := by decide +kernel
theorem dX8_homeOrder_44 : decode cX8_homeOrder 44 = .ok (.aload_n 0, 1) := by decide +kernel
theorem dX8_homeOrder_45 : decode cX8_homeOrder 45 = .ok (.getfield 19, 3) := by decide +kernel
theorem dX8_homeOrder_48 : decode cX8_homeOrder 48 = .ok (.getfield 225, 3) := by decide +kernel
theorem dX8_homeOrder_51 : decode cX8_homeOrder 51 = .ok (.iload 6, 2) := by decide +kernel
theorem dX8_homeOrder_53 : decode cX8_homeOrder 53 = .ok (.iaload, 1) := by decide +kernel
theorem dX8_homeOrder_54 : decode cX8_homeOrder 54 = .ok (.iadd, 1) := by decide +kernel
theorem dX8_homeOrder_55 : decode cX8_homeOrder 55 = .ok (.istore_n 3, 1) := by decide +kernel
theorem dX8_homeOrder_56 : decode cX8_homeOrder 56 = .ok (.iload 4, 2) := by decide +kernel
theorem dX8_homeOrder_58 : decode cX8_homeOrder 58 = .ok (.iload_n 3, 1) := by decide +kernel
theorem dX8_homeOrder_59 : decode cX8_homeOrder 59 = .ok (.iadd, 1) := by decide +kernel
theorem dX8_homeOrder_60 : decode cX8_homeOrder 60 = .ok (.istore 4, 2) := by decide +kernel
theorem dX8_homeOrder_62 : decode cX8_homeOrder 62 = .ok (.iload_n 2, 1) := by decide +kernel
theorem dX8_homeOrder_63 : decode cX8_homeOrder 63 = .ok (.iconst 1, 1) := by decide +kernel
theorem dX8_homeOrder_64 : decode cX8_homeOrder 64 = .ok (.iload 6, 2) := by decide +kernel
theorem dX8_homeOrder_66 : decode cX8_homeOrder 66 = .ok (.ishl, 1) := by decide +kernel
theorem dX8_homeOrder_67 : decode cX8_homeOrder 67 = .ok (.iconst (-1), 1) := by decide +kernel
theorem dX8_homeOrder_68 : decode cX8_homeOrder 68 = .ok (.ixor, 1) := by decide +kernel
theorem dX8_homeOrder_69 : decode cX8_homeOrder 69 = .ok (.iand, 1) := by decide +kernel
theorem dX8_homeOrder_70 : decode cX8_homeOrder 70 = .ok (.istore_n 2, 1) := by decide +kernel
theorem dX8_homeOrder_71 : decode cX8_homeOrder 71 = .ok (.iinc 5 1, 3) := by decide +kernel
theorem dX8_homeOrder_74 : decode cX8_homeOrder 74 = .ok (.goto (-58), 3) := by decide +kernel
theorem dX8_homeOrder_77 : decode cX8_homeOrder 77 = .ok (.iload_n 1, 1) := by decide +kernel
theorem dX8_homeOrder_78 : decode cX8_homeOrder 78 = .ok (.iconst (-1), 1) := by decide +kernel
theorem dX8_homeOrder_79 : decode cX8_homeOrder 79 = .ok (.if_icmp .ne 8, 3) := by decide +kernel
theorem dX8_homeOrder_82 : decode cX8_homeOrder 82 = .ok (.iload 4, 2) := by decide +kernel
theorem dX8_homeOrder_84 : decode cX8_homeOrder 84 = .ok (.goto 4, 3) := by decide +kernel
theorem dX8_homeOrder_87 : decode cX8_homeOrder 87 = .ok (.iconst (-1), 1) := by decide +kernel
theorem dX8_homeOrder_88 : decode cX8_homeOrder 88 = .ok (.ireturn, 1) := by decide +kernel
set_option maxRecDepth 20000 in
theorem ggX8_letters_X8_isPercent : GoodIn wsX8_letters wsX8_isPercent := goodIn_r _ [6] (by decide +kernel) (by decide +kernel)
set_option maxRecDepth 20000 in
theorem gX8_letters_X8_isPercent : GoodIn wsX8_letters (va_wsS RX8 228 yX8_isPercent wsX8_isPercent) := goodIn_app (goodIn_of _ (by decide +kernel)) ggX8_letters_X8_isPercent
set_option maxRecDepth 20000 in
theorem ggX8_letters_X8_behindLetters : GoodIn wsX8_letters wsX8_behindLetters := goodIn_r _ [9, 10, 11] (by decide +kernel) (by decide +kernel)
set_option maxRecDepth 20000 in
theorem gX8_letters_X8_behindLetters : GoodIn wsX8_letters (va_wsS RX8 231 yX8_behindLetters wsX8_behindLetters) := goodIn_app (goodIn_of _ (by decide +kernel)) ggX8_letters_X8_behindLetters
theorem dX8_letters_0 : decode cX8_letters 0 = .ok (.iload_n 1, 1) := by decide +kernel
theorem dX8_letters_1 : decode cX8_letters 1 = .ok (.invokestatic 228, 3) := by decide +kernel
theorem dX8_letters_4 : decode cX8_letters 4 = .ok (.ifCond .eq 17, 3) := by decide +kernel
theorem dX8_letters_7 : decode cX8_letters 7 = .ok (.iload_n 2, 1) := by decide +kernel
theorem dX8_letters_8 : decode cX8_letters 8 = .ok (.invokestatic 228, 3) := by decide +kernel
theorem dX8_letters_11 : decode cX8_letters 11 = .ok (.ifCond .eq 10, 3) := by decide +kernel
theorem dX8_letters_14 : decode cX8_letters 14 = .ok (.iload_n 3, 1) := by decide +kernel
theorem dX8_letters_15 : decode cX8_letters 15 = .ok (.invokestatic 228, 3) := by decide +kernel
theorem dX8_letters_18 : decode cX8_letters 18 = .ok (.ifCond .ne 6, 3) := by decide +kernel
theorem dX8_letters_21 : decode cX8_letters 21 = .ok (.ldc 71, 2) := by decide +kernel
theorem dX8_letters_23 : decode cX8_letters 23 = .ok (.ireturn, 1) := by decide +kernel
theorem dX8_letters_24 : decode cX8_letters 24 = .ok (.iload 4, 2) := by decide +kernel
theorem dX8_letters_26 : decode cX8_letters 26 = .ok (.ifCond .lt 22, 3) := by decide +kernel
theorem dX8_letters_29 : decode cX8_letters 29 = .ok (.iload 4, 2) := by decide +kernel
theorem dX8_letters_31 : decode cX8_letters 31 = .ok (.bipush 9, 2) := by decide +kernel
theorem dX8_letters_33 : decode cX8_letters 33 = .ok (.if_icmp .gt 15, 3) := by decide +kernel
theorem dX8_letters_36 : decode cX8_letters 36 = .ok (.iload 5, 2) := by decide +kernel
theorem dX8_letters_38 : decode cX8_letters 38 = .ok (.ifCond .lt 10, 3) := by decide +kernel
theorem dX8_letters_41 : decode cX8_letters 41 = .ok (.iload 5, 2) := by decide +kernel
theorem dX8_letters_43 : decode cX8_letters 43 = .ok (.iload 4, 2) := by decide +kernel
theorem dX8_letters_45 : decode cX8_letters 45 = .ok (.if_icmp .le 6, 3) := by decide +kernel
theorem dX8_letters_48 : decode cX8_letters 48 = .ok (.ldc 71, 2) := by decide +kernel
theorem dX8_letters_50 : decode cX8_letters 50 = .ok (.ireturn, 1) := by decide +kernel
theorem dX8_letters_51 : decode cX8_letters 51 = .ok (.iload_n 1, 1) := by decide +kernel
theorem dX8_letters_52 : decode cX8_letters 52 = .ok (.iload_n 2, 1) := by decide +kernel
theorem dX8_letters_53 : decode cX8_letters 53 = .ok (.iload 4, 2) := by decide +kernel
theorem dX8_letters_55 : decode cX8_letters 55 = .ok (.iload 5, 2) := by decide +kernel
theorem dX8_letters_57 : decode cX8_letters 57 = .ok (.invokestatic 231, 3) := by decide +kernel
theorem dX8_letters_60 : decode cX8_letters 60 = .ok (.lstore 6, 2) := by decide +kernel
theorem dX8_letters_62 : decode cX8_letters 62 = .ok (.lload 6, 2) := by decide +kernel
theorem dX8_letters_64 : decode cX8_letters 64 = .ok (.bipush 100, 2) := by decide +kernel
theorem dX8_letters_66 : decode cX8_letters 66 = .ok (.iload_n 1, 1) := by decide +kernel
theorem dX8_letters_67 : decode cX8_letters 67 = .ok (.isub, 1) := by decide +kernel
theorem dX8_letters_68 : decode cX8_letters 68 = .ok (.iload_n 3, 1) := by decide +kernel
theorem dX8_letters_69 : decode cX8_letters 69 = .ok (.iload 4, 2) := by decide +kernel
theorem dX8_letters_71 : decode cX8_letters 71 = .ok (.iload 5, 2) := by decide +kernel
theorem dX8_letters_73 : decode cX8_letters 73 = .ok (.invokestatic 231, 3) := by decide +kernel
theorem dX8_letters_76 : decode cX8_letters 76 = .ok (.ladd, 1) := by decide +kernel
theorem dX8_letters_77 : decode cX8_letters 77 = .ok (.lstore 8, 2) := by decide +kernel
theorem dX8_letters_79 : decode cX8_letters 79 = .ok (.lload 8, 2) := by decide +kernel
theorem dX8_letters_81 : decode cX8_letters 81 = .ok (.lconst 0, 1) := by decide +kernel
theorem dX8_letters_82 : decode cX8_letters 82 = .ok (.lcmp, 1) := by decide +kernel
theorem dX8_letters_83 : decode cX8_letters 83 = .ok (.ifCond .ne 7, 3) := by decide +kernel
theorem dX8_letters_86 : decode cX8_letters 86 = .ok (.iconst 0, 1) := by decide +kernel
theorem dX8_letters_87 : decode cX8_letters 87 = .ok (.goto 13, 3) := by decide +kernel
theorem dX8_letters_90 : decode cX8_letters 90 = .ok (.lload 6, 2) := by decide +kernel
theorem dX8_letters_92 : decode cX8_letters 92 = .ok (.ldc2_w 235, 3) := by decide +kernel
theorem dX8_letters_95 : decode cX8_letters 95 = .ok (.lmul, 1) := by decide +kernel
theorem dX8_letters_96 : decode cX8_letters 96 = .ok (.lload 8, 2) := by decide +kernel
theorem dX8_letters_98 : decode cX8_letters 98 = .ok (.ldiv, 1) := by decide +kernel
theorem dX8_letters_99 : decode cX8_letters 99 = .ok (.l2i, 1) := by decide +kernel
theorem dX8_letters_100 : decode cX8_letters 100 = .ok (.ireturn, 1) := by decide +kernel
set_option maxRecDepth 20000 in
theorem ggX8_spared_X8_isRate : GoodIn wsX8_spared wsX8_isRate := goodIn_r _ [6] (by decide +kernel) (by decide +kernel)
set_option maxRecDepth 20000 in
theorem gX8_spared_X8_isRate : GoodIn wsX8_spared (va_wsS RX8 167 yX8_isRate wsX8_isRate) := goodIn_app (goodIn_of _ (by decide +kernel)) ggX8_spared_X8_isRate
set_option maxRecDepth 20000 in
theorem ggX8_spared_X8_isMuch : GoodIn wsX8_spared wsX8_isMuch := goodIn_r _ [9] (by decide +kernel) (by decide +kernel)
set_option maxRecDepth 20000 in
theorem gX8_spared_X8_isMuch : GoodIn wsX8_spared (va_wsS RX8 206 yX8_isMuch wsX8_isMuch) := goodIn_app (goodIn_of _ (by decide +kernel)) ggX8_spared_X8_isMuch
set_option maxRecDepth 20000 in
theorem ggX8_spared_J6_bitCount_0f7a4 : GoodIn wsX8_spared wsJ6_bitCount_0f7a4 := goodIn_r _ [13, 14, 15, 16] (by decide +kernel) (by decide +kernel)
set_option maxRecDepth 20000 in
theorem gX8_spared_J6_bitCount_0f7a4 : GoodIn wsX8_spared (va_wsS RX8 237 yJ6_bitCount_0f7a4 wsJ6_bitCount_0f7a4) := goodIn_app (goodIn_of _ (by decide +kernel)) ggX8_spared_J6_bitCount_0f7a4
set_option maxRecDepth 20000 in
theorem ggX8_spared_X8_comesBy : GoodIn wsX8_spared wsX8_comesBy := goodIn_r _ [20, 2, 21, 22, 23, 5, 24, 25, 26, 27, 28, 29, 30, 31, 32, 33, 34, 35, 36, 37, 38, 39, 40, 41, 42, 43, 44, 45, 46, 47, 48, 49, 50, 51, 52, 53, 54, 55, 56, 57, 58, 59, 60, 61] (by decide +kernel) (by decide +kernel)
set_option maxRecDepth 20000 in
theorem gX8_spared_X8_comesBy : GoodIn wsX8_spared (wsV RX8 203 RX8 yX8_comesBy wsX8_comesBy) := goodIn_app (goodIn_of _ (by decide +kernel)) ggX8_spared_X8_comesBy
theorem dX8_spared_0 : decode cX8_spared 0 = .ok (.iload_n 1, 1) := by decide +kernel
theorem dX8_spared_1 : decode cX8_spared 1 = .ok (.invokestatic 167, 3) := by decide +kernel
theorem dX8_spared_4 : decode cX8_spared 4 = .ok (.ifCond .eq 10, 3) := by decide +kernel
theorem dX8_spared_7 : decode cX8_spared 7 = .ok (.iload_n 2, 1) := by decide +kernel
theorem dX8_spared_8 : decode cX8_spared 8 = .ok (.invokestatic 206, 3) := by decide +kernel
theorem dX8_spared_11 : decode cX8_spared 11 = .ok (.ifCond .ne 6, 3) := by decide +kernel
theorem dX8_spared_14 : decode cX8_spared 14 = .ok (.ldc 71, 2) := by decide +kernel
theorem dX8_spared_16 : decode cX8_spared 16 = .ok (.ireturn, 1) := by decide +kernel
theorem dX8_spared_17 : decode cX8_spared 17 = .ok (.iconst (-1), 1) := by decide +kernel
theorem dX8_spared_18 : decode cX8_spared 18 = .ok (.istore_n 3, 1) := by decide +kernel
theorem dX8_spared_19 : decode cX8_spared 19 = .ok (.iconst (-1), 1) := by decide +kernel
theorem dX8_spared_20 : decode cX8_spared 20 = .ok (.istore 4, 2) := by decide +kernel
theorem dX8_spared_22 : decode cX8_spared 22 = .ok (.iconst 0, 1) := by decide +kernel
theorem dX8_spared_23 : decode cX8_spared 23 = .ok (.istore 5, 2) := by decide +kernel
theorem dX8_spared_25 : decode cX8_spared 25 = .ok (.iload 5, 2) := by decide +kernel
theorem dX8_spared_27 : decode cX8_spared 27 = .ok (.iconst 1, 1) := by decide +kernel
theorem dX8_spared_28 : decode cX8_spared 28 = .ok (.aload_n 0, 1) := by decide +kernel
theorem dX8_spared_29 : decode cX8_spared 29 = .ok (.getfield 19, 3) := by decide +kernel
theorem dX8_spared_32 : decode cX8_spared 32 = .ok (.getfield 102, 3) := by decide +kernel
theorem dX8_spared_35 : decode cX8_spared 35 = .ok (.ishl, 1) := by decide +kernel
theorem dX8_spared_36 : decode cX8_spared 36 = .ok (.if_icmp .ge 41, 3) := by decide +kernel
theorem dX8_spared_39 : decode cX8_spared 39 = .ok (.iload 5, 2) := by decide +kernel
theorem dX8_spared_41 : decode cX8_spared 41 = .ok (.invokestatic 237, 3) := by decide +kernel
theorem dX8_spared_44 : decode cX8_spared 44 = .ok (.istore 6, 2) := by decide +kernel
theorem dX8_spared_46 : decode cX8_spared 46 = .ok (.iload 6, 2) := by decide +kernel
theorem dX8_spared_48 : decode cX8_spared 48 = .ok (.iload 4, 2) := by decide +kernel
theorem dX8_spared_50 : decode cX8_spared 50 = .ok (.if_icmp .le 21, 3) := by decide +kernel
theorem dX8_spared_53 : decode cX8_spared 53 = .ok (.aload_n 0, 1) := by decide +kernel
theorem dX8_spared_54 : decode cX8_spared 54 = .ok (.iload_n 1, 1) := by decide +kernel
theorem dX8_spared_55 : decode cX8_spared 55 = .ok (.iload 5, 2) := by decide +kernel
theorem dX8_spared_57 : decode cX8_spared 57 = .ok (.invokevirtual 203, 3) := by decide +kernel
theorem dX8_spared_60 : decode cX8_spared 60 = .ok (.iload_n 2, 1) := by decide +kernel
theorem dX8_spared_61 : decode cX8_spared 61 = .ok (.if_icmp .lt 10, 3) := by decide +kernel
theorem dX8_spared_64 : decode cX8_spared 64 = .ok (.iload 6, 2) := by decide +kernel
theorem dX8_spared_66 : decode cX8_spared 66 = .ok (.istore 4, 2) := by decide +kernel
theorem dX8_spared_68 : decode cX8_spared 68 = .ok (.iload 5, 2) := by decide +kernel
theorem dX8_spared_70 : decode cX8_spared 70 = .ok (.istore_n 3, 1) := by decide +kernel
theorem dX8_spared_71 : decode cX8_spared 71 = .ok (.iinc 5 1, 3) := by decide +kernel
theorem dX8_spared_74 : decode cX8_spared 74 = .ok (.goto (-49), 3) := by decide +kernel
theorem dX8_spared_77 : decode cX8_spared 77 = .ok (.iload_n 3, 1) := by decide +kernel
theorem dX8_spared_78 : decode cX8_spared 78 = .ok (.ireturn, 1) := by decide +kernel
theorem dX8_lives_0 : decode cX8_lives 0 = .ok (.iload_n 1, 1) := by decide +kernel
theorem dX8_lives_1 : decode cX8_lives 1 = .ok (.ifCond .lt 9, 3) := by decide +kernel
theorem dX8_lives_4 : decode cX8_lives 4 = .ok (.iload_n 1, 1) := by decide +kernel
theorem dX8_lives_5 : decode cX8_lives 5 = .ok (.bipush 60, 2) := by decide +kernel
theorem dX8_lives_7 : decode cX8_lives 7 = .ok (.if_icmp .le 6, 3) := by decide +kernel
theorem dX8_lives_10 : decode cX8_lives 10 = .ok (.ldc 71, 2) := by decide +kernel
theorem dX8_lives_12 : decode cX8_lives 12 = .ok (.ireturn, 1) := by decide +kernel
theorem dX8_lives_13 : decode cX8_lives 13 = .ok (.ldc 242, 2) := by decide +kernel
theorem dX8_lives_15 : decode cX8_lives 15 = .ok (.istore_n 2, 1) := by decide +kernel
theorem dX8_lives_16 : decode cX8_lives 16 = .ok (.iconst 0, 1) := by decide +kernel
theorem dX8_lives_17 : decode cX8_lives 17 = .ok (.istore_n 3, 1) := by decide +kernel
theorem dX8_lives_18 : decode cX8_lives 18 = .ok (.iload_n 3, 1) := by decide +kernel
theorem dX8_lives_19 : decode cX8_lives 19 = .ok (.iload_n 1, 1) := by decide +kernel
theorem dX8_lives_20 : decode cX8_lives 20 = .ok (.if_icmp .ge 25, 3) := by decide +kernel
theorem dX8_lives_23 : decode cX8_lives 23 = .ok (.iload_n 2, 1) := by decide +kernel
theorem dX8_lives_24 : decode cX8_lives 24 = .ok (.bipush 100, 2) := by decide +kernel
theorem dX8_lives_26 : decode cX8_lives 26 = .ok (.aload_n 0, 1) := by decide +kernel
theorem dX8_lives_27 : decode cX8_lives 27 = .ok (.getfield 19, 3) := by decide +kernel
theorem dX8_lives_30 : decode cX8_lives 30 = .ok (.getfield 111, 3) := by decide +kernel
theorem dX8_lives_33 : decode cX8_lives 33 = .ok (.isub, 1) := by decide +kernel
theorem dX8_lives_34 : decode cX8_lives 34 = .ok (.imul, 1) := by decide +kernel
theorem dX8_lives_35 : decode cX8_lives 35 = .ok (.bipush 100, 2) := by decide +kernel
theorem dX8_lives_37 : decode cX8_lives 37 = .ok (.idiv, 1) := by decide +kernel
theorem dX8_lives_38 : decode cX8_lives 38 = .ok (.istore_n 2, 1) := by decide +kernel
theorem dX8_lives_39 : decode cX8_lives 39 = .ok (.iinc 3 1, 3) := by decide +kernel
theorem dX8_lives_42 : decode cX8_lives 42 = .ok (.goto (-24), 3) := by decide +kernel
theorem dX8_lives_45 : decode cX8_lives 45 = .ok (.iload_n 2, 1) := by decide +kernel
theorem dX8_lives_46 : decode cX8_lives 46 = .ok (.ireturn, 1) := by decide +kernel
set_option maxRecDepth 20000 in
theorem ggX8_monthsTo_X8_isKept : GoodIn wsX8_monthsTo wsX8_isKept := goodIn_r _ [9, 4, 3, 44, 45, 46, 47, 48, 49, 50, 51, 52, 53, 54, 62, 63, 64, 65, 66, 67, 68, 69, 70, 71, 72, 73, 55, 56, 57, 58, 59, 60, 61] (by decide +kernel) (by decide +kernel)
set_option maxRecDepth 20000 in
theorem gX8_monthsTo_X8_isKept : GoodIn wsX8_monthsTo (wsV RX8 181 RX8 yX8_isKept wsX8_isKept) := goodIn_app (goodIn_of _ (by decide +kernel)) ggX8_monthsTo_X8_isKept
set_option maxRecDepth 20000 in
theorem ggX8_monthsTo_X5_become : GoodIn wsX8_monthsTo wsX5_become := goodIn_r _ [13, 14, 15, 16, 17, 18, 19, 20, 55, 56, 57, 58, 59, 60, 61] (by decide +kernel) (by decide +kernel)
set_option maxRecDepth 20000 in
theorem gX8_monthsTo_X5_become_n243 : GoodIn wsX8_monthsTo (wsX5_become) := ggX8_monthsTo_X5_become
set_option maxRecDepth 20000 in
theorem ggX8_monthsTo_X5_cost : GoodIn wsX8_monthsTo wsX5_cost := goodIn_r _ [23, 14, 17, 24, 25, 26, 27, 28, 29, 30, 31, 32, 33, 34, 55, 56, 57, 58, 59, 60, 61] (by decide +kernel) (by decide +kernel)
set_option maxRecDepth 20000 in
theorem gX8_monthsTo_X5_cost_n192 : GoodIn wsX8_monthsTo (wsX5_cost) := ggX8_monthsTo_X5_cost
set_option maxRecDepth 20000 in
theorem ggX8_monthsTo_X5_passMonth : GoodIn wsX8_monthsTo wsX5_passMonth := goodIn_r _ [37, 19, 20, 16, 15, 38, 8, 39, 40, 41, 42, 43, 25, 26, 27, 62, 63, 64, 65, 66, 67, 68, 69, 70, 71, 72, 73, 55, 56, 57, 58, 59, 60, 61] (by decide +kernel) (by decide +kernel)
set_option maxRecDepth 20000 in
theorem gX8_monthsTo_X5_passMonth_n178 : GoodIn wsX8_monthsTo (wsX5_passMonth) := ggX8_monthsTo_X5_passMonth
theorem dX8_monthsTo_0 : decode cX8_monthsTo 0 = .ok (.aload_n 0, 1) := by decide +kernel
theorem dX8_monthsTo_1 : decode cX8_monthsTo 1 = .ok (.invokevirtual 181, 3) := by decide +kernel
theorem dX8_monthsTo_4 : decode cX8_monthsTo 4 = .ok (.ifCond .ne 6, 3) := by decide +kernel
theorem dX8_monthsTo_7 : decode cX8_monthsTo 7 = .ok (.ldc 185, 2) := by decide +kernel
theorem dX8_monthsTo_9 : decode cX8_monthsTo 9 = .ok (.ireturn, 1) := by decide +kernel
theorem dX8_monthsTo_10 : decode cX8_monthsTo 10 = .ok (.aload_n 0, 1) := by decide +kernel
theorem dX8_monthsTo_11 : decode cX8_monthsTo 11 = .ok (.getfield 33, 3) := by decide +kernel
theorem dX8_monthsTo_14 : decode cX8_monthsTo 14 = .ok (.aload_n 0, 1) := by decide +kernel
theorem dX8_monthsTo_15 : decode cX8_monthsTo 15 = .ok (.getfield 29, 3) := by decide +kernel
theorem dX8_monthsTo_18 : decode cX8_monthsTo 18 = .ok (.invokevirtual 243, 3) := by decide +kernel
theorem dX8_monthsTo_21 : decode cX8_monthsTo 21 = .ok (.aload_n 0, 1) := by decide +kernel
theorem dX8_monthsTo_22 : decode cX8_monthsTo 22 = .ok (.getfield 33, 3) := by decide +kernel
theorem dX8_monthsTo_25 : decode cX8_monthsTo 25 = .ok (.invokevirtual 192, 3) := by decide +kernel
theorem dX8_monthsTo_28 : decode cX8_monthsTo 28 = .ok (.istore_n 1, 1) := by decide +kernel
theorem dX8_monthsTo_29 : decode cX8_monthsTo 29 = .ok (.iconst 0, 1) := by decide +kernel
theorem dX8_monthsTo_30 : decode cX8_monthsTo 30 = .ok (.istore_n 2, 1) := by decide +kernel
theorem dX8_monthsTo_31 : decode cX8_monthsTo 31 = .ok (.iload_n 2, 1) := by decide +kernel
theorem dX8_monthsTo_32 : decode cX8_monthsTo 32 = .ok (.bipush 99, 2) := by decide +kernel
theorem dX8_monthsTo_34 : decode cX8_monthsTo 34 = .ok (.if_icmp .gt 33, 3) := by decide +kernel
theorem dX8_monthsTo_37 : decode cX8_monthsTo 37 = .ok (.aload_n 0, 1) := by decide +kernel
theorem dX8_monthsTo_38 : decode cX8_monthsTo 38 = .ok (.getfield 33, 3) := by decide +kernel
theorem dX8_monthsTo_41 : decode cX8_monthsTo 41 = .ok (.getfield 129, 3) := by decide +kernel
theorem dX8_monthsTo_44 : decode cX8_monthsTo 44 = .ok (.iload_n 1, 1) := by decide +kernel
theorem dX8_monthsTo_45 : decode cX8_monthsTo 45 = .ok (.if_icmp .lt 5, 3) := by decide +kernel
theorem dX8_monthsTo_48 : decode cX8_monthsTo 48 = .ok (.iload_n 2, 1) := by decide +kernel
theorem dX8_monthsTo_49 : decode cX8_monthsTo 49 = .ok (.ireturn, 1) := by decide +kernel
theorem dX8_monthsTo_50 : decode cX8_monthsTo 50 = .ok (.aload_n 0, 1) := by decide +kernel
theorem dX8_monthsTo_51 : decode cX8_monthsTo 51 = .ok (.getfield 33, 3) := by decide +kernel
theorem dX8_monthsTo_54 : decode cX8_monthsTo 54 = .ok (.aload_n 0, 1) := by decide +kernel
theorem dX8_monthsTo_55 : decode cX8_monthsTo 55 = .ok (.getfield 19, 3) := by decide +kernel
theorem dX8_monthsTo_58 : decode cX8_monthsTo 58 = .ok (.invokevirtual 178, 3) := by decide +kernel
theorem dX8_monthsTo_61 : decode cX8_monthsTo 61 = .ok (.iinc 2 1, 3) := by decide +kernel
theorem dX8_monthsTo_64 : decode cX8_monthsTo 64 = .ok (.goto (-33), 3) := by decide +kernel
theorem dX8_monthsTo_67 : decode cX8_monthsTo 67 = .ok (.iconst (-1), 1) := by decide +kernel
theorem dX8_monthsTo_68 : decode cX8_monthsTo 68 = .ok (.ireturn, 1) := by decide +kernel
set_option maxRecDepth 20000 in
theorem ggX8_weigh_X3_add : GoodIn wsX8_weigh wsX3_add := goodIn_r _ [9, 10, 11, 12, 36, 37, 38, 39, 40] (by decide +kernel) (by decide +kernel)
set_option maxRecDepth 20000 in
theorem gX8_weigh_X3_add_n246 : GoodIn wsX8_weigh (wsX3_add) := ggX8_weigh_X3_add
theorem dX8_weigh_0 : decode cX8_weigh 0 = .ok (.iload_n 1, 1) := by decide +kernel
theorem dX8_weigh_1 : decode cX8_weigh 1 = .ok (.ifCond .lt 16, 3) := by decide +kernel
theorem dX8_weigh_4 : decode cX8_weigh 4 = .ok (.iload_n 1, 1) := by decide +kernel
theorem dX8_weigh_5 : decode cX8_weigh 5 = .ok (.iconst 1, 1) := by decide +kernel
theorem dX8_weigh_6 : decode cX8_weigh 6 = .ok (.aload_n 0, 1) := by decide +kernel
theorem dX8_weigh_7 : decode cX8_weigh 7 = .ok (.getfield 19, 3) := by decide +kernel
theorem dX8_weigh_10 : decode cX8_weigh 10 = .ok (.getfield 120, 3) := by decide +kernel
theorem dX8_weigh_13 : decode cX8_weigh 13 = .ok (.ishl, 1) := by decide +kernel
theorem dX8_weigh_14 : decode cX8_weigh 14 = .ok (.if_icmp .lt 6, 3) := by decide +kernel
theorem dX8_weigh_17 : decode cX8_weigh 17 = .ok (.ldc 146, 2) := by decide +kernel
theorem dX8_weigh_19 : decode cX8_weigh 19 = .ok (.ireturn, 1) := by decide +kernel
theorem dX8_weigh_20 : decode cX8_weigh 20 = .ok (.iload_n 2, 1) := by decide +kernel
theorem dX8_weigh_21 : decode cX8_weigh 21 = .ok (.ifCond .lt 10, 3) := by decide +kernel
theorem dX8_weigh_24 : decode cX8_weigh 24 = .ok (.iload_n 2, 1) := by decide +kernel
theorem dX8_weigh_25 : decode cX8_weigh 25 = .ok (.sipush 999, 3) := by decide +kernel
theorem dX8_weigh_28 : decode cX8_weigh 28 = .ok (.if_icmp .le 6, 3) := by decide +kernel
theorem dX8_weigh_31 : decode cX8_weigh 31 = .ok (.ldc 71, 2) := by decide +kernel
theorem dX8_weigh_33 : decode cX8_weigh 33 = .ok (.ireturn, 1) := by decide +kernel
theorem dX8_weigh_34 : decode cX8_weigh 34 = .ok (.aload_n 0, 1) := by decide +kernel
theorem dX8_weigh_35 : decode cX8_weigh 35 = .ok (.getfield 52, 3) := by decide +kernel
theorem dX8_weigh_38 : decode cX8_weigh 38 = .ok (.iload_n 1, 1) := by decide +kernel
theorem dX8_weigh_39 : decode cX8_weigh 39 = .ok (.iload_n 2, 1) := by decide +kernel
theorem dX8_weigh_40 : decode cX8_weigh 40 = .ok (.invokevirtual 246, 3) := by decide +kernel
theorem dX8_weigh_43 : decode cX8_weigh 43 = .ok (.ifCond .eq 13, 3) := by decide +kernel
theorem dX8_weigh_46 : decode cX8_weigh 46 = .ok (.aload_n 0, 1) := by decide +kernel
theorem dX8_weigh_47 : decode cX8_weigh 47 = .ok (.getfield 52, 3) := by decide +kernel
theorem dX8_weigh_50 : decode cX8_weigh 50 = .ok (.getfield 138, 3) := by decide +kernel
theorem dX8_weigh_53 : decode cX8_weigh 53 = .ok (.goto 5, 3) := by decide +kernel
theorem dX8_weigh_56 : decode cX8_weigh 56 = .ok (.ldc 80, 2) := by decide +kernel
theorem dX8_weigh_58 : decode cX8_weigh 58 = .ok (.ireturn, 1) := by decide +kernel
set_option maxRecDepth 20000 in
theorem ggX8_isShort_X3_findShort : GoodIn wsX8_isShort wsX3_findShort := goodIn_r _ [6, 7, 8, 9, 10, 11, 4, 12, 13, 14, 15, 16, 17, 18, 19, 20, 21, 22, 48, 49, 50, 51, 52, 53, 54, 55, 56, 57, 58, 59, 60, 61, 62, 63, 64] (by decide +kernel) (by decide +kernel)
set_option maxRecDepth 20000 in
theorem gX8_isShort_X3_findShort_n249 : GoodIn wsX8_isShort (wsX3_findShort) := ggX8_isShort_X3_findShort
set_option maxRecDepth 20000 in
theorem ggX8_isShort_X3_nextSet : GoodIn wsX8_isShort wsX3_nextSet := goodIn_r _ [25, 7, 26, 27, 28, 4, 29, 8, 30, 31, 32, 33, 16, 17, 18, 19, 20, 21, 22, 48, 49, 50, 51, 52, 53, 54, 55, 56, 57, 58, 59, 60, 61, 62, 63, 64] (by decide +kernel) (by decide +kernel)
set_option maxRecDepth 20000 in
theorem gX8_isShort_X3_nextSet_n255 : GoodIn wsX8_isShort (wsX3_nextSet) := ggX8_isShort_X3_nextSet
set_option maxRecDepth 20000 in
theorem ggX8_isShort_X3_fitAt : GoodIn wsX8_isShort wsX3_fitAt := goodIn_r _ [36, 8, 53, 54, 55, 56, 57, 58, 59, 60, 61, 62, 63, 64, 48, 49, 50, 51, 52] (by decide +kernel) (by decide +kernel)
set_option maxRecDepth 20000 in
theorem gX8_isShort_X3_fitAt_n259 : GoodIn wsX8_isShort (wsX3_fitAt) := ggX8_isShort_X3_fitAt
theorem dX8_isShort_0 : decode cX8_isShort 0 = .ok (.aload_n 0, 1) := by decide +kernel
theorem dX8_isShort_1 : decode cX8_isShort 1 = .ok (.getfield 52, 3) := by decide +kernel
theorem dX8_isShort_4 : decode cX8_isShort 4 = .ok (.aload_n 0, 1) := by decide +kernel
theorem dX8_isShort_5 : decode cX8_isShort 5 = .ok (.getfield 19, 3) := by decide +kernel
theorem dX8_isShort_8 : decode cX8_isShort 8 = .ok (.invokevirtual 249, 3) := by decide +kernel
theorem dX8_isShort_11 : decode cX8_isShort 11 = .ok (.iload_n 1, 1) := by decide +kernel
theorem dX8_isShort_12 : decode cX8_isShort 12 = .ok (.iconst (-1), 1) := by decide +kernel
theorem dX8_isShort_13 : decode cX8_isShort 13 = .ok (.if_icmp .ne 11, 3) := by decide +kernel
theorem dX8_isShort_16 : decode cX8_isShort 16 = .ok (.aload_n 0, 1) := by decide +kernel
theorem dX8_isShort_17 : decode cX8_isShort 17 = .ok (.getfield 52, 3) := by decide +kernel
theorem dX8_isShort_20 : decode cX8_isShort 20 = .ok (.getfield 252, 3) := by decide +kernel
theorem dX8_isShort_23 : decode cX8_isShort 23 = .ok (.ireturn, 1) := by decide +kernel
theorem dX8_isShort_24 : decode cX8_isShort 24 = .ok (.iload_n 1, 1) := by decide +kernel
theorem dX8_isShort_25 : decode cX8_isShort 25 = .ok (.bipush (-2), 2) := by decide +kernel
theorem dX8_isShort_27 : decode cX8_isShort 27 = .ok (.if_icmp .ne 17, 3) := by decide +kernel
theorem dX8_isShort_30 : decode cX8_isShort 30 = .ok (.aload_n 0, 1) := by decide +kernel
theorem dX8_isShort_31 : decode cX8_isShort 31 = .ok (.getfield 52, 3) := by decide +kernel
theorem dX8_isShort_34 : decode cX8_isShort 34 = .ok (.aload_n 0, 1) := by decide +kernel
theorem dX8_isShort_35 : decode cX8_isShort 35 = .ok (.getfield 19, 3) := by decide +kernel
theorem dX8_isShort_38 : decode cX8_isShort 38 = .ok (.invokevirtual 255, 3) := by decide +kernel
theorem dX8_isShort_41 : decode cX8_isShort 41 = .ok (.goto 15, 3) := by decide +kernel
theorem dX8_isShort_44 : decode cX8_isShort 44 = .ok (.aload_n 0, 1) := by decide +kernel
theorem dX8_isShort_45 : decode cX8_isShort 45 = .ok (.getfield 52, 3) := by decide +kernel
theorem dX8_isShort_48 : decode cX8_isShort 48 = .ok (.iload_n 1, 1) := by decide +kernel
theorem dX8_isShort_49 : decode cX8_isShort 49 = .ok (.aload_n 0, 1) := by decide +kernel
theorem dX8_isShort_50 : decode cX8_isShort 50 = .ok (.getfield 19, 3) := by decide +kernel
theorem dX8_isShort_53 : decode cX8_isShort 53 = .ok (.invokevirtual 259, 3) := by decide +kernel
theorem dX8_isShort_56 : decode cX8_isShort 56 = .ok (.ireturn, 1) := by decide +kernel
set_option maxRecDepth 20000 in
theorem ggX8_write_X8_isPayer : GoodIn wsX8_write wsX8_isPayer := goodIn_r _ [9, 10, 18, 19, 20, 21, 22, 23, 24, 25, 26, 27, 28, 32, 33, 34, 35, 36, 37, 38, 39, 40, 41, 42, 43] (by decide +kernel) (by decide +kernel)
set_option maxRecDepth 20000 in
theorem gX8_write_X8_isPayer : GoodIn wsX8_write (wsV RX8 143 RX8 yX8_isPayer wsX8_isPayer) := goodIn_app (goodIn_of _ (by decide +kernel)) ggX8_write_X8_isPayer
set_option maxRecDepth 20000 in
theorem ggX8_write_X0_add : GoodIn wsX8_write wsX0_add := goodIn_r _ [14, 15, 16, 17, 29, 30, 31] (by decide +kernel) (by decide +kernel)
set_option maxRecDepth 20000 in
theorem gX8_write_X0_add_n263 : GoodIn wsX8_write (wsX0_add) := ggX8_write_X0_add
theorem dX8_write_0 : decode cX8_write 0 = .ok (.aload_n 0, 1) := by decide +kernel
theorem dX8_write_1 : decode cX8_write 1 = .ok (.iload_n 1, 1) := by decide +kernel
theorem dX8_write_2 : decode cX8_write 2 = .ok (.invokevirtual 143, 3) := by decide +kernel
theorem dX8_write_5 : decode cX8_write 5 = .ok (.ifCond .ne 6, 3) := by decide +kernel
theorem dX8_write_8 : decode cX8_write 8 = .ok (.ldc 146, 2) := by decide +kernel
theorem dX8_write_10 : decode cX8_write 10 = .ok (.ireturn, 1) := by decide +kernel
theorem dX8_write_11 : decode cX8_write 11 = .ok (.iload_n 2, 1) := by decide +kernel
theorem dX8_write_12 : decode cX8_write 12 = .ok (.ifCond .lt 10, 3) := by decide +kernel
theorem dX8_write_15 : decode cX8_write 15 = .ok (.iload_n 2, 1) := by decide +kernel
theorem dX8_write_16 : decode cX8_write 16 = .ok (.sipush 999, 3) := by decide +kernel
theorem dX8_write_19 : decode cX8_write 19 = .ok (.if_icmp .le 6, 3) := by decide +kernel
theorem dX8_write_22 : decode cX8_write 22 = .ok (.ldc 71, 2) := by decide +kernel
theorem dX8_write_24 : decode cX8_write 24 = .ok (.ireturn, 1) := by decide +kernel
theorem dX8_write_25 : decode cX8_write 25 = .ok (.aload_n 0, 1) := by decide +kernel
theorem dX8_write_26 : decode cX8_write 26 = .ok (.getfield 59, 3) := by decide +kernel
theorem dX8_write_29 : decode cX8_write 29 = .ok (.iload_n 1, 1) := by decide +kernel
theorem dX8_write_30 : decode cX8_write 30 = .ok (.iload_n 2, 1) := by decide +kernel
theorem dX8_write_31 : decode cX8_write 31 = .ok (.invokevirtual 263, 3) := by decide +kernel
theorem dX8_write_34 : decode cX8_write 34 = .ok (.ifCond .eq 13, 3) := by decide +kernel
theorem dX8_write_37 : decode cX8_write 37 = .ok (.aload_n 0, 1) := by decide +kernel
theorem dX8_write_38 : decode cX8_write 38 = .ok (.getfield 59, 3) := by decide +kernel
theorem dX8_write_41 : decode cX8_write 41 = .ok (.getfield 141, 3) := by decide +kernel
theorem dX8_write_44 : decode cX8_write 44 = .ok (.goto 5, 3) := by decide +kernel
theorem dX8_write_47 : decode cX8_write 47 = .ok (.ldc 80, 2) := by decide +kernel
theorem dX8_write_49 : decode cX8_write 49 = .ok (.ireturn, 1) := by decide +kernel
set_option maxRecDepth 20000 in
theorem ggX8_tear_X3_clear : GoodIn wsX8_tear wsX3_clear := goodIn_r _ [6, 7, 24, 25, 26, 27, 28] (by decide +kernel) (by decide +kernel)
set_option maxRecDepth 20000 in
theorem gX8_tear_X3_clear_n94 : GoodIn wsX8_tear (wsX3_clear) := ggX8_tear_X3_clear
set_option maxRecDepth 20000 in
theorem ggX8_tear_X0_clear : GoodIn wsX8_tear wsX0_clear := goodIn_r _ [11, 12, 29, 30, 31] (by decide +kernel) (by decide +kernel)
set_option maxRecDepth 20000 in
theorem gX8_tear_X0_clear_n97 : GoodIn wsX8_tear (wsX0_clear) := ggX8_tear_X0_clear
theorem dX8_tear_0 : decode cX8_tear 0 = .ok (.aload_n 0, 1) := by decide +kernel
theorem dX8_tear_1 : decode cX8_tear 1 = .ok (.getfield 52, 3) := by decide +kernel
theorem dX8_tear_4 : decode cX8_tear 4 = .ok (.getfield 138, 3) := by decide +kernel
theorem dX8_tear_7 : decode cX8_tear 7 = .ok (.aload_n 0, 1) := by decide +kernel
theorem dX8_tear_8 : decode cX8_tear 8 = .ok (.getfield 59, 3) := by decide +kernel
theorem dX8_tear_11 : decode cX8_tear 11 = .ok (.getfield 141, 3) := by decide +kernel
theorem dX8_tear_14 : decode cX8_tear 14 = .ok (.iadd, 1) := by decide +kernel
theorem dX8_tear_15 : decode cX8_tear 15 = .ok (.istore_n 1, 1) := by decide +kernel
theorem dX8_tear_16 : decode cX8_tear 16 = .ok (.aload_n 0, 1) := by decide +kernel
theorem dX8_tear_17 : decode cX8_tear 17 = .ok (.getfield 52, 3) := by decide +kernel
theorem dX8_tear_20 : decode cX8_tear 20 = .ok (.invokevirtual 94, 3) := by decide +kernel
theorem dX8_tear_23 : decode cX8_tear 23 = .ok (.aload_n 0, 1) := by decide +kernel
theorem dX8_tear_24 : decode cX8_tear 24 = .ok (.getfield 59, 3) := by decide +kernel
theorem dX8_tear_27 : decode cX8_tear 27 = .ok (.invokevirtual 97, 3) := by decide +kernel
theorem dX8_tear_30 : decode cX8_tear 30 = .ok (.iload_n 1, 1) := by decide +kernel
theorem dX8_tear_31 : decode cX8_tear 31 = .ok (.ireturn, 1) := by decide +kernel
set_option maxRecDepth 20000 in
theorem ggX8_judge_X0_firstWrong : GoodIn wsX8_judge wsX0_firstWrong := goodIn_r _ [6, 7, 8, 9, 21, 22, 23, 24, 25, 26, 27, 28, 29, 30] (by decide +kernel) (by decide +kernel)
set_option maxRecDepth 20000 in
theorem gX8_judge_X0_firstWrong_n264 : GoodIn wsX8_judge (wsX0_firstWrong) := ggX8_judge_X0_firstWrong
theorem dX8_judge_0 : decode cX8_judge 0 = .ok (.aload_n 0, 1) := by decide +kernel
theorem dX8_judge_1 : decode cX8_judge 1 = .ok (.getfield 59, 3) := by decide +kernel
theorem dX8_judge_4 : decode cX8_judge 4 = .ok (.aload_n 0, 1) := by decide +kernel
theorem dX8_judge_5 : decode cX8_judge 5 = .ok (.getfield 29, 3) := by decide +kernel
theorem dX8_judge_8 : decode cX8_judge 8 = .ok (.invokevirtual 264, 3) := by decide +kernel
theorem dX8_judge_11 : decode cX8_judge 11 = .ok (.ireturn, 1) := by decide +kernel
theorem dX8_seed_0 : decode cX8_seed 0 = .ok (.iload_n 1, 1) := by decide +kernel
theorem dX8_seed_1 : decode cX8_seed 1 = .ok (.ifCond .ge 6, 3) := by decide +kernel
theorem dX8_seed_4 : decode cX8_seed 4 = .ok (.ldc 71, 2) := by decide +kernel
theorem dX8_seed_6 : decode cX8_seed 6 = .ok (.ireturn, 1) := by decide +kernel
theorem dX8_seed_7 : decode cX8_seed 7 = .ok (.aload_n 0, 1) := by decide +kernel
theorem dX8_seed_8 : decode cX8_seed 8 = .ok (.getfield 268, 3) := by decide +kernel
theorem dX8_seed_11 : decode cX8_seed 11 = .ok (.istore_n 2, 1) := by decide +kernel
theorem dX8_seed_12 : decode cX8_seed 12 = .ok (.aload_n 0, 1) := by decide +kernel
theorem dX8_seed_13 : decode cX8_seed 13 = .ok (.iload_n 1, 1) := by decide +kernel
theorem dX8_seed_14 : decode cX8_seed 14 = .ok (.putfield 268, 3) := by decide +kernel
theorem dX8_seed_17 : decode cX8_seed 17 = .ok (.iload_n 2, 1) := by decide +kernel
theorem dX8_seed_18 : decode cX8_seed 18 = .ok (.ireturn, 1) := by decide +kernel
set_option maxRecDepth 20000 in
theorem ggX8_keep_X8_isImage : GoodIn wsX8_keep wsX8_isImage := goodIn_r _ [9] (by decide +kernel) (by decide +kernel)
set_option maxRecDepth 20000 in
theorem gX8_keep_X8_isImage : GoodIn wsX8_keep (va_wsS RX8 271 yX8_isImage wsX8_isImage) := goodIn_app (goodIn_of _ (by decide +kernel)) ggX8_keep_X8_isImage
set_option maxRecDepth 20000 in
theorem ggX8_keep_X5_become : GoodIn wsX8_keep wsX5_become := goodIn_r _ [13, 14, 15, 16, 17, 18, 19, 20, 40, 41, 42, 43, 44, 45, 46] (by decide +kernel) (by decide +kernel)
set_option maxRecDepth 20000 in
theorem gX8_keep_X5_become_n243 : GoodIn wsX8_keep (wsX5_become) := ggX8_keep_X5_become
set_option maxRecDepth 20000 in
theorem ggX8_keep_X2_forget : GoodIn wsX8_keep wsX2_forget := goodIn_r _ [24, 25, 47, 48, 49] (by decide +kernel) (by decide +kernel)
set_option maxRecDepth 20000 in
theorem gX8_keep_X2_forget_n91 : GoodIn wsX8_keep (wsX2_forget) := ggX8_keep_X2_forget
theorem dX8_keep_0 : decode cX8_keep 0 = .ok (.iload_n 1, 1) := by decide +kernel
theorem dX8_keep_1 : decode cX8_keep 1 = .ok (.invokestatic 271, 3) := by decide +kernel
theorem dX8_keep_4 : decode cX8_keep 4 = .ok (.ifCond .ne 6, 3) := by decide +kernel
theorem dX8_keep_7 : decode cX8_keep 7 = .ok (.ldc 146, 2) := by decide +kernel
theorem dX8_keep_9 : decode cX8_keep 9 = .ok (.ireturn, 1) := by decide +kernel
theorem dX8_keep_10 : decode cX8_keep 10 = .ok (.aload_n 0, 1) := by decide +kernel
theorem dX8_keep_11 : decode cX8_keep 11 = .ok (.getfield 45, 3) := by decide +kernel
theorem dX8_keep_14 : decode cX8_keep 14 = .ok (.iload_n 1, 1) := by decide +kernel
theorem dX8_keep_15 : decode cX8_keep 15 = .ok (.aaload, 1) := by decide +kernel
theorem dX8_keep_16 : decode cX8_keep 16 = .ok (.iconst 1, 1) := by decide +kernel
theorem dX8_keep_17 : decode cX8_keep 17 = .ok (.putfield 98, 3) := by decide +kernel
theorem dX8_keep_20 : decode cX8_keep 20 = .ok (.aload_n 0, 1) := by decide +kernel
theorem dX8_keep_21 : decode cX8_keep 21 = .ok (.getfield 45, 3) := by decide +kernel
theorem dX8_keep_24 : decode cX8_keep 24 = .ok (.iload_n 1, 1) := by decide +kernel
theorem dX8_keep_25 : decode cX8_keep 25 = .ok (.aaload, 1) := by decide +kernel
theorem dX8_keep_26 : decode cX8_keep 26 = .ok (.getfield 274, 3) := by decide +kernel
theorem dX8_keep_29 : decode cX8_keep 29 = .ok (.aload_n 0, 1) := by decide +kernel
theorem dX8_keep_30 : decode cX8_keep 30 = .ok (.getfield 29, 3) := by decide +kernel
theorem dX8_keep_33 : decode cX8_keep 33 = .ok (.invokevirtual 243, 3) := by decide +kernel
theorem dX8_keep_36 : decode cX8_keep 36 = .ok (.aload_n 0, 1) := by decide +kernel
theorem dX8_keep_37 : decode cX8_keep 37 = .ok (.getfield 45, 3) := by decide +kernel
theorem dX8_keep_40 : decode cX8_keep 40 = .ok (.iload_n 1, 1) := by decide +kernel
theorem dX8_keep_41 : decode cX8_keep 41 = .ok (.aaload, 1) := by decide +kernel
theorem dX8_keep_42 : decode cX8_keep 42 = .ok (.aload_n 0, 1) := by decide +kernel
theorem dX8_keep_43 : decode cX8_keep 43 = .ok (.getfield 268, 3) := by decide +kernel
theorem dX8_keep_46 : decode cX8_keep 46 = .ok (.putfield 277, 3) := by decide +kernel
theorem dX8_keep_49 : decode cX8_keep 49 = .ok (.aload_n 0, 1) := by decide +kernel
theorem dX8_keep_50 : decode cX8_keep 50 = .ok (.getfield 39, 3) := by decide +kernel
theorem dX8_keep_53 : decode cX8_keep 53 = .ok (.invokevirtual 91, 3) := by decide +kernel
theorem dX8_keep_56 : decode cX8_keep 56 = .ok (.iconst 1, 1) := by decide +kernel
theorem dX8_keep_57 : decode cX8_keep 57 = .ok (.ireturn, 1) := by decide +kernel
set_option maxRecDepth 20000 in
theorem ggX8_goBack_X8_isImage : GoodIn wsX8_goBack wsX8_isImage := goodIn_r _ [10] (by decide +kernel) (by decide +kernel)
set_option maxRecDepth 20000 in
theorem gX8_goBack_X8_isImage : GoodIn wsX8_goBack (va_wsS RX8 271 yX8_isImage wsX8_isImage) := goodIn_app (goodIn_of _ (by decide +kernel)) ggX8_goBack_X8_isImage
set_option maxRecDepth 20000 in
theorem ggX8_goBack_X5_become : GoodIn wsX8_goBack wsX5_become := goodIn_r _ [14, 15, 16, 17, 18, 19, 20, 21, 41, 42, 43, 44, 45, 46, 47] (by decide +kernel) (by decide +kernel)
set_option maxRecDepth 20000 in
theorem gX8_goBack_X5_become_n243 : GoodIn wsX8_goBack (wsX5_become) := ggX8_goBack_X5_become
set_option maxRecDepth 20000 in
theorem ggX8_goBack_X2_forget : GoodIn wsX8_goBack wsX2_forget := goodIn_r _ [25, 26, 48, 49, 50] (by decide +kernel) (by decide +kernel)
set_option maxRecDepth 20000 in
theorem gX8_goBack_X2_forget_n91 : GoodIn wsX8_goBack (wsX2_forget) := ggX8_goBack_X2_forget
theorem dX8_goBack_0 : decode cX8_goBack 0 = .ok (.iload_n 1, 1) := by decide +kernel
theorem dX8_goBack_1 : decode cX8_goBack 1 = .ok (.invokestatic 271, 3) := by decide +kernel
theorem dX8_goBack_4 : decode cX8_goBack 4 = .ok (.ifCond .ne 6, 3) := by decide +kernel
theorem dX8_goBack_7 : decode cX8_goBack 7 = .ok (.ldc 146, 2) := by decide +kernel
theorem dX8_goBack_9 : decode cX8_goBack 9 = .ok (.ireturn, 1) := by decide +kernel
theorem dX8_goBack_10 : decode cX8_goBack 10 = .ok (.aload_n 0, 1) := by decide +kernel
theorem dX8_goBack_11 : decode cX8_goBack 11 = .ok (.getfield 45, 3) := by decide +kernel
theorem dX8_goBack_14 : decode cX8_goBack 14 = .ok (.iload_n 1, 1) := by decide +kernel
theorem dX8_goBack_15 : decode cX8_goBack 15 = .ok (.aaload, 1) := by decide +kernel
theorem dX8_goBack_16 : decode cX8_goBack 16 = .ok (.getfield 98, 3) := by decide +kernel
theorem dX8_goBack_19 : decode cX8_goBack 19 = .ok (.ifCond .ne 6, 3) := by decide +kernel
theorem dX8_goBack_22 : decode cX8_goBack 22 = .ok (.ldc 185, 2) := by decide +kernel
theorem dX8_goBack_24 : decode cX8_goBack 24 = .ok (.ireturn, 1) := by decide +kernel
theorem dX8_goBack_25 : decode cX8_goBack 25 = .ok (.aload_n 0, 1) := by decide +kernel
theorem dX8_goBack_26 : decode cX8_goBack 26 = .ok (.getfield 29, 3) := by decide +kernel
theorem dX8_goBack_29 : decode cX8_goBack 29 = .ok (.aload_n 0, 1) := by decide +kernel
theorem dX8_goBack_30 : decode cX8_goBack 30 = .ok (.getfield 45, 3) := by decide +kernel
theorem dX8_goBack_33 : decode cX8_goBack 33 = .ok (.iload_n 1, 1) := by decide +kernel
theorem dX8_goBack_34 : decode cX8_goBack 34 = .ok (.aaload, 1) := by decide +kernel
theorem dX8_goBack_35 : decode cX8_goBack 35 = .ok (.getfield 274, 3) := by decide +kernel
theorem dX8_goBack_38 : decode cX8_goBack 38 = .ok (.invokevirtual 243, 3) := by decide +kernel
theorem dX8_goBack_41 : decode cX8_goBack 41 = .ok (.aload_n 0, 1) := by decide +kernel
theorem dX8_goBack_42 : decode cX8_goBack 42 = .ok (.aload_n 0, 1) := by decide +kernel
theorem dX8_goBack_43 : decode cX8_goBack 43 = .ok (.getfield 45, 3) := by decide +kernel
theorem dX8_goBack_46 : decode cX8_goBack 46 = .ok (.iload_n 1, 1) := by decide +kernel
theorem dX8_goBack_47 : decode cX8_goBack 47 = .ok (.aaload, 1) := by decide +kernel
theorem dX8_goBack_48 : decode cX8_goBack 48 = .ok (.getfield 277, 3) := by decide +kernel
theorem dX8_goBack_51 : decode cX8_goBack 51 = .ok (.putfield 268, 3) := by decide +kernel
theorem dX8_goBack_54 : decode cX8_goBack 54 = .ok (.aload_n 0, 1) := by decide +kernel
theorem dX8_goBack_55 : decode cX8_goBack 55 = .ok (.getfield 39, 3) := by decide +kernel
theorem dX8_goBack_58 : decode cX8_goBack 58 = .ok (.invokevirtual 91, 3) := by decide +kernel
theorem dX8_goBack_61 : decode cX8_goBack 61 = .ok (.iconst 1, 1) := by decide +kernel
theorem dX8_goBack_62 : decode cX8_goBack 62 = .ok (.ireturn, 1) := by decide +kernel
theorem dX8_isPayer_0 : decode cX8_isPayer 0 = .ok (.iload_n 1, 1) := by decide +kernel
theorem dX8_isPayer_1 : decode cX8_isPayer 1 = .ok (.ifCond .lt 18, 3) := by decide +kernel
theorem dX8_isPayer_4 : decode cX8_isPayer 4 = .ok (.iload_n 1, 1) := by decide +kernel
theorem dX8_isPayer_5 : decode cX8_isPayer 5 = .ok (.aload_n 0, 1) := by decide +kernel
theorem dX8_isPayer_6 : decode cX8_isPayer 6 = .ok (.getfield 19, 3) := by decide +kernel
theorem dX8_isPayer_9 : decode cX8_isPayer 9 = .ok (.getfield 102, 3) := by decide +kernel
theorem dX8_isPayer_12 : decode cX8_isPayer 12 = .ok (.if_icmp .ge 7, 3) := by decide +kernel
theorem dX8_isPayer_15 : decode cX8_isPayer 15 = .ok (.iconst 1, 1) := by decide +kernel
theorem dX8_isPayer_16 : decode cX8_isPayer 16 = .ok (.goto 4, 3) := by decide +kernel
theorem dX8_isPayer_19 : decode cX8_isPayer 19 = .ok (.iconst 0, 1) := by decide +kernel
theorem dX8_isPayer_20 : decode cX8_isPayer 20 = .ok (.ireturn, 1) := by decide +kernel
theorem dX8_isKept_0 : decode cX8_isKept 0 = .ok (.aload_n 0, 1) := by decide +kernel
theorem dX8_isKept_1 : decode cX8_isKept 1 = .ok (.getfield 19, 3) := by decide +kernel
theorem dX8_isKept_4 : decode cX8_isKept 4 = .ok (.getfield 278, 3) := by decide +kernel
theorem dX8_isKept_7 : decode cX8_isKept 7 = .ok (.ifCond .eq 17, 3) := by decide +kernel
theorem dX8_isKept_10 : decode cX8_isKept 10 = .ok (.aload_n 0, 1) := by decide +kernel
theorem dX8_isKept_11 : decode cX8_isKept 11 = .ok (.getfield 29, 3) := by decide +kernel
theorem dX8_isKept_14 : decode cX8_isKept 14 = .ok (.getfield 135, 3) := by decide +kernel
theorem dX8_isKept_17 : decode cX8_isKept 17 = .ok (.ifCond .ne 7, 3) := by decide +kernel
theorem dX8_isKept_20 : decode cX8_isKept 20 = .ok (.iconst 1, 1) := by decide +kernel
theorem dX8_isKept_21 : decode cX8_isKept 21 = .ok (.goto 4, 3) := by decide +kernel
theorem dX8_isKept_24 : decode cX8_isKept 24 = .ok (.iconst 0, 1) := by decide +kernel
theorem dX8_isKept_25 : decode cX8_isKept 25 = .ok (.ireturn, 1) := by decide +kernel
theorem dX8_isImage_0 : decode cX8_isImage 0 = .ok (.iload_n 0, 1) := by decide +kernel
theorem dX8_isImage_1 : decode cX8_isImage 1 = .ok (.ifCond .lt 12, 3) := by decide +kernel
theorem dX8_isImage_4 : decode cX8_isImage 4 = .ok (.iload_n 0, 1) := by decide +kernel
theorem dX8_isImage_5 : decode cX8_isImage 5 = .ok (.iconst 2, 1) := by decide +kernel
theorem dX8_isImage_6 : decode cX8_isImage 6 = .ok (.if_icmp .ge 7, 3) := by decide +kernel
theorem dX8_isImage_9 : decode cX8_isImage 9 = .ok (.iconst 1, 1) := by decide +kernel
theorem dX8_isImage_10 : decode cX8_isImage 10 = .ok (.goto 4, 3) := by decide +kernel
theorem dX8_isImage_13 : decode cX8_isImage 13 = .ok (.iconst 0, 1) := by decide +kernel
theorem dX8_isImage_14 : decode cX8_isImage 14 = .ok (.ireturn, 1) := by decide +kernel
theorem dX8_isRate_0 : decode cX8_isRate 0 = .ok (.iload_n 0, 1) := by decide +kernel
theorem dX8_isRate_1 : decode cX8_isRate 1 = .ok (.ifCond .lt 13, 3) := by decide +kernel
theorem dX8_isRate_4 : decode cX8_isRate 4 = .ok (.iload_n 0, 1) := by decide +kernel
theorem dX8_isRate_5 : decode cX8_isRate 5 = .ok (.bipush 100, 2) := by decide +kernel
theorem dX8_isRate_7 : decode cX8_isRate 7 = .ok (.if_icmp .gt 7, 3) := by decide +kernel
theorem dX8_isRate_10 : decode cX8_isRate 10 = .ok (.iconst 1, 1) := by decide +kernel
theorem dX8_isRate_11 : decode cX8_isRate 11 = .ok (.goto 4, 3) := by decide +kernel
theorem dX8_isRate_14 : decode cX8_isRate 14 = .ok (.iconst 0, 1) := by decide +kernel
theorem dX8_isRate_15 : decode cX8_isRate 15 = .ok (.ireturn, 1) := by decide +kernel
theorem dX8_isPercent_0 : decode cX8_isPercent 0 = .ok (.iload_n 0, 1) := by decide +kernel
theorem dX8_isPercent_1 : decode cX8_isPercent 1 = .ok (.ifCond .lt 13, 3) := by decide +kernel
theorem dX8_isPercent_4 : decode cX8_isPercent 4 = .ok (.iload_n 0, 1) := by decide +kernel
theorem dX8_isPercent_5 : decode cX8_isPercent 5 = .ok (.bipush 100, 2) := by decide +kernel
theorem dX8_isPercent_7 : decode cX8_isPercent 7 = .ok (.if_icmp .gt 7, 3) := by decide +kernel
theorem dX8_isPercent_10 : decode cX8_isPercent 10 = .ok (.iconst 1, 1) := by decide +kernel
theorem dX8_isPercent_11 : decode cX8_isPercent 11 = .ok (.goto 4, 3) := by decide +kernel
theorem dX8_isPercent_14 : decode cX8_isPercent 14 = .ok (.iconst 0, 1) := by decide +kernel
theorem dX8_isPercent_15 : decode cX8_isPercent 15 = .ok (.ireturn, 1) := by decide +kernel
theorem dX8_isMuch_0 : decode cX8_isMuch 0 = .ok (.iload_n 0, 1) := by decide +kernel
theorem dX8_isMuch_1 : decode cX8_isMuch 1 = .ok (.ifCond .lt 14, 3) := by decide +kernel
theorem dX8_isMuch_4 : decode cX8_isMuch 4 = .ok (.iload_n 0, 1) := by decide +kernel
theorem dX8_isMuch_5 : decode cX8_isMuch 5 = .ok (.sipush 9999, 3) := by decide +kernel
theorem dX8_isMuch_8 : decode cX8_isMuch 8 = .ok (.if_icmp .gt 7, 3) := by decide +kernel
theorem dX8_isMuch_11 : decode cX8_isMuch 11 = .ok (.iconst 1, 1) := by decide +kernel
theorem dX8_isMuch_12 : decode cX8_isMuch 12 = .ok (.goto 4, 3) := by decide +kernel
theorem dX8_isMuch_15 : decode cX8_isMuch 15 = .ok (.iconst 0, 1) := by decide +kernel
theorem dX8_isMuch_16 : decode cX8_isMuch 16 = .ok (.ireturn, 1) := by decide +kernel
set_option maxRecDepth 20000 in
theorem ggX8_refusalOfMonths_X8_isKept : GoodIn wsX8_refusalOfMonths wsX8_isKept := goodIn_r _ [9, 10, 3, 11, 12, 13, 14, 15, 16, 17, 18, 19, 20, 21, 29, 30, 31, 32, 33, 34, 35, 36, 37, 38, 39, 40, 22, 23, 24, 25, 26, 27, 28] (by decide +kernel) (by decide +kernel)
set_option maxRecDepth 20000 in
theorem gX8_refusalOfMonths_X8_isKept : GoodIn wsX8_refusalOfMonths (wsV RX8 181 RX8 yX8_isKept wsX8_isKept) := goodIn_app (goodIn_of _ (by decide +kernel)) ggX8_refusalOfMonths_X8_isKept
theorem dX8_refusalOfMonths_0 : decode cX8_refusalOfMonths 0 = .ok (.iload_n 1, 1) := by decide +kernel
theorem dX8_refusalOfMonths_1 : decode cX8_refusalOfMonths 1 = .ok (.iconst 1, 1) := by decide +kernel
theorem dX8_refusalOfMonths_2 : decode cX8_refusalOfMonths 2 = .ok (.if_icmp .lt 9, 3) := by decide +kernel
theorem dX8_refusalOfMonths_5 : decode cX8_refusalOfMonths 5 = .ok (.iload_n 1, 1) := by decide +kernel
theorem dX8_refusalOfMonths_6 : decode cX8_refusalOfMonths 6 = .ok (.bipush 24, 2) := by decide +kernel
theorem dX8_refusalOfMonths_8 : decode cX8_refusalOfMonths 8 = .ok (.if_icmp .le 6, 3) := by decide +kernel
theorem dX8_refusalOfMonths_11 : decode cX8_refusalOfMonths 11 = .ok (.ldc 71, 2) := by decide +kernel
theorem dX8_refusalOfMonths_13 : decode cX8_refusalOfMonths 13 = .ok (.ireturn, 1) := by decide +kernel
theorem dX8_refusalOfMonths_14 : decode cX8_refusalOfMonths 14 = .ok (.aload_n 0, 1) := by decide +kernel
theorem dX8_refusalOfMonths_15 : decode cX8_refusalOfMonths 15 = .ok (.invokevirtual 181, 3) := by decide +kernel
theorem dX8_refusalOfMonths_18 : decode cX8_refusalOfMonths 18 = .ok (.ifCond .ne 6, 3) := by decide +kernel
theorem dX8_refusalOfMonths_21 : decode cX8_refusalOfMonths 21 = .ok (.ldc 185, 2) := by decide +kernel
theorem dX8_refusalOfMonths_23 : decode cX8_refusalOfMonths 23 = .ok (.ireturn, 1) := by decide +kernel
theorem dX8_refusalOfMonths_24 : decode cX8_refusalOfMonths 24 = .ok (.aload_n 0, 1) := by decide +kernel
theorem dX8_refusalOfMonths_25 : decode cX8_refusalOfMonths 25 = .ok (.getfield 29, 3) := by decide +kernel
theorem dX8_refusalOfMonths_28 : decode cX8_refusalOfMonths 28 = .ok (.getfield 126, 3) := by decide +kernel
theorem dX8_refusalOfMonths_31 : decode cX8_refusalOfMonths 31 = .ok (.sipush 9000, 3) := by decide +kernel
theorem dX8_refusalOfMonths_34 : decode cX8_refusalOfMonths 34 = .ok (.if_icmp .le 8, 3) := by decide +kernel
theorem dX8_refusalOfMonths_37 : decode cX8_refusalOfMonths 37 = .ok (.ldc 80, 2) := by decide +kernel
theorem dX8_refusalOfMonths_39 : decode cX8_refusalOfMonths 39 = .ok (.goto 4, 3) := by decide +kernel
theorem dX8_refusalOfMonths_42 : decode cX8_refusalOfMonths 42 = .ok (.iconst 0, 1) := by decide +kernel
theorem dX8_refusalOfMonths_43 : decode cX8_refusalOfMonths 43 = .ok (.ireturn, 1) := by decide +kernel
theorem dX8_drawOfHundred_0 : decode cX8_drawOfHundred 0 = .ok (.aload_n 0, 1) := by decide +kernel
theorem dX8_drawOfHundred_1 : decode cX8_drawOfHundred 1 = .ok (.aload_n 0, 1) := by decide +kernel
theorem dX8_drawOfHundred_2 : decode cX8_drawOfHundred 2 = .ok (.getfield 268, 3) := by decide +kernel
theorem dX8_drawOfHundred_5 : decode cX8_drawOfHundred 5 = .ok (.i2l, 1) := by decide +kernel
theorem dX8_drawOfHundred_6 : decode cX8_drawOfHundred 6 = .ok (.ldc2_w 281, 3) := by decide +kernel
theorem dX8_drawOfHundred_9 : decode cX8_drawOfHundred 9 = .ok (.lmul, 1) := by decide +kernel
theorem dX8_drawOfHundred_10 : decode cX8_drawOfHundred 10 = .ok (.ldc2_w 283, 3) := by decide +kernel
theorem dX8_drawOfHundred_13 : decode cX8_drawOfHundred 13 = .ok (.ladd, 1) := by decide +kernel
theorem dX8_drawOfHundred_14 : decode cX8_drawOfHundred 14 = .ok (.ldc2_w 285, 3) := by decide +kernel
theorem dX8_drawOfHundred_17 : decode cX8_drawOfHundred 17 = .ok (.lrem, 1) := by decide +kernel
theorem dX8_drawOfHundred_18 : decode cX8_drawOfHundred 18 = .ok (.l2i, 1) := by decide +kernel
theorem dX8_drawOfHundred_19 : decode cX8_drawOfHundred 19 = .ok (.putfield 268, 3) := by decide +kernel
theorem dX8_drawOfHundred_22 : decode cX8_drawOfHundred 22 = .ok (.aload_n 0, 1) := by decide +kernel
theorem dX8_drawOfHundred_23 : decode cX8_drawOfHundred 23 = .ok (.getfield 268, 3) := by decide +kernel
theorem dX8_drawOfHundred_26 : decode cX8_drawOfHundred 26 = .ok (.ldc_w 287, 3) := by decide +kernel
theorem dX8_drawOfHundred_29 : decode cX8_drawOfHundred 29 = .ok (.idiv, 1) := by decide +kernel
theorem dX8_drawOfHundred_30 : decode cX8_drawOfHundred 30 = .ok (.bipush 100, 2) := by decide +kernel
theorem dX8_drawOfHundred_32 : decode cX8_drawOfHundred 32 = .ok (.irem, 1) := by decide +kernel
theorem dX8_drawOfHundred_33 : decode cX8_drawOfHundred 33 = .ok (.ireturn, 1) := by decide +kernel
set_option maxRecDepth 20000 in
theorem ggX8_comesBy_X8_pays : GoodIn wsX8_comesBy wsX8_pays := goodIn_r _ [6, 7, 8, 5, 9, 10, 11, 12, 13] (by decide +kernel) (by decide +kernel)
set_option maxRecDepth 20000 in
theorem gX8_comesBy_X8_pays : GoodIn wsX8_comesBy (va_wsS RX8 161 yX8_pays wsX8_pays) := goodIn_app (goodIn_of _ (by decide +kernel)) ggX8_comesBy_X8_pays
theorem dX8_comesBy_0 : decode cX8_comesBy 0 = .ok (.iconst 0, 1) := by decide +kernel
theorem dX8_comesBy_1 : decode cX8_comesBy 1 = .ok (.istore_n 3, 1) := by decide +kernel
theorem dX8_comesBy_2 : decode cX8_comesBy 2 = .ok (.iconst 0, 1) := by decide +kernel
theorem dX8_comesBy_3 : decode cX8_comesBy 3 = .ok (.istore 4, 2) := by decide +kernel
theorem dX8_comesBy_5 : decode cX8_comesBy 5 = .ok (.iload 4, 2) := by decide +kernel
theorem dX8_comesBy_7 : decode cX8_comesBy 7 = .ok (.aload_n 0, 1) := by decide +kernel
theorem dX8_comesBy_8 : decode cX8_comesBy 8 = .ok (.getfield 19, 3) := by decide +kernel
theorem dX8_comesBy_11 : decode cX8_comesBy 11 = .ok (.getfield 102, 3) := by decide +kernel
theorem dX8_comesBy_14 : decode cX8_comesBy 14 = .ok (.if_icmp .ge 45, 3) := by decide +kernel
theorem dX8_comesBy_17 : decode cX8_comesBy 17 = .ok (.iload_n 2, 1) := by decide +kernel
theorem dX8_comesBy_18 : decode cX8_comesBy 18 = .ok (.iload 4, 2) := by decide +kernel
theorem dX8_comesBy_20 : decode cX8_comesBy 20 = .ok (.ishr, 1) := by decide +kernel
theorem dX8_comesBy_21 : decode cX8_comesBy 21 = .ok (.iconst 1, 1) := by decide +kernel
theorem dX8_comesBy_22 : decode cX8_comesBy 22 = .ok (.iand, 1) := by decide +kernel
theorem dX8_comesBy_23 : decode cX8_comesBy 23 = .ok (.ifCond .ne 30, 3) := by decide +kernel
theorem dX8_comesBy_26 : decode cX8_comesBy 26 = .ok (.iload_n 3, 1) := by decide +kernel
theorem dX8_comesBy_27 : decode cX8_comesBy 27 = .ok (.aload_n 0, 1) := by decide +kernel
theorem dX8_comesBy_28 : decode cX8_comesBy 28 = .ok (.getfield 29, 3) := by decide +kernel
theorem dX8_comesBy_31 : decode cX8_comesBy 31 = .ok (.getfield 147, 3) := by decide +kernel
theorem dX8_comesBy_34 : decode cX8_comesBy 34 = .ok (.iload 4, 2) := by decide +kernel
theorem dX8_comesBy_36 : decode cX8_comesBy 36 = .ok (.iaload, 1) := by decide +kernel
theorem dX8_comesBy_37 : decode cX8_comesBy 37 = .ok (.aload_n 0, 1) := by decide +kernel
theorem dX8_comesBy_38 : decode cX8_comesBy 38 = .ok (.getfield 19, 3) := by decide +kernel
theorem dX8_comesBy_41 : decode cX8_comesBy 41 = .ok (.getfield 151, 3) := by decide +kernel
theorem dX8_comesBy_44 : decode cX8_comesBy 44 = .ok (.iload 4, 2) := by decide +kernel
theorem dX8_comesBy_46 : decode cX8_comesBy 46 = .ok (.iaload, 1) := by decide +kernel
theorem dX8_comesBy_47 : decode cX8_comesBy 47 = .ok (.iload_n 1, 1) := by decide +kernel
theorem dX8_comesBy_48 : decode cX8_comesBy 48 = .ok (.invokestatic 161, 3) := by decide +kernel
theorem dX8_comesBy_51 : decode cX8_comesBy 51 = .ok (.iadd, 1) := by decide +kernel
theorem dX8_comesBy_52 : decode cX8_comesBy 52 = .ok (.istore_n 3, 1) := by decide +kernel
theorem dX8_comesBy_53 : decode cX8_comesBy 53 = .ok (.iinc 4 1, 3) := by decide +kernel
theorem dX8_comesBy_56 : decode cX8_comesBy 56 = .ok (.goto (-51), 3) := by decide +kernel
theorem dX8_comesBy_59 : decode cX8_comesBy 59 = .ok (.iload_n 3, 1) := by decide +kernel
theorem dX8_comesBy_60 : decode cX8_comesBy 60 = .ok (.ireturn, 1) := by decide +kernel
theorem dX8_soonest_0 : decode cX8_soonest 0 = .ok (.iconst 0, 1) := by decide +kernel
theorem dX8_soonest_1 : decode cX8_soonest 1 = .ok (.istore_n 2, 1) := by decide +kernel
theorem dX8_soonest_2 : decode cX8_soonest 2 = .ok (.ldc_w 288, 3) := by decide +kernel
theorem dX8_soonest_5 : decode cX8_soonest 5 = .ok (.istore_n 3, 1) := by decide +kernel
theorem dX8_soonest_6 : decode cX8_soonest 6 = .ok (.iconst 0, 1) := by decide +kernel
theorem dX8_soonest_7 : decode cX8_soonest 7 = .ok (.istore 4, 2) := by decide +kernel
theorem dX8_soonest_9 : decode cX8_soonest 9 = .ok (.iload 4, 2) := by decide +kernel
theorem dX8_soonest_11 : decode cX8_soonest 11 = .ok (.aload_n 0, 1) := by decide +kernel
theorem dX8_soonest_12 : decode cX8_soonest 12 = .ok (.getfield 19, 3) := by decide +kernel
theorem dX8_soonest_15 : decode cX8_soonest 15 = .ok (.getfield 117, 3) := by decide +kernel
theorem dX8_soonest_18 : decode cX8_soonest 18 = .ok (.if_icmp .ge 46, 3) := by decide +kernel
theorem dX8_soonest_21 : decode cX8_soonest 21 = .ok (.iload_n 1, 1) := by decide +kernel
theorem dX8_soonest_22 : decode cX8_soonest 22 = .ok (.iload 4, 2) := by decide +kernel
theorem dX8_soonest_24 : decode cX8_soonest 24 = .ok (.ishr, 1) := by decide +kernel
theorem dX8_soonest_25 : decode cX8_soonest 25 = .ok (.iconst 1, 1) := by decide +kernel
theorem dX8_soonest_26 : decode cX8_soonest 26 = .ok (.iand, 1) := by decide +kernel
theorem dX8_soonest_27 : decode cX8_soonest 27 = .ok (.ifCond .eq 31, 3) := by decide +kernel
theorem dX8_soonest_30 : decode cX8_soonest 30 = .ok (.aload_n 0, 1) := by decide +kernel
theorem dX8_soonest_31 : decode cX8_soonest 31 = .ok (.getfield 19, 3) := by decide +kernel
theorem dX8_soonest_34 : decode cX8_soonest 34 = .ok (.getfield 225, 3) := by decide +kernel
theorem dX8_soonest_37 : decode cX8_soonest 37 = .ok (.iload 4, 2) := by decide +kernel
theorem dX8_soonest_39 : decode cX8_soonest 39 = .ok (.iaload, 1) := by decide +kernel
theorem dX8_soonest_40 : decode cX8_soonest 40 = .ok (.iload_n 3, 1) := by decide +kernel
theorem dX8_soonest_41 : decode cX8_soonest 41 = .ok (.if_icmp .ge 17, 3) := by decide +kernel
theorem dX8_soonest_44 : decode cX8_soonest 44 = .ok (.aload_n 0, 1) := by decide +kernel
theorem dX8_soonest_45 : decode cX8_soonest 45 = .ok (.getfield 19, 3) := by decide +kernel
theorem dX8_soonest_48 : decode cX8_soonest 48 = .ok (.getfield 225, 3) := by decide +kernel
theorem dX8_soonest_51 : decode cX8_soonest 51 = .ok (.iload 4, 2) := by decide +kernel
theorem dX8_soonest_53 : decode cX8_soonest 53 = .ok (.iaload, 1) := by decide +kernel
theorem dX8_soonest_54 : decode cX8_soonest 54 = .ok (.istore_n 3, 1) := by decide +kernel
theorem dX8_soonest_55 : decode cX8_soonest 55 = .ok (.iload 4, 2) := by decide +kernel
theorem dX8_soonest_57 : decode cX8_soonest 57 = .ok (.istore_n 2, 1) := by decide +kernel
theorem dX8_soonest_58 : decode cX8_soonest 58 = .ok (.iinc 4 1, 3) := by decide +kernel
theorem dX8_soonest_61 : decode cX8_soonest 61 = .ok (.goto (-52), 3) := by decide +kernel
theorem dX8_soonest_64 : decode cX8_soonest 64 = .ok (.iload_n 2, 1) := by decide +kernel
theorem dX8_soonest_65 : decode cX8_soonest 65 = .ok (.ireturn, 1) := by decide +kernel
theorem dX8_behindLetters_0 : decode cX8_behindLetters 0 = .ok (.ldc2_w 289, 3) := by decide +kernel
theorem dX8_behindLetters_3 : decode cX8_behindLetters 3 = .ok (.iload_n 0, 1) := by decide +kernel
theorem dX8_behindLetters_4 : decode cX8_behindLetters 4 = .ok (.i2l, 1) := by decide +kernel
theorem dX8_behindLetters_5 : decode cX8_behindLetters 5 = .ok (.lmul, 1) := by decide +kernel
theorem dX8_behindLetters_6 : decode cX8_behindLetters 6 = .ok (.ldc2_w 291, 3) := by decide +kernel
theorem dX8_behindLetters_9 : decode cX8_behindLetters 9 = .ok (.ldiv, 1) := by decide +kernel
theorem dX8_behindLetters_10 : decode cX8_behindLetters 10 = .ok (.lstore 4, 2) := by decide +kernel
theorem dX8_behindLetters_12 : decode cX8_behindLetters 12 = .ok (.iconst 0, 1) := by decide +kernel
theorem dX8_behindLetters_13 : decode cX8_behindLetters 13 = .ok (.istore 6, 2) := by decide +kernel
theorem dX8_behindLetters_15 : decode cX8_behindLetters 15 = .ok (.iload 6, 2) := by decide +kernel
theorem dX8_behindLetters_17 : decode cX8_behindLetters 17 = .ok (.iload_n 2, 1) := by decide +kernel
theorem dX8_behindLetters_18 : decode cX8_behindLetters 18 = .ok (.if_icmp .ge 33, 3) := by decide +kernel
theorem dX8_behindLetters_21 : decode cX8_behindLetters 21 = .ok (.lload 4, 2) := by decide +kernel
theorem dX8_behindLetters_23 : decode cX8_behindLetters 23 = .ok (.iload 6, 2) := by decide +kernel
theorem dX8_behindLetters_25 : decode cX8_behindLetters 25 = .ok (.iload_n 3, 1) := by decide +kernel
theorem dX8_behindLetters_26 : decode cX8_behindLetters 26 = .ok (.if_icmp .ge 7, 3) := by decide +kernel
theorem dX8_behindLetters_29 : decode cX8_behindLetters 29 = .ok (.iload_n 1, 1) := by decide +kernel
theorem dX8_behindLetters_30 : decode cX8_behindLetters 30 = .ok (.goto 7, 3) := by decide +kernel
theorem dX8_behindLetters_33 : decode cX8_behindLetters 33 = .ok (.bipush 100, 2) := by decide +kernel
theorem dX8_behindLetters_35 : decode cX8_behindLetters 35 = .ok (.iload_n 1, 1) := by decide +kernel
theorem dX8_behindLetters_36 : decode cX8_behindLetters 36 = .ok (.isub, 1) := by decide +kernel
theorem dX8_behindLetters_37 : decode cX8_behindLetters 37 = .ok (.i2l, 1) := by decide +kernel
theorem dX8_behindLetters_38 : decode cX8_behindLetters 38 = .ok (.lmul, 1) := by decide +kernel
theorem dX8_behindLetters_39 : decode cX8_behindLetters 39 = .ok (.ldc2_w 291, 3) := by decide +kernel
theorem dX8_behindLetters_42 : decode cX8_behindLetters 42 = .ok (.ldiv, 1) := by decide +kernel
theorem dX8_behindLetters_43 : decode cX8_behindLetters 43 = .ok (.lstore 4, 2) := by decide +kernel
theorem dX8_behindLetters_45 : decode cX8_behindLetters 45 = .ok (.iinc 6 1, 3) := by decide +kernel
theorem dX8_behindLetters_48 : decode cX8_behindLetters 48 = .ok (.goto (-33), 3) := by decide +kernel
theorem dX8_behindLetters_51 : decode cX8_behindLetters 51 = .ok (.lload 4, 2) := by decide +kernel
theorem dX8_behindLetters_53 : decode cX8_behindLetters 53 = .ok (.lreturn, 1) := by decide +kernel
theorem dX8_tells_0 : decode cX8_tells 0 = .ok (.iload_n 0, 1) := by decide +kernel
theorem dX8_tells_1 : decode cX8_tells 1 = .ok (.iconst 0, 1) := by decide +kernel
theorem dX8_tells_2 : decode cX8_tells 2 = .ok (.bipush 100, 2) := by decide +kernel
theorem dX8_tells_4 : decode cX8_tells 4 = .ok (.iload_n 1, 1) := by decide +kernel
theorem dX8_tells_5 : decode cX8_tells 5 = .ok (.iload_n 2, 1) := by decide +kernel
theorem dX8_tells_6 : decode cX8_tells 6 = .ok (.imul, 1) := by decide +kernel
theorem dX8_tells_7 : decode cX8_tells 7 = .ok (.bipush 10, 2) := by decide +kernel
theorem dX8_tells_9 : decode cX8_tells 9 = .ok (.idiv, 1) := by decide +kernel
theorem dX8_tells_10 : decode cX8_tells 10 = .ok (.isub, 1) := by decide +kernel
theorem dX8_tells_11 : decode cX8_tells 11 = .ok (.invokestatic 219, 3) := by decide +kernel
theorem dX8_tells_14 : decode cX8_tells 14 = .ok (.imul, 1) := by decide +kernel
theorem dX8_tells_15 : decode cX8_tells 15 = .ok (.bipush 100, 2) := by decide +kernel
theorem dX8_tells_17 : decode cX8_tells 17 = .ok (.idiv, 1) := by decide +kernel
theorem dX8_tells_18 : decode cX8_tells 18 = .ok (.ireturn, 1) := by decide +kernel
set_option maxRecDepth 20000 in
theorem ggX8_pays_X8_tells : GoodIn wsX8_pays wsX8_tells := goodIn_r _ [4, 5, 6, 7, 8] (by decide +kernel) (by decide +kernel)
set_option maxRecDepth 20000 in
theorem gX8_pays_X8_tells : GoodIn wsX8_pays (va_wsS RX8 157 yX8_tells wsX8_tells) := goodIn_app (goodIn_of _ (by decide +kernel)) ggX8_pays_X8_tells
theorem dX8_pays_0 : decode cX8_pays 0 = .ok (.iload_n 0, 1) := by decide +kernel
theorem dX8_pays_1 : decode cX8_pays 1 = .ok (.iload_n 1, 1) := by decide +kernel
theorem dX8_pays_2 : decode cX8_pays 2 = .ok (.iload_n 2, 1) := by decide +kernel
theorem dX8_pays_3 : decode cX8_pays 3 = .ok (.invokestatic 157, 3) := by decide +kernel
theorem dX8_pays_6 : decode cX8_pays 6 = .ok (.iload_n 2, 1) := by decide +kernel
theorem dX8_pays_7 : decode cX8_pays 7 = .ok (.imul, 1) := by decide +kernel
theorem dX8_pays_8 : decode cX8_pays 8 = .ok (.bipush 100, 2) := by decide +kernel
theorem dX8_pays_10 : decode cX8_pays 10 = .ok (.idiv, 1) := by decide +kernel
theorem dX8_pays_11 : decode cX8_pays 11 = .ok (.ireturn, 1) := by decide +kernel
