theorem dX9_free_7 : decode cX9_free 7 = .ok (.aload_n 0, 1) := by decide +kernel
theorem dX9_free_8 : decode cX9_free 8 = .ok (.getfield 13, 3) := by decide +kernel
theorem dX9_free_11 : decode cX9_free 11 = .ok (.bipush 12, 2) := by decide +kernel
theorem dX9_free_13 : decode cX9_free 13 = .ok (.iaload, 1) := by decide +kernel
theorem dX9_free_14 : decode cX9_free 14 = .ok (.aload_n 0, 1) := by decide +kernel
theorem dX9_free_15 : decode cX9_free 15 = .ok (.invokevirtual 156, 3) := by decide +kernel
theorem dX9_free_18 : decode cX9_free 18 = .ok (.if_icmp .ge 6, 3) := by decide +kernel
theorem dX9_free_21 : decode cX9_free 21 = .ok (.ldc 147, 2) := by decide +kernel
theorem dX9_free_23 : decode cX9_free 23 = .ok (.ireturn, 1) := by decide +kernel
theorem dX9_free_24 : decode cX9_free 24 = .ok (.aload_n 0, 1) := by decide +kernel
theorem dX9_free_25 : decode cX9_free 25 = .ok (.invokevirtual 139, 3) := by decide +kernel
theorem dX9_free_28 : decode cX9_free 28 = .ok (.aload_n 0, 1) := by decide +kernel
theorem dX9_free_29 : decode cX9_free 29 = .ok (.getfield 13, 3) := by decide +kernel
theorem dX9_free_32 : decode cX9_free 32 = .ok (.bipush 12, 2) := by decide +kernel
theorem dX9_free_34 : decode cX9_free 34 = .ok (.dup2, 1) := by decide +kernel
theorem dX9_free_35 : decode cX9_free 35 = .ok (.iaload, 1) := by decide +kernel
theorem dX9_free_36 : decode cX9_free 36 = .ok (.aload_n 0, 1) := by decide +kernel
theorem dX9_free_37 : decode cX9_free 37 = .ok (.invokevirtual 156, 3) := by decide +kernel
theorem dX9_free_40 : decode cX9_free 40 = .ok (.isub, 1) := by decide +kernel
theorem dX9_free_41 : decode cX9_free 41 = .ok (.iastore, 1) := by decide +kernel
theorem dX9_free_42 : decode cX9_free 42 = .ok (.aload_n 0, 1) := by decide +kernel
theorem dX9_free_43 : decode cX9_free 43 = .ok (.getfield 13, 3) := by decide +kernel
theorem dX9_free_46 : decode cX9_free 46 = .ok (.bipush 16, 2) := by decide +kernel
theorem dX9_free_48 : decode cX9_free 48 = .ok (.iconst 1, 1) := by decide +kernel
theorem dX9_free_49 : decode cX9_free 49 = .ok (.iastore, 1) := by decide +kernel
theorem dX9_free_50 : decode cX9_free 50 = .ok (.aload_n 0, 1) := by decide +kernel
theorem dX9_free_51 : decode cX9_free 51 = .ok (.getfield 13, 3) := by decide +kernel
theorem dX9_free_54 : decode cX9_free 54 = .ok (.bipush 12, 2) := by decide +kernel
theorem dX9_free_56 : decode cX9_free 56 = .ok (.iaload, 1) := by decide +kernel
theorem dX9_free_57 : decode cX9_free 57 = .ok (.ireturn, 1) := by decide +kernel
set_option maxRecDepth 20000 in
theorem ggX9_dies_X9_isHeld : GoodIn wsX9_dies wsX9_isHeld := goodIn_r _ [7, 8, 2, 15, 16, 17, 18, 19, 20, 21, 22, 23, 24, 25, 26, 27, 28, 29, 30, 31, 32, 33, 34, 35] (by decide +kernel) (by decide +kernel)
set_option maxRecDepth 20000 in
theorem gX9_dies_X9_isHeld : GoodIn wsX9_dies (wsV RX9 144 RX9 yX9_isHeld wsX9_isHeld) := goodIn_app (goodIn_of _ (by decide +kernel)) ggX9_dies_X9_isHeld
set_option maxRecDepth 20000 in
theorem ggX9_dies_X9_note : GoodIn wsX9_dies wsX9_note := goodIn_r _ [12, 13, 14, 2, 15, 16, 17, 18, 19, 20, 21, 22, 23, 24, 25, 26, 27, 28, 29, 30, 31, 32, 33, 34, 35] (by decide +kernel) (by decide +kernel)
set_option maxRecDepth 20000 in
theorem gX9_dies_X9_note : GoodIn wsX9_dies (wsV RX9 139 RX9 yX9_note wsX9_note) := goodIn_app (goodIn_of _ (by decide +kernel)) ggX9_dies_X9_note
theorem dX9_dies_0 : decode cX9_dies 0 = .ok (.aload_n 0, 1) := by decide +kernel
theorem dX9_dies_1 : decode cX9_dies 1 = .ok (.invokevirtual 144, 3) := by decide +kernel
theorem dX9_dies_4 : decode cX9_dies 4 = .ok (.ifCond .ne 6, 3) := by decide +kernel
theorem dX9_dies_7 : decode cX9_dies 7 = .ok (.ldc 147, 2) := by decide +kernel
theorem dX9_dies_9 : decode cX9_dies 9 = .ok (.ireturn, 1) := by decide +kernel
theorem dX9_dies_10 : decode cX9_dies 10 = .ok (.aload_n 0, 1) := by decide +kernel
theorem dX9_dies_11 : decode cX9_dies 11 = .ok (.invokevirtual 139, 3) := by decide +kernel
theorem dX9_dies_14 : decode cX9_dies 14 = .ok (.aload_n 0, 1) := by decide +kernel
theorem dX9_dies_15 : decode cX9_dies 15 = .ok (.getfield 13, 3) := by decide +kernel
theorem dX9_dies_18 : decode cX9_dies 18 = .ok (.bipush 16, 2) := by decide +kernel
theorem dX9_dies_20 : decode cX9_dies 20 = .ok (.iconst 2, 1) := by decide +kernel
theorem dX9_dies_21 : decode cX9_dies 21 = .ok (.iastore, 1) := by decide +kernel
theorem dX9_dies_22 : decode cX9_dies 22 = .ok (.aload_n 0, 1) := by decide +kernel
theorem dX9_dies_23 : decode cX9_dies 23 = .ok (.getfield 13, 3) := by decide +kernel
theorem dX9_dies_26 : decode cX9_dies 26 = .ok (.bipush 13, 2) := by decide +kernel
theorem dX9_dies_28 : decode cX9_dies 28 = .ok (.iaload, 1) := by decide +kernel
theorem dX9_dies_29 : decode cX9_dies 29 = .ok (.ireturn, 1) := by decide +kernel
theorem dX9_draw_0 : decode cX9_draw 0 = .ok (.aload_n 0, 1) := by decide +kernel
theorem dX9_draw_1 : decode cX9_draw 1 = .ok (.aload_n 0, 1) := by decide +kernel
theorem dX9_draw_2 : decode cX9_draw 2 = .ok (.getfield 159, 3) := by decide +kernel
theorem dX9_draw_5 : decode cX9_draw 5 = .ok (.i2l, 1) := by decide +kernel
theorem dX9_draw_6 : decode cX9_draw 6 = .ok (.ldc2_w 162, 3) := by decide +kernel
theorem dX9_draw_9 : decode cX9_draw 9 = .ok (.lmul, 1) := by decide +kernel
theorem dX9_draw_10 : decode cX9_draw 10 = .ok (.ldc2_w 164, 3) := by decide +kernel
theorem dX9_draw_13 : decode cX9_draw 13 = .ok (.ladd, 1) := by decide +kernel
theorem dX9_draw_14 : decode cX9_draw 14 = .ok (.ldc2_w 166, 3) := by decide +kernel
theorem dX9_draw_17 : decode cX9_draw 17 = .ok (.lrem, 1) := by decide +kernel
theorem dX9_draw_18 : decode cX9_draw 18 = .ok (.l2i, 1) := by decide +kernel
theorem dX9_draw_19 : decode cX9_draw 19 = .ok (.putfield 159, 3) := by decide +kernel
theorem dX9_draw_22 : decode cX9_draw 22 = .ok (.aload_n 0, 1) := by decide +kernel
theorem dX9_draw_23 : decode cX9_draw 23 = .ok (.getfield 159, 3) := by decide +kernel
theorem dX9_draw_26 : decode cX9_draw 26 = .ok (.ldc 168, 2) := by decide +kernel
theorem dX9_draw_28 : decode cX9_draw 28 = .ok (.idiv, 1) := by decide +kernel
theorem dX9_draw_29 : decode cX9_draw 29 = .ok (.iload_n 1, 1) := by decide +kernel
theorem dX9_draw_30 : decode cX9_draw 30 = .ok (.irem, 1) := by decide +kernel
theorem dX9_draw_31 : decode cX9_draw 31 = .ok (.ireturn, 1) := by decide +kernel
set_option maxRecDepth 20000 in
theorem ggX9_drift_X9_lacksTime : GoodIn wsX9_drift wsX9_lacksTime := goodIn_r _ [7, 8, 9, 10, 1, 11, 12, 13, 6, 14, 15, 16, 17, 18, 19, 47, 48, 49, 50, 51, 52, 53, 54, 55, 56, 57, 58, 59, 60, 61, 62, 63, 64, 65, 66, 67] (by decide +kernel) (by decide +kernel)
set_option maxRecDepth 20000 in
theorem gX9_drift_X9_lacksTime : GoodIn wsX9_drift (wsV RX9 148 RX9 yX9_lacksTime wsX9_lacksTime) := goodIn_app (goodIn_of _ (by decide +kernel)) ggX9_drift_X9_lacksTime
set_option maxRecDepth 20000 in
theorem ggX9_drift_X9_note : GoodIn wsX9_drift wsX9_note := goodIn_r _ [23, 24, 25, 1, 47, 48, 49, 50, 51, 52, 53, 54, 55, 56, 57, 58, 59, 60, 61, 62, 63, 64, 65, 66, 67] (by decide +kernel) (by decide +kernel)
set_option maxRecDepth 20000 in
theorem gX9_drift_X9_note : GoodIn wsX9_drift (wsV RX9 139 RX9 yX9_note wsX9_note) := goodIn_app (goodIn_of _ (by decide +kernel)) ggX9_drift_X9_note
set_option maxRecDepth 20000 in
theorem ggX9_drift_X9_draw : GoodIn wsX9_drift wsX9_draw := goodIn_r _ [29, 30, 31, 32, 33, 34, 47, 48, 49, 50, 51, 52, 53, 54, 55, 56, 57, 58, 59, 60, 61, 62, 63, 64, 65, 66, 67] (by decide +kernel) (by decide +kernel)
set_option maxRecDepth 20000 in
theorem gX9_drift_X9_draw : GoodIn wsX9_drift (wsV RX9 169 RX9 yX9_draw wsX9_draw) := goodIn_app (goodIn_of _ (by decide +kernel)) ggX9_drift_X9_draw
set_option maxRecDepth 20000 in
theorem ggX9_drift_X9_oneMonth : GoodIn wsX9_drift wsX9_oneMonth := goodIn_r _ [38, 2, 1, 39, 40, 41, 6, 42, 43, 44, 45, 46, 47, 48, 49, 50, 51, 52, 53, 54, 55, 56, 57, 58, 59, 60, 61, 62, 63, 64, 65, 66, 67] (by decide +kernel) (by decide +kernel)
set_option maxRecDepth 20000 in
theorem gX9_drift_X9_oneMonth : GoodIn wsX9_drift (wsV RX9 151 RX9 yX9_oneMonth wsX9_oneMonth) := goodIn_app (goodIn_of _ (by decide +kernel)) ggX9_drift_X9_oneMonth
theorem dX9_drift_0 : decode cX9_drift 0 = .ok (.aload_n 0, 1) := by decide +kernel
theorem dX9_drift_1 : decode cX9_drift 1 = .ok (.iload_n 1, 1) := by decide +kernel
theorem dX9_drift_2 : decode cX9_drift 2 = .ok (.invokevirtual 148, 3) := by decide +kernel
theorem dX9_drift_5 : decode cX9_drift 5 = .ok (.istore_n 2, 1) := by decide +kernel
theorem dX9_drift_6 : decode cX9_drift 6 = .ok (.iload_n 2, 1) := by decide +kernel
theorem dX9_drift_7 : decode cX9_drift 7 = .ok (.ifCond .ge 5, 3) := by decide +kernel
theorem dX9_drift_10 : decode cX9_drift 10 = .ok (.iload_n 2, 1) := by decide +kernel
theorem dX9_drift_11 : decode cX9_drift 11 = .ok (.ireturn, 1) := by decide +kernel
theorem dX9_drift_12 : decode cX9_drift 12 = .ok (.aload_n 0, 1) := by decide +kernel
theorem dX9_drift_13 : decode cX9_drift 13 = .ok (.invokevirtual 139, 3) := by decide +kernel
theorem dX9_drift_16 : decode cX9_drift 16 = .ok (.iconst 0, 1) := by decide +kernel
theorem dX9_drift_17 : decode cX9_drift 17 = .ok (.istore_n 3, 1) := by decide +kernel
theorem dX9_drift_18 : decode cX9_drift 18 = .ok (.iload_n 3, 1) := by decide +kernel
theorem dX9_drift_19 : decode cX9_drift 19 = .ok (.iload_n 1, 1) := by decide +kernel
theorem dX9_drift_20 : decode cX9_drift 20 = .ok (.if_icmp .ge 49, 3) := by decide +kernel
theorem dX9_drift_23 : decode cX9_drift 23 = .ok (.aload_n 0, 1) := by decide +kernel
theorem dX9_drift_24 : decode cX9_drift 24 = .ok (.getfield 13, 3) := by decide +kernel
theorem dX9_drift_27 : decode cX9_drift 27 = .ok (.bipush 16, 2) := by decide +kernel
theorem dX9_drift_29 : decode cX9_drift 29 = .ok (.iaload, 1) := by decide +kernel
theorem dX9_drift_30 : decode cX9_drift 30 = .ok (.ifCond .ne 39, 3) := by decide +kernel
theorem dX9_drift_33 : decode cX9_drift 33 = .ok (.aload_n 0, 1) := by decide +kernel
theorem dX9_drift_34 : decode cX9_drift 34 = .ok (.bipush 100, 2) := by decide +kernel
theorem dX9_drift_36 : decode cX9_drift 36 = .ok (.invokevirtual 169, 3) := by decide +kernel
theorem dX9_drift_39 : decode cX9_drift 39 = .ok (.aload_n 0, 1) := by decide +kernel
theorem dX9_drift_40 : decode cX9_drift 40 = .ok (.getfield 7, 3) := by decide +kernel
theorem dX9_drift_43 : decode cX9_drift 43 = .ok (.iconst 1, 1) := by decide +kernel
theorem dX9_drift_44 : decode cX9_drift 44 = .ok (.iaload, 1) := by decide +kernel
theorem dX9_drift_45 : decode cX9_drift 45 = .ok (.if_icmp .ge 14, 3) := by decide +kernel
theorem dX9_drift_48 : decode cX9_drift 48 = .ok (.aload_n 0, 1) := by decide +kernel
theorem dX9_drift_49 : decode cX9_drift 49 = .ok (.getfield 13, 3) := by decide +kernel
theorem dX9_drift_52 : decode cX9_drift 52 = .ok (.bipush 16, 2) := by decide +kernel
theorem dX9_drift_54 : decode cX9_drift 54 = .ok (.iconst 2, 1) := by decide +kernel
theorem dX9_drift_55 : decode cX9_drift 55 = .ok (.iastore, 1) := by decide +kernel
theorem dX9_drift_56 : decode cX9_drift 56 = .ok (.goto 7, 3) := by decide +kernel
theorem dX9_drift_59 : decode cX9_drift 59 = .ok (.aload_n 0, 1) := by decide +kernel
theorem dX9_drift_60 : decode cX9_drift 60 = .ok (.invokevirtual 151, 3) := by decide +kernel
theorem dX9_drift_63 : decode cX9_drift 63 = .ok (.iinc 3 1, 3) := by decide +kernel
theorem dX9_drift_66 : decode cX9_drift 66 = .ok (.goto (-48), 3) := by decide +kernel
theorem dX9_drift_69 : decode cX9_drift 69 = .ok (.aload_n 0, 1) := by decide +kernel
theorem dX9_drift_70 : decode cX9_drift 70 = .ok (.getfield 13, 3) := by decide +kernel
theorem dX9_drift_73 : decode cX9_drift 73 = .ok (.bipush 16, 2) := by decide +kernel
theorem dX9_drift_75 : decode cX9_drift 75 = .ok (.iaload, 1) := by decide +kernel
theorem dX9_drift_76 : decode cX9_drift 76 = .ok (.ireturn, 1) := by decide +kernel
theorem dX9_undo_0 : decode cX9_undo 0 = .ok (.aload_n 0, 1) := by decide +kernel
theorem dX9_undo_1 : decode cX9_undo 1 = .ok (.getfield 110, 3) := by decide +kernel
theorem dX9_undo_4 : decode cX9_undo 4 = .ok (.ifCond .ne 6, 3) := by decide +kernel
theorem dX9_undo_7 : decode cX9_undo 7 = .ok (.ldc 147, 2) := by decide +kernel
theorem dX9_undo_9 : decode cX9_undo 9 = .ok (.ireturn, 1) := by decide +kernel
theorem dX9_undo_10 : decode cX9_undo 10 = .ok (.aload_n 0, 1) := by decide +kernel
theorem dX9_undo_11 : decode cX9_undo 11 = .ok (.dup, 1) := by decide +kernel
theorem dX9_undo_12 : decode cX9_undo 12 = .ok (.getfield 110, 3) := by decide +kernel
theorem dX9_undo_15 : decode cX9_undo 15 = .ok (.iconst 1, 1) := by decide +kernel
theorem dX9_undo_16 : decode cX9_undo 16 = .ok (.isub, 1) := by decide +kernel
theorem dX9_undo_17 : decode cX9_undo 17 = .ok (.putfield 110, 3) := by decide +kernel
theorem dX9_undo_20 : decode cX9_undo 20 = .ok (.iconst 0, 1) := by decide +kernel
theorem dX9_undo_21 : decode cX9_undo 21 = .ok (.istore_n 1, 1) := by decide +kernel
theorem dX9_undo_22 : decode cX9_undo 22 = .ok (.iload_n 1, 1) := by decide +kernel
theorem dX9_undo_23 : decode cX9_undo 23 = .ok (.bipush 17, 2) := by decide +kernel
theorem dX9_undo_25 : decode cX9_undo 25 = .ok (.if_icmp .ge 29, 3) := by decide +kernel
theorem dX9_undo_28 : decode cX9_undo 28 = .ok (.aload_n 0, 1) := by decide +kernel
theorem dX9_undo_29 : decode cX9_undo 29 = .ok (.getfield 13, 3) := by decide +kernel
theorem dX9_undo_32 : decode cX9_undo 32 = .ok (.iload_n 1, 1) := by decide +kernel
theorem dX9_undo_33 : decode cX9_undo 33 = .ok (.aload_n 0, 1) := by decide +kernel
theorem dX9_undo_34 : decode cX9_undo 34 = .ok (.getfield 26, 3) := by decide +kernel
theorem dX9_undo_37 : decode cX9_undo 37 = .ok (.bipush 17, 2) := by decide +kernel
theorem dX9_undo_39 : decode cX9_undo 39 = .ok (.aload_n 0, 1) := by decide +kernel
theorem dX9_undo_40 : decode cX9_undo 40 = .ok (.getfield 110, 3) := by decide +kernel
theorem dX9_undo_43 : decode cX9_undo 43 = .ok (.imul, 1) := by decide +kernel
theorem dX9_undo_44 : decode cX9_undo 44 = .ok (.iload_n 1, 1) := by decide +kernel
theorem dX9_undo_45 : decode cX9_undo 45 = .ok (.iadd, 1) := by decide +kernel
theorem dX9_undo_46 : decode cX9_undo 46 = .ok (.iaload, 1) := by decide +kernel
theorem dX9_undo_47 : decode cX9_undo 47 = .ok (.iastore, 1) := by decide +kernel
theorem dX9_undo_48 : decode cX9_undo 48 = .ok (.iinc 1 1, 3) := by decide +kernel
theorem dX9_undo_51 : decode cX9_undo 51 = .ok (.goto (-29), 3) := by decide +kernel
theorem dX9_undo_54 : decode cX9_undo 54 = .ok (.aload_n 0, 1) := by decide +kernel
theorem dX9_undo_55 : decode cX9_undo 55 = .ok (.getfield 110, 3) := by decide +kernel
theorem dX9_undo_58 : decode cX9_undo 58 = .ok (.ireturn, 1) := by decide +kernel
set_option maxRecDepth 20000 in
theorem ggX9_bringsBy_X9_has : GoodIn wsX9_bringsBy wsX9_has := goodIn_r _ [5] (by decide +kernel) (by decide +kernel)
set_option maxRecDepth 20000 in
theorem gX9_bringsBy_X9_has : GoodIn wsX9_bringsBy (va_wsS RX9 172 yX9_has wsX9_has) := goodIn_app (goodIn_of _ (by decide +kernel)) ggX9_bringsBy_X9_has
set_option maxRecDepth 20000 in
theorem ggX9_bringsBy_X9_paysBy : GoodIn wsX9_bringsBy wsX9_paysBy := goodIn_r _ [9, 10, 11, 12, 4, 13, 1, 14, 15, 16, 17, 18, 19, 20, 21, 22, 23, 24, 25, 26, 27, 28, 29, 30, 31, 32, 33, 34, 35] (by decide +kernel) (by decide +kernel)
set_option maxRecDepth 20000 in
theorem gX9_bringsBy_X9_paysBy : GoodIn wsX9_bringsBy (wsV RX9 130 RX9 yX9_paysBy wsX9_paysBy) := goodIn_app (goodIn_of _ (by decide +kernel)) ggX9_bringsBy_X9_paysBy
theorem dX9_bringsBy_0 : decode cX9_bringsBy 0 = .ok (.iconst 0, 1) := by decide +kernel
theorem dX9_bringsBy_1 : decode cX9_bringsBy 1 = .ok (.istore_n 3, 1) := by decide +kernel
theorem dX9_bringsBy_2 : decode cX9_bringsBy 2 = .ok (.iconst 0, 1) := by decide +kernel
theorem dX9_bringsBy_3 : decode cX9_bringsBy 3 = .ok (.istore 4, 2) := by decide +kernel
theorem dX9_bringsBy_5 : decode cX9_bringsBy 5 = .ok (.iload 4, 2) := by decide +kernel
theorem dX9_bringsBy_7 : decode cX9_bringsBy 7 = .ok (.aload_n 0, 1) := by decide +kernel
theorem dX9_bringsBy_8 : decode cX9_bringsBy 8 = .ok (.getfield 7, 3) := by decide +kernel
theorem dX9_bringsBy_11 : decode cX9_bringsBy 11 = .ok (.iconst 2, 1) := by decide +kernel
theorem dX9_bringsBy_12 : decode cX9_bringsBy 12 = .ok (.iaload, 1) := by decide +kernel
theorem dX9_bringsBy_13 : decode cX9_bringsBy 13 = .ok (.if_icmp .ge 32, 3) := by decide +kernel
theorem dX9_bringsBy_16 : decode cX9_bringsBy 16 = .ok (.iload_n 3, 1) := by decide +kernel
theorem dX9_bringsBy_17 : decode cX9_bringsBy 17 = .ok (.iload_n 2, 1) := by decide +kernel
theorem dX9_bringsBy_18 : decode cX9_bringsBy 18 = .ok (.iload 4, 2) := by decide +kernel
theorem dX9_bringsBy_20 : decode cX9_bringsBy 20 = .ok (.invokestatic 172, 3) := by decide +kernel
theorem dX9_bringsBy_23 : decode cX9_bringsBy 23 = .ok (.ifCond .eq 7, 3) := by decide +kernel
theorem dX9_bringsBy_26 : decode cX9_bringsBy 26 = .ok (.iconst 0, 1) := by decide +kernel
theorem dX9_bringsBy_27 : decode cX9_bringsBy 27 = .ok (.goto 10, 3) := by decide +kernel
theorem dX9_bringsBy_30 : decode cX9_bringsBy 30 = .ok (.aload_n 0, 1) := by decide +kernel
theorem dX9_bringsBy_31 : decode cX9_bringsBy 31 = .ok (.iload 4, 2) := by decide +kernel
theorem dX9_bringsBy_33 : decode cX9_bringsBy 33 = .ok (.iload_n 1, 1) := by decide +kernel
theorem dX9_bringsBy_34 : decode cX9_bringsBy 34 = .ok (.invokevirtual 130, 3) := by decide +kernel
theorem dX9_bringsBy_37 : decode cX9_bringsBy 37 = .ok (.iadd, 1) := by decide +kernel
theorem dX9_bringsBy_38 : decode cX9_bringsBy 38 = .ok (.istore_n 3, 1) := by decide +kernel
theorem dX9_bringsBy_39 : decode cX9_bringsBy 39 = .ok (.iinc 4 1, 3) := by decide +kernel
theorem dX9_bringsBy_42 : decode cX9_bringsBy 42 = .ok (.goto (-37), 3) := by decide +kernel
theorem dX9_bringsBy_45 : decode cX9_bringsBy 45 = .ok (.iload_n 3, 1) := by decide +kernel
theorem dX9_bringsBy_46 : decode cX9_bringsBy 46 = .ok (.ireturn, 1) := by decide +kernel
set_option maxRecDepth 20000 in
theorem ggX9_brings_X9_in : GoodIn wsX9_brings wsX9_in := goodIn_r _ [6] (by decide +kernel) (by decide +kernel)
set_option maxRecDepth 20000 in
theorem gX9_brings_X9_in : GoodIn wsX9_brings (va_wsS RX9 50 yX9_in wsX9_in) := goodIn_app (goodIn_of _ (by decide +kernel)) ggX9_brings_X9_in
set_option maxRecDepth 20000 in
theorem ggX9_brings_X9_bringsBy : GoodIn wsX9_brings wsX9_bringsBy := goodIn_r _ [10, 11, 12, 13, 5, 14, 15, 16, 17, 18, 19, 20, 21, 22, 23, 24, 25, 26, 27, 28, 29, 30, 31, 32, 33, 34, 35, 36, 37, 38, 39, 40, 41, 42, 43, 44] (by decide +kernel) (by decide +kernel)
set_option maxRecDepth 20000 in
theorem gX9_brings_X9_bringsBy : GoodIn wsX9_brings (wsV RX9 176 RX9 yX9_bringsBy wsX9_bringsBy) := goodIn_app (goodIn_of _ (by decide +kernel)) ggX9_brings_X9_bringsBy
theorem dX9_brings_0 : decode cX9_brings 0 = .ok (.iload_n 1, 1) := by decide +kernel
theorem dX9_brings_1 : decode cX9_brings 1 = .ok (.i2l, 1) := by decide +kernel
theorem dX9_brings_2 : decode cX9_brings 2 = .ok (.lconst 0, 1) := by decide +kernel
theorem dX9_brings_3 : decode cX9_brings 3 = .ok (.ldc2_w 137, 3) := by decide +kernel
theorem dX9_brings_6 : decode cX9_brings 6 = .ok (.invokestatic 50, 3) := by decide +kernel
theorem dX9_brings_9 : decode cX9_brings 9 = .ok (.ifCond .eq 12, 3) := by decide +kernel
theorem dX9_brings_12 : decode cX9_brings 12 = .ok (.aload_n 0, 1) := by decide +kernel
theorem dX9_brings_13 : decode cX9_brings 13 = .ok (.iload_n 1, 1) := by decide +kernel
theorem dX9_brings_14 : decode cX9_brings 14 = .ok (.iconst 0, 1) := by decide +kernel
theorem dX9_brings_15 : decode cX9_brings 15 = .ok (.invokevirtual 176, 3) := by decide +kernel
theorem dX9_brings_18 : decode cX9_brings 18 = .ok (.goto 5, 3) := by decide +kernel
theorem dX9_brings_21 : decode cX9_brings 21 = .ok (.ldc 54, 2) := by decide +kernel
theorem dX9_brings_23 : decode cX9_brings 23 = .ok (.ireturn, 1) := by decide +kernel
set_option maxRecDepth 20000 in
theorem ggX9_leastRate_X9_in : GoodIn wsX9_leastRate wsX9_in := goodIn_r _ [6] (by decide +kernel) (by decide +kernel)
set_option maxRecDepth 20000 in
theorem gX9_leastRate_X9_in : GoodIn wsX9_leastRate (va_wsS RX9 50 yX9_in wsX9_in) := goodIn_app (goodIn_of _ (by decide +kernel)) ggX9_leastRate_X9_in
set_option maxRecDepth 20000 in
theorem ggX9_leastRate_X9_bringsBy : GoodIn wsX9_leastRate wsX9_bringsBy := goodIn_r _ [10, 11, 12, 13, 5, 14, 15, 16, 17, 18, 19, 20, 21, 22, 23, 24, 25, 26, 27, 28, 29, 30, 31, 32, 33, 34, 35, 36, 37, 38, 39, 40, 41, 42, 43, 44] (by decide +kernel) (by decide +kernel)
set_option maxRecDepth 20000 in
theorem gX9_leastRate_X9_bringsBy : GoodIn wsX9_leastRate (wsV RX9 176 RX9 yX9_bringsBy wsX9_bringsBy) := goodIn_app (goodIn_of _ (by decide +kernel)) ggX9_leastRate_X9_bringsBy
theorem dX9_leastRate_0 : decode cX9_leastRate 0 = .ok (.iload_n 1, 1) := by decide +kernel
theorem dX9_leastRate_1 : decode cX9_leastRate 1 = .ok (.i2l, 1) := by decide +kernel
theorem dX9_leastRate_2 : decode cX9_leastRate 2 = .ok (.lconst 0, 1) := by decide +kernel
theorem dX9_leastRate_3 : decode cX9_leastRate 3 = .ok (.ldc2_w 179, 3) := by decide +kernel
theorem dX9_leastRate_6 : decode cX9_leastRate 6 = .ok (.invokestatic 50, 3) := by decide +kernel
theorem dX9_leastRate_9 : decode cX9_leastRate 9 = .ok (.ifCond .ne 6, 3) := by decide +kernel
theorem dX9_leastRate_12 : decode cX9_leastRate 12 = .ok (.ldc 54, 2) := by decide +kernel
theorem dX9_leastRate_14 : decode cX9_leastRate 14 = .ok (.ireturn, 1) := by decide +kernel
theorem dX9_leastRate_15 : decode cX9_leastRate 15 = .ok (.iconst 0, 1) := by decide +kernel
theorem dX9_leastRate_16 : decode cX9_leastRate 16 = .ok (.istore_n 2, 1) := by decide +kernel
theorem dX9_leastRate_17 : decode cX9_leastRate 17 = .ok (.iload_n 2, 1) := by decide +kernel
theorem dX9_leastRate_18 : decode cX9_leastRate 18 = .ok (.bipush 100, 2) := by decide +kernel
theorem dX9_leastRate_20 : decode cX9_leastRate 20 = .ok (.if_icmp .gt 21, 3) := by decide +kernel
theorem dX9_leastRate_23 : decode cX9_leastRate 23 = .ok (.aload_n 0, 1) := by decide +kernel
theorem dX9_leastRate_24 : decode cX9_leastRate 24 = .ok (.iload_n 2, 1) := by decide +kernel
theorem dX9_leastRate_25 : decode cX9_leastRate 25 = .ok (.iconst 0, 1) := by decide +kernel
theorem dX9_leastRate_26 : decode cX9_leastRate 26 = .ok (.invokevirtual 176, 3) := by decide +kernel
theorem dX9_leastRate_29 : decode cX9_leastRate 29 = .ok (.iload_n 1, 1) := by decide +kernel
theorem dX9_leastRate_30 : decode cX9_leastRate 30 = .ok (.if_icmp .lt 5, 3) := by decide +kernel
theorem dX9_leastRate_33 : decode cX9_leastRate 33 = .ok (.iload_n 2, 1) := by decide +kernel
theorem dX9_leastRate_34 : decode cX9_leastRate 34 = .ok (.ireturn, 1) := by decide +kernel
theorem dX9_leastRate_35 : decode cX9_leastRate 35 = .ok (.iinc 2 1, 3) := by decide +kernel
theorem dX9_leastRate_38 : decode cX9_leastRate 38 = .ok (.goto (-21), 3) := by decide +kernel
theorem dX9_leastRate_41 : decode cX9_leastRate 41 = .ok (.iconst (-1), 1) := by decide +kernel
theorem dX9_leastRate_42 : decode cX9_leastRate 42 = .ok (.ireturn, 1) := by decide +kernel
set_option maxRecDepth 20000 in
theorem ggX9_rateOfMost_X9_bringsBy : GoodIn wsX9_rateOfMost wsX9_bringsBy := goodIn_r _ [5, 6, 7, 8, 4, 9, 10, 11, 12, 13, 14, 15, 16, 17, 18, 19, 20, 21, 22, 23, 24, 25, 26, 27, 28, 29, 30, 31, 32, 33, 34, 35, 36, 37, 38, 39] (by decide +kernel) (by decide +kernel)
set_option maxRecDepth 20000 in
theorem gX9_rateOfMost_X9_bringsBy : GoodIn wsX9_rateOfMost (wsV RX9 176 RX9 yX9_bringsBy wsX9_bringsBy) := goodIn_app (goodIn_of _ (by decide +kernel)) ggX9_rateOfMost_X9_bringsBy
theorem dX9_rateOfMost_0 : decode cX9_rateOfMost 0 = .ok (.iconst 0, 1) := by decide +kernel
theorem dX9_rateOfMost_1 : decode cX9_rateOfMost 1 = .ok (.istore_n 1, 1) := by decide +kernel
theorem dX9_rateOfMost_2 : decode cX9_rateOfMost 2 = .ok (.iconst 1, 1) := by decide +kernel
theorem dX9_rateOfMost_3 : decode cX9_rateOfMost 3 = .ok (.istore_n 2, 1) := by decide +kernel
theorem dX9_rateOfMost_4 : decode cX9_rateOfMost 4 = .ok (.iload_n 2, 1) := by decide +kernel
theorem dX9_rateOfMost_5 : decode cX9_rateOfMost 5 = .ok (.bipush 100, 2) := by decide +kernel
theorem dX9_rateOfMost_7 : decode cX9_rateOfMost 7 = .ok (.if_icmp .gt 30, 3) := by decide +kernel
theorem dX9_rateOfMost_10 : decode cX9_rateOfMost 10 = .ok (.aload_n 0, 1) := by decide +kernel
theorem dX9_rateOfMost_11 : decode cX9_rateOfMost 11 = .ok (.iload_n 2, 1) := by decide +kernel
theorem dX9_rateOfMost_12 : decode cX9_rateOfMost 12 = .ok (.iconst 0, 1) := by decide +kernel
theorem dX9_rateOfMost_13 : decode cX9_rateOfMost 13 = .ok (.invokevirtual 176, 3) := by decide +kernel
theorem dX9_rateOfMost_16 : decode cX9_rateOfMost 16 = .ok (.aload_n 0, 1) := by decide +kernel
theorem dX9_rateOfMost_17 : decode cX9_rateOfMost 17 = .ok (.iload_n 1, 1) := by decide +kernel
theorem dX9_rateOfMost_18 : decode cX9_rateOfMost 18 = .ok (.iconst 0, 1) := by decide +kernel
theorem dX9_rateOfMost_19 : decode cX9_rateOfMost 19 = .ok (.invokevirtual 176, 3) := by decide +kernel
theorem dX9_rateOfMost_22 : decode cX9_rateOfMost 22 = .ok (.if_icmp .le 7, 3) := by decide +kernel
theorem dX9_rateOfMost_25 : decode cX9_rateOfMost 25 = .ok (.iload_n 2, 1) := by decide +kernel
theorem dX9_rateOfMost_26 : decode cX9_rateOfMost 26 = .ok (.goto 4, 3) := by decide +kernel
theorem dX9_rateOfMost_29 : decode cX9_rateOfMost 29 = .ok (.iload_n 1, 1) := by decide +kernel
theorem dX9_rateOfMost_30 : decode cX9_rateOfMost 30 = .ok (.istore_n 1, 1) := by decide +kernel
theorem dX9_rateOfMost_31 : decode cX9_rateOfMost 31 = .ok (.iinc 2 1, 3) := by decide +kernel
theorem dX9_rateOfMost_34 : decode cX9_rateOfMost 34 = .ok (.goto (-30), 3) := by decide +kernel
theorem dX9_rateOfMost_37 : decode cX9_rateOfMost 37 = .ok (.iload_n 1, 1) := by decide +kernel
theorem dX9_rateOfMost_38 : decode cX9_rateOfMost 38 = .ok (.ireturn, 1) := by decide +kernel
set_option maxRecDepth 20000 in
theorem ggX9_spread_X9_isPayer : GoodIn wsX9_spread wsX9_isPayer := goodIn_r _ [9, 4, 10, 11, 8, 12, 26, 27, 28, 29, 30, 31, 32, 33, 34, 35, 36, 37, 38, 39, 40, 41, 42, 43, 44, 45, 46] (by decide +kernel) (by decide +kernel)
set_option maxRecDepth 20000 in
theorem gX9_spread_X9_isPayer : GoodIn wsX9_spread (wsV RX9 123 RX9 yX9_isPayer wsX9_isPayer) := goodIn_app (goodIn_of _ (by decide +kernel)) ggX9_spread_X9_isPayer
set_option maxRecDepth 20000 in
theorem ggX9_spread_X9_in : GoodIn wsX9_spread wsX9_in := goodIn_r _ [12] (by decide +kernel) (by decide +kernel)
set_option maxRecDepth 20000 in
theorem gX9_spread_X9_in : GoodIn wsX9_spread (va_wsS RX9 50 yX9_in wsX9_in) := goodIn_app (goodIn_of _ (by decide +kernel)) ggX9_spread_X9_in
set_option maxRecDepth 20000 in
theorem ggX9_spread_X9_paysBy : GoodIn wsX9_spread wsX9_paysBy := goodIn_r _ [16, 17, 18, 19, 8, 20, 4, 21, 26, 27, 28, 29, 30, 31, 32, 33, 34, 35, 36, 37, 38, 39, 40, 41, 42, 43, 44, 45, 46] (by decide +kernel) (by decide +kernel)
set_option maxRecDepth 20000 in
theorem gX9_spread_X9_paysBy : GoodIn wsX9_spread (wsV RX9 130 RX9 yX9_paysBy wsX9_paysBy) := goodIn_app (goodIn_of _ (by decide +kernel)) ggX9_spread_X9_paysBy
set_option maxRecDepth 20000 in
theorem ggX9_spread_X9_hiddenBy : GoodIn wsX9_spread wsX9_hiddenBy := goodIn_r _ [25, 21, 17, 18, 19, 8, 20, 4, 26, 27, 28, 29, 30, 31, 32, 33, 34, 35, 36, 37, 38, 39, 40, 41, 42, 43, 44, 45, 46] (by decide +kernel) (by decide +kernel)
set_option maxRecDepth 20000 in
theorem gX9_spread_X9_hiddenBy : GoodIn wsX9_spread (wsV RX9 127 RX9 yX9_hiddenBy wsX9_hiddenBy) := goodIn_app (goodIn_of _ (by decide +kernel)) ggX9_spread_X9_hiddenBy
theorem dX9_spread_0 : decode cX9_spread 0 = .ok (.iload_n 2, 1) := by decide +kernel
theorem dX9_spread_1 : decode cX9_spread 1 = .ok (.iconst (-1), 1) := by decide +kernel
theorem dX9_spread_2 : decode cX9_spread 2 = .ok (.if_icmp .eq 14, 3) := by decide +kernel
theorem dX9_spread_5 : decode cX9_spread 5 = .ok (.aload_n 0, 1) := by decide +kernel
theorem dX9_spread_6 : decode cX9_spread 6 = .ok (.iload_n 2, 1) := by decide +kernel
theorem dX9_spread_7 : decode cX9_spread 7 = .ok (.invokevirtual 123, 3) := by decide +kernel
theorem dX9_spread_10 : decode cX9_spread 10 = .ok (.ifCond .ne 6, 3) := by decide +kernel
theorem dX9_spread_13 : decode cX9_spread 13 = .ok (.ldc 126, 2) := by decide +kernel
theorem dX9_spread_15 : decode cX9_spread 15 = .ok (.ireturn, 1) := by decide +kernel
theorem dX9_spread_16 : decode cX9_spread 16 = .ok (.iload_n 1, 1) := by decide +kernel
theorem dX9_spread_17 : decode cX9_spread 17 = .ok (.i2l, 1) := by decide +kernel
theorem dX9_spread_18 : decode cX9_spread 18 = .ok (.lconst 0, 1) := by decide +kernel
theorem dX9_spread_19 : decode cX9_spread 19 = .ok (.ldc2_w 179, 3) := by decide +kernel
theorem dX9_spread_22 : decode cX9_spread 22 = .ok (.invokestatic 50, 3) := by decide +kernel
theorem dX9_spread_25 : decode cX9_spread 25 = .ok (.ifCond .ne 6, 3) := by decide +kernel
theorem dX9_spread_28 : decode cX9_spread 28 = .ok (.ldc 54, 2) := by decide +kernel
theorem dX9_spread_30 : decode cX9_spread 30 = .ok (.ireturn, 1) := by decide +kernel
theorem dX9_spread_31 : decode cX9_spread 31 = .ok (.iconst 1, 1) := by decide +kernel
theorem dX9_spread_32 : decode cX9_spread 32 = .ok (.istore_n 3, 1) := by decide +kernel
theorem dX9_spread_33 : decode cX9_spread 33 = .ok (.iconst 0, 1) := by decide +kernel
theorem dX9_spread_34 : decode cX9_spread 34 = .ok (.istore 4, 2) := by decide +kernel
theorem dX9_spread_36 : decode cX9_spread 36 = .ok (.iload 4, 2) := by decide +kernel
theorem dX9_spread_38 : decode cX9_spread 38 = .ok (.aload_n 0, 1) := by decide +kernel
theorem dX9_spread_39 : decode cX9_spread 39 = .ok (.getfield 7, 3) := by decide +kernel
theorem dX9_spread_42 : decode cX9_spread 42 = .ok (.iconst 2, 1) := by decide +kernel
theorem dX9_spread_43 : decode cX9_spread 43 = .ok (.iaload, 1) := by decide +kernel
theorem dX9_spread_44 : decode cX9_spread 44 = .ok (.if_icmp .ge 13, 3) := by decide +kernel
theorem dX9_spread_47 : decode cX9_spread 47 = .ok (.iload_n 3, 1) := by decide +kernel
theorem dX9_spread_48 : decode cX9_spread 48 = .ok (.iconst 5, 1) := by decide +kernel
theorem dX9_spread_49 : decode cX9_spread 49 = .ok (.imul, 1) := by decide +kernel
theorem dX9_spread_50 : decode cX9_spread 50 = .ok (.istore_n 3, 1) := by decide +kernel
theorem dX9_spread_51 : decode cX9_spread 51 = .ok (.iinc 4 1, 3) := by decide +kernel
theorem dX9_spread_54 : decode cX9_spread 54 = .ok (.goto (-18), 3) := by decide +kernel
theorem dX9_spread_57 : decode cX9_spread 57 = .ok (.iconst (-1), 1) := by decide +kernel
theorem dX9_spread_58 : decode cX9_spread 58 = .ok (.istore 4, 2) := by decide +kernel
theorem dX9_spread_60 : decode cX9_spread 60 = .ok (.iconst 0, 1) := by decide +kernel
theorem dX9_spread_61 : decode cX9_spread 61 = .ok (.istore 5, 2) := by decide +kernel
theorem dX9_spread_63 : decode cX9_spread 63 = .ok (.iconst 0, 1) := by decide +kernel
theorem dX9_spread_64 : decode cX9_spread 64 = .ok (.istore 6, 2) := by decide +kernel
theorem dX9_spread_66 : decode cX9_spread 66 = .ok (.iload 6, 2) := by decide +kernel
theorem dX9_spread_68 : decode cX9_spread 68 = .ok (.iload_n 3, 1) := by decide +kernel
theorem dX9_spread_69 : decode cX9_spread 69 = .ok (.if_icmp .ge 107, 3) := by decide +kernel
theorem dX9_spread_72 : decode cX9_spread 72 = .ok (.iload 6, 2) := by decide +kernel
theorem dX9_spread_74 : decode cX9_spread 74 = .ok (.istore 7, 2) := by decide +kernel
theorem dX9_spread_76 : decode cX9_spread 76 = .ok (.iconst 0, 1) := by decide +kernel
theorem dX9_spread_77 : decode cX9_spread 77 = .ok (.istore 8, 2) := by decide +kernel
theorem dX9_spread_79 : decode cX9_spread 79 = .ok (.iconst 0, 1) := by decide +kernel
theorem dX9_spread_80 : decode cX9_spread 80 = .ok (.istore 9, 2) := by decide +kernel
theorem dX9_spread_82 : decode cX9_spread 82 = .ok (.aload_n 0, 1) := by decide +kernel
theorem dX9_spread_83 : decode cX9_spread 83 = .ok (.getfield 7, 3) := by decide +kernel
theorem dX9_spread_86 : decode cX9_spread 86 = .ok (.iconst 2, 1) := by decide +kernel
theorem dX9_spread_87 : decode cX9_spread 87 = .ok (.iaload, 1) := by decide +kernel
theorem dX9_spread_88 : decode cX9_spread 88 = .ok (.iconst 1, 1) := by decide +kernel
theorem dX9_spread_89 : decode cX9_spread 89 = .ok (.isub, 1) := by decide +kernel
theorem dX9_spread_90 : decode cX9_spread 90 = .ok (.istore 10, 2) := by decide +kernel
theorem dX9_spread_92 : decode cX9_spread 92 = .ok (.iload 10, 2) := by decide +kernel
theorem dX9_spread_94 : decode cX9_spread 94 = .ok (.ifCond .lt 50, 3) := by decide +kernel
theorem dX9_spread_97 : decode cX9_spread 97 = .ok (.iload 7, 2) := by decide +kernel
theorem dX9_spread_99 : decode cX9_spread 99 = .ok (.iconst 5, 1) := by decide +kernel
theorem dX9_spread_100 : decode cX9_spread 100 = .ok (.irem, 1) := by decide +kernel
theorem dX9_spread_101 : decode cX9_spread 101 = .ok (.bipush 25, 2) := by decide +kernel
theorem dX9_spread_103 : decode cX9_spread 103 = .ok (.imul, 1) := by decide +kernel
theorem dX9_spread_104 : decode cX9_spread 104 = .ok (.istore 11, 2) := by decide +kernel
theorem dX9_spread_106 : decode cX9_spread 106 = .ok (.iload 7, 2) := by decide +kernel
theorem dX9_spread_108 : decode cX9_spread 108 = .ok (.iconst 5, 1) := by decide +kernel
theorem dX9_spread_109 : decode cX9_spread 109 = .ok (.idiv, 1) := by decide +kernel
theorem dX9_spread_110 : decode cX9_spread 110 = .ok (.istore 7, 2) := by decide +kernel
theorem dX9_spread_112 : decode cX9_spread 112 = .ok (.iload 8, 2) := by decide +kernel
theorem dX9_spread_114 : decode cX9_spread 114 = .ok (.aload_n 0, 1) := by decide +kernel
theorem dX9_spread_115 : decode cX9_spread 115 = .ok (.iload 10, 2) := by decide +kernel
theorem dX9_spread_117 : decode cX9_spread 117 = .ok (.iload 11, 2) := by decide +kernel
theorem dX9_spread_119 : decode cX9_spread 119 = .ok (.invokevirtual 130, 3) := by decide +kernel
theorem dX9_spread_122 : decode cX9_spread 122 = .ok (.iadd, 1) := by decide +kernel
theorem dX9_spread_123 : decode cX9_spread 123 = .ok (.istore 8, 2) := by decide +kernel
theorem dX9_spread_125 : decode cX9_spread 125 = .ok (.iload 9, 2) := by decide +kernel
theorem dX9_spread_127 : decode cX9_spread 127 = .ok (.aload_n 0, 1) := by decide +kernel
theorem dX9_spread_128 : decode cX9_spread 128 = .ok (.iload 10, 2) := by decide +kernel
theorem dX9_spread_130 : decode cX9_spread 130 = .ok (.iload 11, 2) := by decide +kernel
theorem dX9_spread_132 : decode cX9_spread 132 = .ok (.invokevirtual 127, 3) := by decide +kernel
theorem dX9_spread_135 : decode cX9_spread 135 = .ok (.iadd, 1) := by decide +kernel
theorem dX9_spread_136 : decode cX9_spread 136 = .ok (.istore 9, 2) := by decide +kernel
theorem dX9_spread_138 : decode cX9_spread 138 = .ok (.iinc 10 (-1), 3) := by decide +kernel
theorem dX9_spread_141 : decode cX9_spread 141 = .ok (.goto (-49), 3) := by decide +kernel
theorem dX9_spread_144 : decode cX9_spread 144 = .ok (.iload 8, 2) := by decide +kernel
theorem dX9_spread_146 : decode cX9_spread 146 = .ok (.iload_n 1, 1) := by decide +kernel
theorem dX9_spread_147 : decode cX9_spread 147 = .ok (.if_icmp .lt 23, 3) := by decide +kernel
theorem dX9_spread_150 : decode cX9_spread 150 = .ok (.iload 4, 2) := by decide +kernel
theorem dX9_spread_152 : decode cX9_spread 152 = .ok (.ifCond .lt 10, 3) := by decide +kernel
theorem dX9_spread_155 : decode cX9_spread 155 = .ok (.iload 9, 2) := by decide +kernel
theorem dX9_spread_157 : decode cX9_spread 157 = .ok (.iload 4, 2) := by decide +kernel
theorem dX9_spread_159 : decode cX9_spread 159 = .ok (.if_icmp .ge 11, 3) := by decide +kernel
theorem dX9_spread_162 : decode cX9_spread 162 = .ok (.iload 9, 2) := by decide +kernel
theorem dX9_spread_164 : decode cX9_spread 164 = .ok (.istore 4, 2) := by decide +kernel
theorem dX9_spread_166 : decode cX9_spread 166 = .ok (.iload 6, 2) := by decide +kernel
theorem dX9_spread_168 : decode cX9_spread 168 = .ok (.istore 5, 2) := by decide +kernel
theorem dX9_spread_170 : decode cX9_spread 170 = .ok (.iinc 6 1, 3) := by decide +kernel
theorem dX9_spread_173 : decode cX9_spread 173 = .ok (.goto (-107), 3) := by decide +kernel
theorem dX9_spread_176 : decode cX9_spread 176 = .ok (.iload 4, 2) := by decide +kernel
theorem dX9_spread_178 : decode cX9_spread 178 = .ok (.ifCond .lt 7, 3) := by decide +kernel
theorem dX9_spread_181 : decode cX9_spread 181 = .ok (.iload_n 2, 1) := by decide +kernel
theorem dX9_spread_182 : decode cX9_spread 182 = .ok (.ifCond .ge 6, 3) := by decide +kernel
theorem dX9_spread_185 : decode cX9_spread 185 = .ok (.iload 4, 2) := by decide +kernel
theorem dX9_spread_187 : decode cX9_spread 187 = .ok (.ireturn, 1) := by decide +kernel
theorem dX9_spread_188 : decode cX9_spread 188 = .ok (.aload_n 0, 1) := by decide +kernel
theorem dX9_spread_189 : decode cX9_spread 189 = .ok (.getfield 7, 3) := by decide +kernel
theorem dX9_spread_192 : decode cX9_spread 192 = .ok (.iconst 2, 1) := by decide +kernel
theorem dX9_spread_193 : decode cX9_spread 193 = .ok (.iaload, 1) := by decide +kernel
theorem dX9_spread_194 : decode cX9_spread 194 = .ok (.iconst 1, 1) := by decide +kernel
theorem dX9_spread_195 : decode cX9_spread 195 = .ok (.isub, 1) := by decide +kernel
theorem dX9_spread_196 : decode cX9_spread 196 = .ok (.istore 6, 2) := by decide +kernel
theorem dX9_spread_198 : decode cX9_spread 198 = .ok (.iload 6, 2) := by decide +kernel
theorem dX9_spread_200 : decode cX9_spread 200 = .ok (.iload_n 2, 1) := by decide +kernel
theorem dX9_spread_201 : decode cX9_spread 201 = .ok (.if_icmp .le 15, 3) := by decide +kernel
theorem dX9_spread_204 : decode cX9_spread 204 = .ok (.iload 5, 2) := by decide +kernel
theorem dX9_spread_206 : decode cX9_spread 206 = .ok (.iconst 5, 1) := by decide +kernel
theorem dX9_spread_207 : decode cX9_spread 207 = .ok (.idiv, 1) := by decide +kernel
theorem dX9_spread_208 : decode cX9_spread 208 = .ok (.istore 5, 2) := by decide +kernel
theorem dX9_spread_210 : decode cX9_spread 210 = .ok (.iinc 6 (-1), 3) := by decide +kernel
theorem dX9_spread_213 : decode cX9_spread 213 = .ok (.goto (-15), 3) := by decide +kernel
theorem dX9_spread_216 : decode cX9_spread 216 = .ok (.iload 5, 2) := by decide +kernel
theorem dX9_spread_218 : decode cX9_spread 218 = .ok (.iconst 5, 1) := by decide +kernel
theorem dX9_spread_219 : decode cX9_spread 219 = .ok (.irem, 1) := by decide +kernel
theorem dX9_spread_220 : decode cX9_spread 220 = .ok (.bipush 25, 2) := by decide +kernel
theorem dX9_spread_222 : decode cX9_spread 222 = .ok (.imul, 1) := by decide +kernel
theorem dX9_spread_223 : decode cX9_spread 223 = .ok (.ireturn, 1) := by decide +kernel
set_option maxRecDepth 20000 in
theorem ggX9_sell_X9_in : GoodIn wsX9_sell wsX9_in := goodIn_r _ [8] (by decide +kernel) (by decide +kernel)
set_option maxRecDepth 20000 in
theorem gX9_sell_X9_in : GoodIn wsX9_sell (va_wsS RX9 50 yX9_in wsX9_in) := goodIn_app (goodIn_of _ (by decide +kernel)) ggX9_sell_X9_in
theorem dX9_sell_0 : decode cX9_sell 0 = .ok (.iload_n 1, 1) := by decide +kernel
theorem dX9_sell_1 : decode cX9_sell 1 = .ok (.i2l, 1) := by decide +kernel
theorem dX9_sell_2 : decode cX9_sell 2 = .ok (.lconst 0, 1) := by decide +kernel
theorem dX9_sell_3 : decode cX9_sell 3 = .ok (.ldc2_w 181, 3) := by decide +kernel
theorem dX9_sell_6 : decode cX9_sell 6 = .ok (.invokestatic 50, 3) := by decide +kernel
theorem dX9_sell_9 : decode cX9_sell 9 = .ok (.ifCond .eq 13, 3) := by decide +kernel
theorem dX9_sell_12 : decode cX9_sell 12 = .ok (.iload_n 2, 1) := by decide +kernel
theorem dX9_sell_13 : decode cX9_sell 13 = .ok (.i2l, 1) := by decide +kernel
theorem dX9_sell_14 : decode cX9_sell 14 = .ok (.lconst 0, 1) := by decide +kernel
theorem dX9_sell_15 : decode cX9_sell 15 = .ok (.lconst 1, 1) := by decide +kernel
theorem dX9_sell_16 : decode cX9_sell 16 = .ok (.invokestatic 50, 3) := by decide +kernel
theorem dX9_sell_19 : decode cX9_sell 19 = .ok (.ifCond .ne 6, 3) := by decide +kernel
theorem dX9_sell_22 : decode cX9_sell 22 = .ok (.ldc 54, 2) := by decide +kernel
theorem dX9_sell_24 : decode cX9_sell 24 = .ok (.ireturn, 1) := by decide +kernel
theorem dX9_sell_25 : decode cX9_sell 25 = .ok (.aload_n 0, 1) := by decide +kernel
theorem dX9_sell_26 : decode cX9_sell 26 = .ok (.getfield 13, 3) := by decide +kernel
theorem dX9_sell_29 : decode cX9_sell 29 = .ok (.bipush 14, 2) := by decide +kernel
theorem dX9_sell_31 : decode cX9_sell 31 = .ok (.iaload, 1) := by decide +kernel
theorem dX9_sell_32 : decode cX9_sell 32 = .ok (.istore_n 3, 1) := by decide +kernel
theorem dX9_sell_33 : decode cX9_sell 33 = .ok (.iconst (-1), 1) := by decide +kernel
theorem dX9_sell_34 : decode cX9_sell 34 = .ok (.istore 4, 2) := by decide +kernel
theorem dX9_sell_36 : decode cX9_sell 36 = .ok (.aload_n 0, 1) := by decide +kernel
theorem dX9_sell_37 : decode cX9_sell 37 = .ok (.getfield 7, 3) := by decide +kernel
theorem dX9_sell_40 : decode cX9_sell 40 = .ok (.iconst 3, 1) := by decide +kernel
theorem dX9_sell_41 : decode cX9_sell 41 = .ok (.iaload, 1) := by decide +kernel
theorem dX9_sell_42 : decode cX9_sell 42 = .ok (.iconst 1, 1) := by decide +kernel
theorem dX9_sell_43 : decode cX9_sell 43 = .ok (.isub, 1) := by decide +kernel
theorem dX9_sell_44 : decode cX9_sell 44 = .ok (.istore 5, 2) := by decide +kernel
theorem dX9_sell_46 : decode cX9_sell 46 = .ok (.iload 5, 2) := by decide +kernel
theorem dX9_sell_48 : decode cX9_sell 48 = .ok (.iload_n 1, 1) := by decide +kernel
theorem dX9_sell_49 : decode cX9_sell 49 = .ok (.if_icmp .lt 82, 3) := by decide +kernel
theorem dX9_sell_52 : decode cX9_sell 52 = .ok (.iload_n 3, 1) := by decide +kernel
theorem dX9_sell_53 : decode cX9_sell 53 = .ok (.bipush 100, 2) := by decide +kernel
theorem dX9_sell_55 : decode cX9_sell 55 = .ok (.aload_n 0, 1) := by decide +kernel
theorem dX9_sell_56 : decode cX9_sell 56 = .ok (.getfield 7, 3) := by decide +kernel
theorem dX9_sell_59 : decode cX9_sell 59 = .ok (.iconst 1, 1) := by decide +kernel
theorem dX9_sell_60 : decode cX9_sell 60 = .ok (.iaload, 1) := by decide +kernel
theorem dX9_sell_61 : decode cX9_sell 61 = .ok (.isub, 1) := by decide +kernel
theorem dX9_sell_62 : decode cX9_sell 62 = .ok (.imul, 1) := by decide +kernel
theorem dX9_sell_63 : decode cX9_sell 63 = .ok (.bipush 100, 2) := by decide +kernel
theorem dX9_sell_65 : decode cX9_sell 65 = .ok (.idiv, 1) := by decide +kernel
theorem dX9_sell_66 : decode cX9_sell 66 = .ok (.istore 6, 2) := by decide +kernel
theorem dX9_sell_68 : decode cX9_sell 68 = .ok (.aload_n 0, 1) := by decide +kernel
theorem dX9_sell_69 : decode cX9_sell 69 = .ok (.getfield 7, 3) := by decide +kernel
theorem dX9_sell_72 : decode cX9_sell 72 = .ok (.bipush 19, 2) := by decide +kernel
theorem dX9_sell_74 : decode cX9_sell 74 = .ok (.iload 5, 2) := by decide +kernel
theorem dX9_sell_76 : decode cX9_sell 76 = .ok (.iadd, 1) := by decide +kernel
theorem dX9_sell_77 : decode cX9_sell 77 = .ok (.iaload, 1) := by decide +kernel
theorem dX9_sell_78 : decode cX9_sell 78 = .ok (.iload 6, 2) := by decide +kernel
theorem dX9_sell_80 : decode cX9_sell 80 = .ok (.if_icmp .lt 7, 3) := by decide +kernel
theorem dX9_sell_83 : decode cX9_sell 83 = .ok (.iconst 1, 1) := by decide +kernel
theorem dX9_sell_84 : decode cX9_sell 84 = .ok (.goto 4, 3) := by decide +kernel
theorem dX9_sell_87 : decode cX9_sell 87 = .ok (.iconst 0, 1) := by decide +kernel
theorem dX9_sell_88 : decode cX9_sell 88 = .ok (.istore 7, 2) := by decide +kernel
theorem dX9_sell_90 : decode cX9_sell 90 = .ok (.iload 7, 2) := by decide +kernel
theorem dX9_sell_92 : decode cX9_sell 92 = .ok (.ifCond .eq 16, 3) := by decide +kernel
theorem dX9_sell_95 : decode cX9_sell 95 = .ok (.aload_n 0, 1) := by decide +kernel
theorem dX9_sell_96 : decode cX9_sell 96 = .ok (.getfield 7, 3) := by decide +kernel
theorem dX9_sell_99 : decode cX9_sell 99 = .ok (.bipush 19, 2) := by decide +kernel
theorem dX9_sell_101 : decode cX9_sell 101 = .ok (.iload 5, 2) := by decide +kernel
theorem dX9_sell_103 : decode cX9_sell 103 = .ok (.iadd, 1) := by decide +kernel
theorem dX9_sell_104 : decode cX9_sell 104 = .ok (.iaload, 1) := by decide +kernel
theorem dX9_sell_105 : decode cX9_sell 105 = .ok (.goto 5, 3) := by decide +kernel
theorem dX9_sell_108 : decode cX9_sell 108 = .ok (.iload 6, 2) := by decide +kernel
theorem dX9_sell_110 : decode cX9_sell 110 = .ok (.istore_n 3, 1) := by decide +kernel
theorem dX9_sell_111 : decode cX9_sell 111 = .ok (.iload 7, 2) := by decide +kernel
theorem dX9_sell_113 : decode cX9_sell 113 = .ok (.ifCond .eq 8, 3) := by decide +kernel
theorem dX9_sell_116 : decode cX9_sell 116 = .ok (.iload 5, 2) := by decide +kernel
theorem dX9_sell_118 : decode cX9_sell 118 = .ok (.goto 5, 3) := by decide +kernel
theorem dX9_sell_121 : decode cX9_sell 121 = .ok (.iload 4, 2) := by decide +kernel
theorem dX9_sell_123 : decode cX9_sell 123 = .ok (.istore 4, 2) := by decide +kernel
theorem dX9_sell_125 : decode cX9_sell 125 = .ok (.iinc 5 (-1), 3) := by decide +kernel
theorem dX9_sell_128 : decode cX9_sell 128 = .ok (.goto (-82), 3) := by decide +kernel
theorem dX9_sell_131 : decode cX9_sell 131 = .ok (.iload_n 2, 1) := by decide +kernel
theorem dX9_sell_132 : decode cX9_sell 132 = .ok (.ifCond .ne 7, 3) := by decide +kernel
theorem dX9_sell_135 : decode cX9_sell 135 = .ok (.iload_n 3, 1) := by decide +kernel
theorem dX9_sell_136 : decode cX9_sell 136 = .ok (.goto 5, 3) := by decide +kernel
theorem dX9_sell_139 : decode cX9_sell 139 = .ok (.iload 4, 2) := by decide +kernel
theorem dX9_sell_141 : decode cX9_sell 141 = .ok (.ireturn, 1) := by decide +kernel
set_option maxRecDepth 20000 in
theorem ggX9_homeOrder_X9_has : GoodIn wsX9_homeOrder wsX9_has := goodIn_r _ [6] (by decide +kernel) (by decide +kernel)
set_option maxRecDepth 20000 in
theorem gX9_homeOrder_X9_has : GoodIn wsX9_homeOrder (va_wsS RX9 172 yX9_has wsX9_has) := goodIn_app (goodIn_of _ (by decide +kernel)) ggX9_homeOrder_X9_has
theorem dX9_homeOrder_0 : decode cX9_homeOrder 0 = .ok (.aload_n 0, 1) := by decide +kernel
theorem dX9_homeOrder_1 : decode cX9_homeOrder 1 = .ok (.getfield 13, 3) := by decide +kernel
theorem dX9_homeOrder_4 : decode cX9_homeOrder 4 = .ok (.bipush 15, 2) := by decide +kernel
theorem dX9_homeOrder_6 : decode cX9_homeOrder 6 = .ok (.iaload, 1) := by decide +kernel
theorem dX9_homeOrder_7 : decode cX9_homeOrder 7 = .ok (.istore_n 2, 1) := by decide +kernel
theorem dX9_homeOrder_8 : decode cX9_homeOrder 8 = .ok (.iconst 0, 1) := by decide +kernel
theorem dX9_homeOrder_9 : decode cX9_homeOrder 9 = .ok (.istore_n 3, 1) := by decide +kernel
theorem dX9_homeOrder_10 : decode cX9_homeOrder 10 = .ok (.iconst 0, 1) := by decide +kernel
theorem dX9_homeOrder_11 : decode cX9_homeOrder 11 = .ok (.istore 4, 2) := by decide +kernel
theorem dX9_homeOrder_13 : decode cX9_homeOrder 13 = .ok (.iconst (-1), 1) := by decide +kernel
theorem dX9_homeOrder_14 : decode cX9_homeOrder 14 = .ok (.istore 5, 2) := by decide +kernel
theorem dX9_homeOrder_16 : decode cX9_homeOrder 16 = .ok (.iconst 0, 1) := by decide +kernel
theorem dX9_homeOrder_17 : decode cX9_homeOrder 17 = .ok (.istore 6, 2) := by decide +kernel
theorem dX9_homeOrder_19 : decode cX9_homeOrder 19 = .ok (.iload_n 2, 1) := by decide +kernel
theorem dX9_homeOrder_20 : decode cX9_homeOrder 20 = .ok (.ifCond .eq 122, 3) := by decide +kernel
theorem dX9_homeOrder_23 : decode cX9_homeOrder 23 = .ok (.iconst (-1), 1) := by decide +kernel
theorem dX9_homeOrder_24 : decode cX9_homeOrder 24 = .ok (.istore 7, 2) := by decide +kernel
theorem dX9_homeOrder_26 : decode cX9_homeOrder 26 = .ok (.aload_n 0, 1) := by decide +kernel
theorem dX9_homeOrder_27 : decode cX9_homeOrder 27 = .ok (.getfield 7, 3) := by decide +kernel
theorem dX9_homeOrder_30 : decode cX9_homeOrder 30 = .ok (.iconst 4, 1) := by decide +kernel
theorem dX9_homeOrder_31 : decode cX9_homeOrder 31 = .ok (.iaload, 1) := by decide +kernel
theorem dX9_homeOrder_32 : decode cX9_homeOrder 32 = .ok (.iconst 1, 1) := by decide +kernel
theorem dX9_homeOrder_33 : decode cX9_homeOrder 33 = .ok (.isub, 1) := by decide +kernel
theorem dX9_homeOrder_34 : decode cX9_homeOrder 34 = .ok (.istore 8, 2) := by decide +kernel
theorem dX9_homeOrder_36 : decode cX9_homeOrder 36 = .ok (.iload 8, 2) := by decide +kernel
theorem dX9_homeOrder_38 : decode cX9_homeOrder 38 = .ok (.ifCond .lt 55, 3) := by decide +kernel
theorem dX9_homeOrder_41 : decode cX9_homeOrder 41 = .ok (.iload_n 2, 1) := by decide +kernel
theorem dX9_homeOrder_42 : decode cX9_homeOrder 42 = .ok (.iload 8, 2) := by decide +kernel
theorem dX9_homeOrder_44 : decode cX9_homeOrder 44 = .ok (.invokestatic 172, 3) := by decide +kernel
theorem dX9_homeOrder_47 : decode cX9_homeOrder 47 = .ok (.ifCond .eq 36, 3) := by decide +kernel
theorem dX9_homeOrder_50 : decode cX9_homeOrder 50 = .ok (.iload 7, 2) := by decide +kernel
theorem dX9_homeOrder_52 : decode cX9_homeOrder 52 = .ok (.ifCond .lt 26, 3) := by decide +kernel
theorem dX9_homeOrder_55 : decode cX9_homeOrder 55 = .ok (.aload_n 0, 1) := by decide +kernel
theorem dX9_homeOrder_56 : decode cX9_homeOrder 56 = .ok (.getfield 7, 3) := by decide +kernel
theorem dX9_homeOrder_59 : decode cX9_homeOrder 59 = .ok (.bipush 28, 2) := by decide +kernel
theorem dX9_homeOrder_61 : decode cX9_homeOrder 61 = .ok (.iload 8, 2) := by decide +kernel
theorem dX9_homeOrder_63 : decode cX9_homeOrder 63 = .ok (.iadd, 1) := by decide +kernel
theorem dX9_homeOrder_64 : decode cX9_homeOrder 64 = .ok (.iaload, 1) := by decide +kernel
theorem dX9_homeOrder_65 : decode cX9_homeOrder 65 = .ok (.aload_n 0, 1) := by decide +kernel
theorem dX9_homeOrder_66 : decode cX9_homeOrder 66 = .ok (.getfield 7, 3) := by decide +kernel
theorem dX9_homeOrder_69 : decode cX9_homeOrder 69 = .ok (.bipush 28, 2) := by decide +kernel
theorem dX9_homeOrder_71 : decode cX9_homeOrder 71 = .ok (.iload 7, 2) := by decide +kernel
theorem dX9_homeOrder_73 : decode cX9_homeOrder 73 = .ok (.iadd, 1) := by decide +kernel
theorem dX9_homeOrder_74 : decode cX9_homeOrder 74 = .ok (.iaload, 1) := by decide +kernel
theorem dX9_homeOrder_75 : decode cX9_homeOrder 75 = .ok (.if_icmp .gt 8, 3) := by decide +kernel
theorem dX9_homeOrder_78 : decode cX9_homeOrder 78 = .ok (.iload 8, 2) := by decide +kernel
theorem dX9_homeOrder_80 : decode cX9_homeOrder 80 = .ok (.goto 5, 3) := by decide +kernel
theorem dX9_homeOrder_83 : decode cX9_homeOrder 83 = .ok (.iload 7, 2) := by decide +kernel
theorem dX9_homeOrder_85 : decode cX9_homeOrder 85 = .ok (.istore 7, 2) := by decide +kernel
theorem dX9_homeOrder_87 : decode cX9_homeOrder 87 = .ok (.iinc 8 (-1), 3) := by decide +kernel
theorem dX9_homeOrder_90 : decode cX9_homeOrder 90 = .ok (.goto (-54), 3) := by decide +kernel
theorem dX9_homeOrder_93 : decode cX9_homeOrder 93 = .ok (.iload_n 2, 1) := by decide +kernel
theorem dX9_homeOrder_94 : decode cX9_homeOrder 94 = .ok (.iconst 1, 1) := by decide +kernel
theorem dX9_homeOrder_95 : decode cX9_homeOrder 95 = .ok (.iload 7, 2) := by decide +kernel
theorem dX9_homeOrder_97 : decode cX9_homeOrder 97 = .ok (.ishl, 1) := by decide +kernel
theorem dX9_homeOrder_98 : decode cX9_homeOrder 98 = .ok (.iconst (-1), 1) := by decide +kernel
theorem dX9_homeOrder_99 : decode cX9_homeOrder 99 = .ok (.ixor, 1) := by decide +kernel
theorem dX9_homeOrder_100 : decode cX9_homeOrder 100 = .ok (.iand, 1) := by decide +kernel
theorem dX9_homeOrder_101 : decode cX9_homeOrder 101 = .ok (.istore_n 2, 1) := by decide +kernel
theorem dX9_homeOrder_102 : decode cX9_homeOrder 102 = .ok (.iload_n 3, 1) := by decide +kernel
theorem dX9_homeOrder_103 : decode cX9_homeOrder 103 = .ok (.aload_n 0, 1) := by decide +kernel
theorem dX9_homeOrder_104 : decode cX9_homeOrder 104 = .ok (.getfield 7, 3) := by decide +kernel
theorem dX9_homeOrder_107 : decode cX9_homeOrder 107 = .ok (.bipush 28, 2) := by decide +kernel
theorem dX9_homeOrder_109 : decode cX9_homeOrder 109 = .ok (.iload 7, 2) := by decide +kernel
theorem dX9_homeOrder_111 : decode cX9_homeOrder 111 = .ok (.iadd, 1) := by decide +kernel
theorem dX9_homeOrder_112 : decode cX9_homeOrder 112 = .ok (.iaload, 1) := by decide +kernel
theorem dX9_homeOrder_113 : decode cX9_homeOrder 113 = .ok (.iadd, 1) := by decide +kernel
theorem dX9_homeOrder_114 : decode cX9_homeOrder 114 = .ok (.istore_n 3, 1) := by decide +kernel
theorem dX9_homeOrder_115 : decode cX9_homeOrder 115 = .ok (.iload 4, 2) := by decide +kernel
theorem dX9_homeOrder_117 : decode cX9_homeOrder 117 = .ok (.iload_n 3, 1) := by decide +kernel
theorem dX9_homeOrder_118 : decode cX9_homeOrder 118 = .ok (.iadd, 1) := by decide +kernel
theorem dX9_homeOrder_119 : decode cX9_homeOrder 119 = .ok (.istore 4, 2) := by decide +kernel
theorem dX9_homeOrder_121 : decode cX9_homeOrder 121 = .ok (.iload 6, 2) := by decide +kernel
theorem dX9_homeOrder_123 : decode cX9_homeOrder 123 = .ok (.iload_n 1, 1) := by decide +kernel
theorem dX9_homeOrder_124 : decode cX9_homeOrder 124 = .ok (.if_icmp .ne 8, 3) := by decide +kernel
theorem dX9_homeOrder_127 : decode cX9_homeOrder 127 = .ok (.iload 7, 2) := by decide +kernel
theorem dX9_homeOrder_129 : decode cX9_homeOrder 129 = .ok (.goto 5, 3) := by decide +kernel
theorem dX9_homeOrder_132 : decode cX9_homeOrder 132 = .ok (.iload 5, 2) := by decide +kernel
theorem dX9_homeOrder_134 : decode cX9_homeOrder 134 = .ok (.istore 5, 2) := by decide +kernel
theorem dX9_homeOrder_136 : decode cX9_homeOrder 136 = .ok (.iinc 6 1, 3) := by decide +kernel
theorem dX9_homeOrder_139 : decode cX9_homeOrder 139 = .ok (.goto (-120), 3) := by decide +kernel
theorem dX9_homeOrder_142 : decode cX9_homeOrder 142 = .ok (.iload_n 1, 1) := by decide +kernel
theorem dX9_homeOrder_143 : decode cX9_homeOrder 143 = .ok (.iconst (-1), 1) := by decide +kernel
theorem dX9_homeOrder_144 : decode cX9_homeOrder 144 = .ok (.if_icmp .ne 8, 3) := by decide +kernel
theorem dX9_homeOrder_147 : decode cX9_homeOrder 147 = .ok (.iload 4, 2) := by decide +kernel
theorem dX9_homeOrder_149 : decode cX9_homeOrder 149 = .ok (.goto 5, 3) := by decide +kernel
theorem dX9_homeOrder_152 : decode cX9_homeOrder 152 = .ok (.iload 5, 2) := by decide +kernel
theorem dX9_homeOrder_154 : decode cX9_homeOrder 154 = .ok (.ireturn, 1) := by decide +kernel
set_option maxRecDepth 20000 in
theorem ggX9_letters_X9_in : GoodIn wsX9_letters wsX9_in := goodIn_r _ [9] (by decide +kernel) (by decide +kernel)
set_option maxRecDepth 20000 in
theorem gX9_letters_X9_in : GoodIn wsX9_letters (va_wsS RX9 50 yX9_in wsX9_in) := goodIn_app (goodIn_of _ (by decide +kernel)) ggX9_letters_X9_in
theorem dX9_letters_0 : decode cX9_letters 0 = .ok (.iload_n 1, 1) := by decide +kernel
theorem dX9_letters_1 : decode cX9_letters 1 = .ok (.i2l, 1) := by decide +kernel
theorem dX9_letters_2 : decode cX9_letters 2 = .ok (.lconst 0, 1) := by decide +kernel
theorem dX9_letters_3 : decode cX9_letters 3 = .ok (.ldc2_w 137, 3) := by decide +kernel
theorem dX9_letters_6 : decode cX9_letters 6 = .ok (.invokestatic 50, 3) := by decide +kernel
theorem dX9_letters_9 : decode cX9_letters 9 = .ok (.ifCond .eq 53, 3) := by decide +kernel
theorem dX9_letters_12 : decode cX9_letters 12 = .ok (.iload_n 2, 1) := by decide +kernel
theorem dX9_letters_13 : decode cX9_letters 13 = .ok (.i2l, 1) := by decide +kernel
theorem dX9_letters_14 : decode cX9_letters 14 = .ok (.lconst 0, 1) := by decide +kernel
theorem dX9_letters_15 : decode cX9_letters 15 = .ok (.ldc2_w 137, 3) := by decide +kernel
theorem dX9_letters_18 : decode cX9_letters 18 = .ok (.invokestatic 50, 3) := by decide +kernel
theorem dX9_letters_21 : decode cX9_letters 21 = .ok (.ifCond .eq 41, 3) := by decide +kernel
theorem dX9_letters_24 : decode cX9_letters 24 = .ok (.iload_n 3, 1) := by decide +kernel
theorem dX9_letters_25 : decode cX9_letters 25 = .ok (.i2l, 1) := by decide +kernel
theorem dX9_letters_26 : decode cX9_letters 26 = .ok (.lconst 0, 1) := by decide +kernel
theorem dX9_letters_27 : decode cX9_letters 27 = .ok (.ldc2_w 137, 3) := by decide +kernel
theorem dX9_letters_30 : decode cX9_letters 30 = .ok (.invokestatic 50, 3) := by decide +kernel
theorem dX9_letters_33 : decode cX9_letters 33 = .ok (.ifCond .eq 29, 3) := by decide +kernel
theorem dX9_letters_36 : decode cX9_letters 36 = .ok (.iload 4, 2) := by decide +kernel
theorem dX9_letters_38 : decode cX9_letters 38 = .ok (.i2l, 1) := by decide +kernel
theorem dX9_letters_39 : decode cX9_letters 39 = .ok (.lconst 0, 1) := by decide +kernel
theorem dX9_letters_40 : decode cX9_letters 40 = .ok (.ldc2_w 181, 3) := by decide +kernel
theorem dX9_letters_43 : decode cX9_letters 43 = .ok (.invokestatic 50, 3) := by decide +kernel
theorem dX9_letters_46 : decode cX9_letters 46 = .ok (.ifCond .eq 16, 3) := by decide +kernel
theorem dX9_letters_49 : decode cX9_letters 49 = .ok (.iload 5, 2) := by decide +kernel
theorem dX9_letters_51 : decode cX9_letters 51 = .ok (.i2l, 1) := by decide +kernel
theorem dX9_letters_52 : decode cX9_letters 52 = .ok (.lconst 0, 1) := by decide +kernel
theorem dX9_letters_53 : decode cX9_letters 53 = .ok (.iload 4, 2) := by decide +kernel
theorem dX9_letters_55 : decode cX9_letters 55 = .ok (.i2l, 1) := by decide +kernel
theorem dX9_letters_56 : decode cX9_letters 56 = .ok (.invokestatic 50, 3) := by decide +kernel
theorem dX9_letters_59 : decode cX9_letters 59 = .ok (.ifCond .ne 6, 3) := by decide +kernel
theorem dX9_letters_62 : decode cX9_letters 62 = .ok (.ldc 54, 2) := by decide +kernel
theorem dX9_letters_64 : decode cX9_letters 64 = .ok (.ireturn, 1) := by decide +kernel
theorem dX9_letters_65 : decode cX9_letters 65 = .ok (.ldc2_w 183, 3) := by decide +kernel
theorem dX9_letters_68 : decode cX9_letters 68 = .ok (.iload_n 1, 1) := by decide +kernel
theorem dX9_letters_69 : decode cX9_letters 69 = .ok (.i2l, 1) := by decide +kernel
theorem dX9_letters_70 : decode cX9_letters 70 = .ok (.lmul, 1) := by decide +kernel
theorem dX9_letters_71 : decode cX9_letters 71 = .ok (.ldc2_w 137, 3) := by decide +kernel
theorem dX9_letters_74 : decode cX9_letters 74 = .ok (.ldiv, 1) := by decide +kernel
theorem dX9_letters_75 : decode cX9_letters 75 = .ok (.lstore 6, 2) := by decide +kernel
theorem dX9_letters_77 : decode cX9_letters 77 = .ok (.ldc2_w 183, 3) := by decide +kernel
theorem dX9_letters_80 : decode cX9_letters 80 = .ok (.bipush 100, 2) := by decide +kernel
theorem dX9_letters_82 : decode cX9_letters 82 = .ok (.iload_n 1, 1) := by decide +kernel
theorem dX9_letters_83 : decode cX9_letters 83 = .ok (.isub, 1) := by decide +kernel
theorem dX9_letters_84 : decode cX9_letters 84 = .ok (.i2l, 1) := by decide +kernel
theorem dX9_letters_85 : decode cX9_letters 85 = .ok (.lmul, 1) := by decide +kernel
theorem dX9_letters_86 : decode cX9_letters 86 = .ok (.ldc2_w 137, 3) := by decide +kernel
theorem dX9_letters_89 : decode cX9_letters 89 = .ok (.ldiv, 1) := by decide +kernel
theorem dX9_letters_90 : decode cX9_letters 90 = .ok (.lstore 8, 2) := by decide +kernel
theorem dX9_letters_92 : decode cX9_letters 92 = .ok (.iconst 0, 1) := by decide +kernel
theorem dX9_letters_93 : decode cX9_letters 93 = .ok (.istore 10, 2) := by decide +kernel
theorem dX9_letters_95 : decode cX9_letters 95 = .ok (.iload 10, 2) := by decide +kernel
theorem dX9_letters_97 : decode cX9_letters 97 = .ok (.iload 4, 2) := by decide +kernel
theorem dX9_letters_99 : decode cX9_letters 99 = .ok (.if_icmp .ge 59, 3) := by decide +kernel
theorem dX9_letters_102 : decode cX9_letters 102 = .ok (.lload 6, 2) := by decide +kernel
theorem dX9_letters_104 : decode cX9_letters 104 = .ok (.iload 10, 2) := by decide +kernel
theorem dX9_letters_106 : decode cX9_letters 106 = .ok (.iload 5, 2) := by decide +kernel
theorem dX9_letters_108 : decode cX9_letters 108 = .ok (.if_icmp .ge 7, 3) := by decide +kernel
theorem dX9_letters_111 : decode cX9_letters 111 = .ok (.iload_n 2, 1) := by decide +kernel
theorem dX9_letters_112 : decode cX9_letters 112 = .ok (.goto 7, 3) := by decide +kernel
theorem dX9_letters_115 : decode cX9_letters 115 = .ok (.bipush 100, 2) := by decide +kernel
theorem dX9_letters_117 : decode cX9_letters 117 = .ok (.iload_n 2, 1) := by decide +kernel
theorem dX9_letters_118 : decode cX9_letters 118 = .ok (.isub, 1) := by decide +kernel
theorem dX9_letters_119 : decode cX9_letters 119 = .ok (.i2l, 1) := by decide +kernel
theorem dX9_letters_120 : decode cX9_letters 120 = .ok (.lmul, 1) := by decide +kernel
theorem dX9_letters_121 : decode cX9_letters 121 = .ok (.ldc2_w 137, 3) := by decide +kernel
theorem dX9_letters_124 : decode cX9_letters 124 = .ok (.ldiv, 1) := by decide +kernel
theorem dX9_letters_125 : decode cX9_letters 125 = .ok (.lstore 6, 2) := by decide +kernel
theorem dX9_letters_127 : decode cX9_letters 127 = .ok (.lload 8, 2) := by decide +kernel
theorem dX9_letters_129 : decode cX9_letters 129 = .ok (.iload 10, 2) := by decide +kernel
theorem dX9_letters_131 : decode cX9_letters 131 = .ok (.iload 5, 2) := by decide +kernel
theorem dX9_letters_133 : decode cX9_letters 133 = .ok (.if_icmp .ge 7, 3) := by decide +kernel
theorem dX9_letters_136 : decode cX9_letters 136 = .ok (.iload_n 3, 1) := by decide +kernel
theorem dX9_letters_137 : decode cX9_letters 137 = .ok (.goto 7, 3) := by decide +kernel
theorem dX9_letters_140 : decode cX9_letters 140 = .ok (.bipush 100, 2) := by decide +kernel
theorem dX9_letters_142 : decode cX9_letters 142 = .ok (.iload_n 3, 1) := by decide +kernel
theorem dX9_letters_143 : decode cX9_letters 143 = .ok (.isub, 1) := by decide +kernel
theorem dX9_letters_144 : decode cX9_letters 144 = .ok (.i2l, 1) := by decide +kernel
theorem dX9_letters_145 : decode cX9_letters 145 = .ok (.lmul, 1) := by decide +kernel
theorem dX9_letters_146 : decode cX9_letters 146 = .ok (.ldc2_w 137, 3) := by decide +kernel
theorem dX9_letters_149 : decode cX9_letters 149 = .ok (.ldiv, 1) := by decide +kernel
theorem dX9_letters_150 : decode cX9_letters 150 = .ok (.lstore 8, 2) := by decide +kernel
theorem dX9_letters_152 : decode cX9_letters 152 = .ok (.iinc 10 1, 3) := by decide +kernel
theorem dX9_letters_155 : decode cX9_letters 155 = .ok (.goto (-60), 3) := by decide +kernel
theorem dX9_letters_158 : decode cX9_letters 158 = .ok (.lload 6, 2) := by decide +kernel
theorem dX9_letters_160 : decode cX9_letters 160 = .ok (.lload 8, 2) := by decide +kernel
theorem dX9_letters_162 : decode cX9_letters 162 = .ok (.ladd, 1) := by decide +kernel
theorem dX9_letters_163 : decode cX9_letters 163 = .ok (.lconst 0, 1) := by decide +kernel
theorem dX9_letters_164 : decode cX9_letters 164 = .ok (.lcmp, 1) := by decide +kernel
theorem dX9_letters_165 : decode cX9_letters 165 = .ok (.ifCond .ne 7, 3) := by decide +kernel
theorem dX9_letters_168 : decode cX9_letters 168 = .ok (.iconst 0, 1) := by decide +kernel
theorem dX9_letters_169 : decode cX9_letters 169 = .ok (.goto 16, 3) := by decide +kernel
theorem dX9_letters_172 : decode cX9_letters 172 = .ok (.lload 6, 2) := by decide +kernel
theorem dX9_letters_174 : decode cX9_letters 174 = .ok (.ldc2_w 185, 3) := by decide +kernel
theorem dX9_letters_177 : decode cX9_letters 177 = .ok (.lmul, 1) := by decide +kernel
theorem dX9_letters_178 : decode cX9_letters 178 = .ok (.lload 6, 2) := by decide +kernel
theorem dX9_letters_180 : decode cX9_letters 180 = .ok (.lload 8, 2) := by decide +kernel
theorem dX9_letters_182 : decode cX9_letters 182 = .ok (.ladd, 1) := by decide +kernel
theorem dX9_letters_183 : decode cX9_letters 183 = .ok (.ldiv, 1) := by decide +kernel
theorem dX9_letters_184 : decode cX9_letters 184 = .ok (.l2i, 1) := by decide +kernel
theorem dX9_letters_185 : decode cX9_letters 185 = .ok (.ireturn, 1) := by decide +kernel
set_option maxRecDepth 20000 in
theorem ggX9_spared_X9_in : GoodIn wsX9_spared wsX9_in := goodIn_r _ [8] (by decide +kernel) (by decide +kernel)
set_option maxRecDepth 20000 in
theorem gX9_spared_X9_in : GoodIn wsX9_spared (va_wsS RX9 50 yX9_in wsX9_in) := goodIn_app (goodIn_of _ (by decide +kernel)) ggX9_spared_X9_in
set_option maxRecDepth 20000 in
theorem ggX9_spared_X9_ones : GoodIn wsX9_spared wsX9_ones := goodIn_r _ [11] (by decide +kernel) (by decide +kernel)
set_option maxRecDepth 20000 in
theorem gX9_spared_X9_ones : GoodIn wsX9_spared (va_wsS RX9 133 yX9_ones wsX9_ones) := goodIn_app (goodIn_of _ (by decide +kernel)) ggX9_spared_X9_ones
set_option maxRecDepth 20000 in
theorem ggX9_spared_X9_bringsBy : GoodIn wsX9_spared wsX9_bringsBy := goodIn_r _ [15, 4, 16, 17, 7, 18, 19, 20, 21, 22, 23, 24, 25, 26, 27, 28, 29, 30, 31, 32, 33, 34, 35, 36, 37, 38, 39, 40, 41, 42, 43, 44, 45, 46, 47, 48] (by decide +kernel) (by decide +kernel)
set_option maxRecDepth 20000 in
theorem gX9_spared_X9_bringsBy : GoodIn wsX9_spared (wsV RX9 176 RX9 yX9_bringsBy wsX9_bringsBy) := goodIn_app (goodIn_of _ (by decide +kernel)) ggX9_spared_X9_bringsBy
theorem dX9_spared_0 : decode cX9_spared 0 = .ok (.iload_n 1, 1) := by decide +kernel
theorem dX9_spared_1 : decode cX9_spared 1 = .ok (.i2l, 1) := by decide +kernel
theorem dX9_spared_2 : decode cX9_spared 2 = .ok (.lconst 0, 1) := by decide +kernel
theorem dX9_spared_3 : decode cX9_spared 3 = .ok (.ldc2_w 137, 3) := by decide +kernel
theorem dX9_spared_6 : decode cX9_spared 6 = .ok (.invokestatic 50, 3) := by decide +kernel
theorem dX9_spared_9 : decode cX9_spared 9 = .ok (.ifCond .eq 15, 3) := by decide +kernel
theorem dX9_spared_12 : decode cX9_spared 12 = .ok (.iload_n 2, 1) := by decide +kernel
theorem dX9_spared_13 : decode cX9_spared 13 = .ok (.i2l, 1) := by decide +kernel
theorem dX9_spared_14 : decode cX9_spared 14 = .ok (.lconst 0, 1) := by decide +kernel
theorem dX9_spared_15 : decode cX9_spared 15 = .ok (.ldc2_w 179, 3) := by decide +kernel
theorem dX9_spared_18 : decode cX9_spared 18 = .ok (.invokestatic 50, 3) := by decide +kernel
theorem dX9_spared_21 : decode cX9_spared 21 = .ok (.ifCond .ne 6, 3) := by decide +kernel
theorem dX9_spared_24 : decode cX9_spared 24 = .ok (.ldc 54, 2) := by decide +kernel
theorem dX9_spared_26 : decode cX9_spared 26 = .ok (.ireturn, 1) := by decide +kernel
theorem dX9_spared_27 : decode cX9_spared 27 = .ok (.iconst (-1), 1) := by decide +kernel
theorem dX9_spared_28 : decode cX9_spared 28 = .ok (.istore_n 3, 1) := by decide +kernel
theorem dX9_spared_29 : decode cX9_spared 29 = .ok (.iconst 0, 1) := by decide +kernel
theorem dX9_spared_30 : decode cX9_spared 30 = .ok (.istore 4, 2) := by decide +kernel
theorem dX9_spared_32 : decode cX9_spared 32 = .ok (.iload 4, 2) := by decide +kernel
theorem dX9_spared_34 : decode cX9_spared 34 = .ok (.iconst 1, 1) := by decide +kernel
theorem dX9_spared_35 : decode cX9_spared 35 = .ok (.aload_n 0, 1) := by decide +kernel
theorem dX9_spared_36 : decode cX9_spared 36 = .ok (.getfield 7, 3) := by decide +kernel
theorem dX9_spared_39 : decode cX9_spared 39 = .ok (.iconst 2, 1) := by decide +kernel
theorem dX9_spared_40 : decode cX9_spared 40 = .ok (.iaload, 1) := by decide +kernel
theorem dX9_spared_41 : decode cX9_spared 41 = .ok (.ishl, 1) := by decide +kernel
theorem dX9_spared_42 : decode cX9_spared 42 = .ok (.if_icmp .ge 55, 3) := by decide +kernel
theorem dX9_spared_45 : decode cX9_spared 45 = .ok (.iload_n 3, 1) := by decide +kernel
theorem dX9_spared_46 : decode cX9_spared 46 = .ok (.ifCond .lt 15, 3) := by decide +kernel
theorem dX9_spared_49 : decode cX9_spared 49 = .ok (.iload 4, 2) := by decide +kernel
theorem dX9_spared_51 : decode cX9_spared 51 = .ok (.invokestatic 133, 3) := by decide +kernel
theorem dX9_spared_54 : decode cX9_spared 54 = .ok (.iload_n 3, 1) := by decide +kernel
theorem dX9_spared_55 : decode cX9_spared 55 = .ok (.invokestatic 133, 3) := by decide +kernel
theorem dX9_spared_58 : decode cX9_spared 58 = .ok (.if_icmp .le 7, 3) := by decide +kernel
theorem dX9_spared_61 : decode cX9_spared 61 = .ok (.iconst 1, 1) := by decide +kernel
theorem dX9_spared_62 : decode cX9_spared 62 = .ok (.goto 4, 3) := by decide +kernel
theorem dX9_spared_65 : decode cX9_spared 65 = .ok (.iconst 0, 1) := by decide +kernel
theorem dX9_spared_66 : decode cX9_spared 66 = .ok (.istore 5, 2) := by decide +kernel
theorem dX9_spared_68 : decode cX9_spared 68 = .ok (.iload 5, 2) := by decide +kernel
theorem dX9_spared_70 : decode cX9_spared 70 = .ok (.ifCond .eq 19, 3) := by decide +kernel
theorem dX9_spared_73 : decode cX9_spared 73 = .ok (.aload_n 0, 1) := by decide +kernel
theorem dX9_spared_74 : decode cX9_spared 74 = .ok (.iload_n 1, 1) := by decide +kernel
theorem dX9_spared_75 : decode cX9_spared 75 = .ok (.iload 4, 2) := by decide +kernel
theorem dX9_spared_77 : decode cX9_spared 77 = .ok (.invokevirtual 176, 3) := by decide +kernel
theorem dX9_spared_80 : decode cX9_spared 80 = .ok (.iload_n 2, 1) := by decide +kernel
theorem dX9_spared_81 : decode cX9_spared 81 = .ok (.if_icmp .lt 8, 3) := by decide +kernel
theorem dX9_spared_84 : decode cX9_spared 84 = .ok (.iload 4, 2) := by decide +kernel
theorem dX9_spared_86 : decode cX9_spared 86 = .ok (.goto 4, 3) := by decide +kernel
theorem dX9_spared_89 : decode cX9_spared 89 = .ok (.iload_n 3, 1) := by decide +kernel
theorem dX9_spared_90 : decode cX9_spared 90 = .ok (.istore_n 3, 1) := by decide +kernel
theorem dX9_spared_91 : decode cX9_spared 91 = .ok (.iinc 4 1, 3) := by decide +kernel
theorem dX9_spared_94 : decode cX9_spared 94 = .ok (.goto (-62), 3) := by decide +kernel
theorem dX9_spared_97 : decode cX9_spared 97 = .ok (.iload_n 3, 1) := by decide +kernel
theorem dX9_spared_98 : decode cX9_spared 98 = .ok (.ireturn, 1) := by decide +kernel
set_option maxRecDepth 20000 in
theorem ggX9_lives_X9_in : GoodIn wsX9_lives wsX9_in := goodIn_r _ [8] (by decide +kernel) (by decide +kernel)
set_option maxRecDepth 20000 in
theorem gX9_lives_X9_in : GoodIn wsX9_lives (va_wsS RX9 50 yX9_in wsX9_in) := goodIn_app (goodIn_of _ (by decide +kernel)) ggX9_lives_X9_in
theorem dX9_lives_0 : decode cX9_lives 0 = .ok (.iload_n 1, 1) := by decide +kernel
theorem dX9_lives_1 : decode cX9_lives 1 = .ok (.i2l, 1) := by decide +kernel
theorem dX9_lives_2 : decode cX9_lives 2 = .ok (.lconst 0, 1) := by decide +kernel
theorem dX9_lives_3 : decode cX9_lives 3 = .ok (.ldc2_w 187, 3) := by decide +kernel
theorem dX9_lives_6 : decode cX9_lives 6 = .ok (.invokestatic 50, 3) := by decide +kernel
theorem dX9_lives_9 : decode cX9_lives 9 = .ok (.ifCond .ne 6, 3) := by decide +kernel
theorem dX9_lives_12 : decode cX9_lives 12 = .ok (.ldc 54, 2) := by decide +kernel
theorem dX9_lives_14 : decode cX9_lives 14 = .ok (.ireturn, 1) := by decide +kernel
theorem dX9_lives_15 : decode cX9_lives 15 = .ok (.ldc 189, 2) := by decide +kernel
theorem dX9_lives_17 : decode cX9_lives 17 = .ok (.istore_n 2, 1) := by decide +kernel
theorem dX9_lives_18 : decode cX9_lives 18 = .ok (.iconst 0, 1) := by decide +kernel
theorem dX9_lives_19 : decode cX9_lives 19 = .ok (.istore_n 3, 1) := by decide +kernel
theorem dX9_lives_20 : decode cX9_lives 20 = .ok (.iload_n 3, 1) := by decide +kernel
theorem dX9_lives_21 : decode cX9_lives 21 = .ok (.iload_n 1, 1) := by decide +kernel
theorem dX9_lives_22 : decode cX9_lives 22 = .ok (.if_icmp .ge 24, 3) := by decide +kernel
theorem dX9_lives_25 : decode cX9_lives 25 = .ok (.iload_n 2, 1) := by decide +kernel
theorem dX9_lives_26 : decode cX9_lives 26 = .ok (.bipush 100, 2) := by decide +kernel
theorem dX9_lives_28 : decode cX9_lives 28 = .ok (.aload_n 0, 1) := by decide +kernel
theorem dX9_lives_29 : decode cX9_lives 29 = .ok (.getfield 7, 3) := by decide +kernel
theorem dX9_lives_32 : decode cX9_lives 32 = .ok (.iconst 1, 1) := by decide +kernel
theorem dX9_lives_33 : decode cX9_lives 33 = .ok (.iaload, 1) := by decide +kernel
theorem dX9_lives_34 : decode cX9_lives 34 = .ok (.isub, 1) := by decide +kernel
theorem dX9_lives_35 : decode cX9_lives 35 = .ok (.imul, 1) := by decide +kernel
theorem dX9_lives_36 : decode cX9_lives 36 = .ok (.bipush 100, 2) := by decide +kernel
theorem dX9_lives_38 : decode cX9_lives 38 = .ok (.idiv, 1) := by decide +kernel
theorem dX9_lives_39 : decode cX9_lives 39 = .ok (.istore_n 2, 1) := by decide +kernel
theorem dX9_lives_40 : decode cX9_lives 40 = .ok (.iinc 3 1, 3) := by decide +kernel
theorem dX9_lives_43 : decode cX9_lives 43 = .ok (.goto (-23), 3) := by decide +kernel
theorem dX9_lives_46 : decode cX9_lives 46 = .ok (.iload_n 2, 1) := by decide +kernel
theorem dX9_lives_47 : decode cX9_lives 47 = .ok (.ireturn, 1) := by decide +kernel
set_option maxRecDepth 20000 in
theorem ggX9_monthsTo_X9_isHeld : GoodIn wsX9_monthsTo wsX9_isHeld := goodIn_r _ [8, 9, 3, 30, 31, 32, 33, 34, 35, 36, 37, 38, 39, 40, 41, 42, 43, 44, 45, 46, 47, 48, 49, 50] (by decide +kernel) (by decide +kernel)
set_option maxRecDepth 20000 in
theorem gX9_monthsTo_X9_isHeld : GoodIn wsX9_monthsTo (wsV RX9 144 RX9 yX9_isHeld wsX9_isHeld) := goodIn_app (goodIn_of _ (by decide +kernel)) ggX9_monthsTo_X9_isHeld
set_option maxRecDepth 20000 in
theorem ggX9_monthsTo_X9_cost : GoodIn wsX9_monthsTo wsX9_cost := goodIn_r _ [13, 3, 14, 15, 7, 16, 30, 31, 32, 33, 34, 35, 36, 37, 38, 39, 40, 41, 42, 43, 44, 45, 46, 47, 48, 49, 50] (by decide +kernel) (by decide +kernel)
set_option maxRecDepth 20000 in
theorem gX9_monthsTo_X9_cost : GoodIn wsX9_monthsTo (wsV RX9 156 RX9 yX9_cost wsX9_cost) := goodIn_app (goodIn_of _ (by decide +kernel)) ggX9_monthsTo_X9_cost
set_option maxRecDepth 20000 in
theorem ggX9_monthsTo_X9_oneMonth : GoodIn wsX9_monthsTo wsX9_oneMonth := goodIn_r _ [20, 21, 3, 22, 23, 24, 7, 25, 26, 27, 28, 29, 30, 31, 32, 33, 34, 35, 36, 37, 38, 39, 40, 41, 42, 43, 44, 45, 46, 47, 48, 49, 50] (by decide +kernel) (by decide +kernel)
set_option maxRecDepth 20000 in
theorem gX9_monthsTo_X9_oneMonth : GoodIn wsX9_monthsTo (wsV RX9 151 RX9 yX9_oneMonth wsX9_oneMonth) := goodIn_app (goodIn_of _ (by decide +kernel)) ggX9_monthsTo_X9_oneMonth
theorem dX9_monthsTo_0 : decode cX9_monthsTo 0 = .ok (.aload_n 0, 1) := by decide +kernel
theorem dX9_monthsTo_1 : decode cX9_monthsTo 1 = .ok (.invokevirtual 144, 3) := by decide +kernel
theorem dX9_monthsTo_4 : decode cX9_monthsTo 4 = .ok (.ifCond .ne 6, 3) := by decide +kernel
theorem dX9_monthsTo_7 : decode cX9_monthsTo 7 = .ok (.ldc 147, 2) := by decide +kernel
theorem dX9_monthsTo_9 : decode cX9_monthsTo 9 = .ok (.ireturn, 1) := by decide +kernel
theorem dX9_monthsTo_10 : decode cX9_monthsTo 10 = .ok (.iconst 0, 1) := by decide +kernel
theorem dX9_monthsTo_11 : decode cX9_monthsTo 11 = .ok (.istore_n 1, 1) := by decide +kernel
theorem dX9_monthsTo_12 : decode cX9_monthsTo 12 = .ok (.iload_n 1, 1) := by decide +kernel
theorem dX9_monthsTo_13 : decode cX9_monthsTo 13 = .ok (.bipush 17, 2) := by decide +kernel
theorem dX9_monthsTo_15 : decode cX9_monthsTo 15 = .ok (.if_icmp .ge 21, 3) := by decide +kernel
theorem dX9_monthsTo_18 : decode cX9_monthsTo 18 = .ok (.aload_n 0, 1) := by decide +kernel
theorem dX9_monthsTo_19 : decode cX9_monthsTo 19 = .ok (.getfield 29, 3) := by decide +kernel
theorem dX9_monthsTo_22 : decode cX9_monthsTo 22 = .ok (.iload_n 1, 1) := by decide +kernel
theorem dX9_monthsTo_23 : decode cX9_monthsTo 23 = .ok (.aload_n 0, 1) := by decide +kernel
theorem dX9_monthsTo_24 : decode cX9_monthsTo 24 = .ok (.getfield 13, 3) := by decide +kernel
theorem dX9_monthsTo_27 : decode cX9_monthsTo 27 = .ok (.iload_n 1, 1) := by decide +kernel
theorem dX9_monthsTo_28 : decode cX9_monthsTo 28 = .ok (.iaload, 1) := by decide +kernel
theorem dX9_monthsTo_29 : decode cX9_monthsTo 29 = .ok (.iastore, 1) := by decide +kernel
theorem dX9_monthsTo_30 : decode cX9_monthsTo 30 = .ok (.iinc 1 1, 3) := by decide +kernel
theorem dX9_monthsTo_33 : decode cX9_monthsTo 33 = .ok (.goto (-21), 3) := by decide +kernel
theorem dX9_monthsTo_36 : decode cX9_monthsTo 36 = .ok (.iconst 0, 1) := by decide +kernel
theorem dX9_monthsTo_37 : decode cX9_monthsTo 37 = .ok (.istore_n 1, 1) := by decide +kernel
theorem dX9_monthsTo_38 : decode cX9_monthsTo 38 = .ok (.iload_n 1, 1) := by decide +kernel
theorem dX9_monthsTo_39 : decode cX9_monthsTo 39 = .ok (.bipush 99, 2) := by decide +kernel
theorem dX9_monthsTo_41 : decode cX9_monthsTo 41 = .ok (.if_icmp .ge 27, 3) := by decide +kernel
theorem dX9_monthsTo_44 : decode cX9_monthsTo 44 = .ok (.aload_n 0, 1) := by decide +kernel
theorem dX9_monthsTo_45 : decode cX9_monthsTo 45 = .ok (.getfield 13, 3) := by decide +kernel
theorem dX9_monthsTo_48 : decode cX9_monthsTo 48 = .ok (.bipush 12, 2) := by decide +kernel
theorem dX9_monthsTo_50 : decode cX9_monthsTo 50 = .ok (.iaload, 1) := by decide +kernel
theorem dX9_monthsTo_51 : decode cX9_monthsTo 51 = .ok (.aload_n 0, 1) := by decide +kernel
theorem dX9_monthsTo_52 : decode cX9_monthsTo 52 = .ok (.invokevirtual 156, 3) := by decide +kernel
theorem dX9_monthsTo_55 : decode cX9_monthsTo 55 = .ok (.if_icmp .ge 13, 3) := by decide +kernel
theorem dX9_monthsTo_58 : decode cX9_monthsTo 58 = .ok (.aload_n 0, 1) := by decide +kernel
theorem dX9_monthsTo_59 : decode cX9_monthsTo 59 = .ok (.invokevirtual 151, 3) := by decide +kernel
theorem dX9_monthsTo_62 : decode cX9_monthsTo 62 = .ok (.iinc 1 1, 3) := by decide +kernel
theorem dX9_monthsTo_65 : decode cX9_monthsTo 65 = .ok (.goto (-27), 3) := by decide +kernel
theorem dX9_monthsTo_68 : decode cX9_monthsTo 68 = .ok (.aload_n 0, 1) := by decide +kernel
theorem dX9_monthsTo_69 : decode cX9_monthsTo 69 = .ok (.getfield 13, 3) := by decide +kernel
theorem dX9_monthsTo_72 : decode cX9_monthsTo 72 = .ok (.bipush 12, 2) := by decide +kernel
theorem dX9_monthsTo_74 : decode cX9_monthsTo 74 = .ok (.iaload, 1) := by decide +kernel
theorem dX9_monthsTo_75 : decode cX9_monthsTo 75 = .ok (.aload_n 0, 1) := by decide +kernel
theorem dX9_monthsTo_76 : decode cX9_monthsTo 76 = .ok (.invokevirtual 156, 3) := by decide +kernel
theorem dX9_monthsTo_79 : decode cX9_monthsTo 79 = .ok (.if_icmp .lt 7, 3) := by decide +kernel
theorem dX9_monthsTo_82 : decode cX9_monthsTo 82 = .ok (.iconst 1, 1) := by decide +kernel
theorem dX9_monthsTo_83 : decode cX9_monthsTo 83 = .ok (.goto 4, 3) := by decide +kernel
theorem dX9_monthsTo_86 : decode cX9_monthsTo 86 = .ok (.iconst 0, 1) := by decide +kernel
theorem dX9_monthsTo_87 : decode cX9_monthsTo 87 = .ok (.istore_n 2, 1) := by decide +kernel
theorem dX9_monthsTo_88 : decode cX9_monthsTo 88 = .ok (.iconst 0, 1) := by decide +kernel
theorem dX9_monthsTo_89 : decode cX9_monthsTo 89 = .ok (.istore_n 3, 1) := by decide +kernel
theorem dX9_monthsTo_90 : decode cX9_monthsTo 90 = .ok (.iload_n 3, 1) := by decide +kernel
theorem dX9_monthsTo_91 : decode cX9_monthsTo 91 = .ok (.bipush 17, 2) := by decide +kernel
theorem dX9_monthsTo_93 : decode cX9_monthsTo 93 = .ok (.if_icmp .ge 21, 3) := by decide +kernel
theorem dX9_monthsTo_96 : decode cX9_monthsTo 96 = .ok (.aload_n 0, 1) := by decide +kernel
theorem dX9_monthsTo_97 : decode cX9_monthsTo 97 = .ok (.getfield 13, 3) := by decide +kernel
theorem dX9_monthsTo_100 : decode cX9_monthsTo 100 = .ok (.iload_n 3, 1) := by decide +kernel
theorem dX9_monthsTo_101 : decode cX9_monthsTo 101 = .ok (.aload_n 0, 1) := by decide +kernel
theorem dX9_monthsTo_102 : decode cX9_monthsTo 102 = .ok (.getfield 29, 3) := by decide +kernel
theorem dX9_monthsTo_105 : decode cX9_monthsTo 105 = .ok (.iload_n 3, 1) := by decide +kernel
theorem dX9_monthsTo_106 : decode cX9_monthsTo 106 = .ok (.iaload, 1) := by decide +kernel
theorem dX9_monthsTo_107 : decode cX9_monthsTo 107 = .ok (.iastore, 1) := by decide +kernel
theorem dX9_monthsTo_108 : decode cX9_monthsTo 108 = .ok (.iinc 3 1, 3) := by decide +kernel
theorem dX9_monthsTo_111 : decode cX9_monthsTo 111 = .ok (.goto (-21), 3) := by decide +kernel
theorem dX9_monthsTo_114 : decode cX9_monthsTo 114 = .ok (.iload_n 2, 1) := by decide +kernel
theorem dX9_monthsTo_115 : decode cX9_monthsTo 115 = .ok (.ifCond .eq 7, 3) := by decide +kernel
theorem dX9_monthsTo_118 : decode cX9_monthsTo 118 = .ok (.iload_n 1, 1) := by decide +kernel
theorem dX9_monthsTo_119 : decode cX9_monthsTo 119 = .ok (.goto 4, 3) := by decide +kernel
theorem dX9_monthsTo_122 : decode cX9_monthsTo 122 = .ok (.iconst (-1), 1) := by decide +kernel
theorem dX9_monthsTo_123 : decode cX9_monthsTo 123 = .ok (.ireturn, 1) := by decide +kernel
set_option maxRecDepth 20000 in
theorem ggX9_weigh_X9_in : GoodIn wsX9_weigh wsX9_in := goodIn_r _ [11] (by decide +kernel) (by decide +kernel)
set_option maxRecDepth 20000 in
theorem gX9_weigh_X9_in : GoodIn wsX9_weigh (va_wsS RX9 50 yX9_in wsX9_in) := goodIn_app (goodIn_of _ (by decide +kernel)) ggX9_weigh_X9_in
theorem dX9_weigh_0 : decode cX9_weigh 0 = .ok (.iload_n 1, 1) := by decide +kernel
theorem dX9_weigh_1 : decode cX9_weigh 1 = .ok (.i2l, 1) := by decide +kernel
theorem dX9_weigh_2 : decode cX9_weigh 2 = .ok (.lconst 0, 1) := by decide +kernel
theorem dX9_weigh_3 : decode cX9_weigh 3 = .ok (.iconst 1, 1) := by decide +kernel
theorem dX9_weigh_4 : decode cX9_weigh 4 = .ok (.aload_n 0, 1) := by decide +kernel
theorem dX9_weigh_5 : decode cX9_weigh 5 = .ok (.getfield 7, 3) := by decide +kernel
theorem dX9_weigh_8 : decode cX9_weigh 8 = .ok (.iconst 5, 1) := by decide +kernel
theorem dX9_weigh_9 : decode cX9_weigh 9 = .ok (.iaload, 1) := by decide +kernel
theorem dX9_weigh_10 : decode cX9_weigh 10 = .ok (.ishl, 1) := by decide +kernel
theorem dX9_weigh_11 : decode cX9_weigh 11 = .ok (.iconst 1, 1) := by decide +kernel
theorem dX9_weigh_12 : decode cX9_weigh 12 = .ok (.isub, 1) := by decide +kernel
theorem dX9_weigh_13 : decode cX9_weigh 13 = .ok (.i2l, 1) := by decide +kernel
theorem dX9_weigh_14 : decode cX9_weigh 14 = .ok (.invokestatic 50, 3) := by decide +kernel
theorem dX9_weigh_17 : decode cX9_weigh 17 = .ok (.ifCond .ne 6, 3) := by decide +kernel
theorem dX9_weigh_20 : decode cX9_weigh 20 = .ok (.ldc 126, 2) := by decide +kernel
theorem dX9_weigh_22 : decode cX9_weigh 22 = .ok (.ireturn, 1) := by decide +kernel
theorem dX9_weigh_23 : decode cX9_weigh 23 = .ok (.iload_n 2, 1) := by decide +kernel
theorem dX9_weigh_24 : decode cX9_weigh 24 = .ok (.i2l, 1) := by decide +kernel
theorem dX9_weigh_25 : decode cX9_weigh 25 = .ok (.lconst 0, 1) := by decide +kernel
theorem dX9_weigh_26 : decode cX9_weigh 26 = .ok (.ldc2_w 154, 3) := by decide +kernel
theorem dX9_weigh_29 : decode cX9_weigh 29 = .ok (.invokestatic 50, 3) := by decide +kernel
theorem dX9_weigh_32 : decode cX9_weigh 32 = .ok (.ifCond .ne 6, 3) := by decide +kernel
theorem dX9_weigh_35 : decode cX9_weigh 35 = .ok (.ldc 54, 2) := by decide +kernel
theorem dX9_weigh_37 : decode cX9_weigh 37 = .ok (.ireturn, 1) := by decide +kernel
theorem dX9_weigh_38 : decode cX9_weigh 38 = .ok (.aload_n 0, 1) := by decide +kernel
theorem dX9_weigh_39 : decode cX9_weigh 39 = .ok (.getfield 113, 3) := by decide +kernel
theorem dX9_weigh_42 : decode cX9_weigh 42 = .ok (.bipush 6, 2) := by decide +kernel
theorem dX9_weigh_44 : decode cX9_weigh 44 = .ok (.if_icmp .ne 6, 3) := by decide +kernel
theorem dX9_weigh_47 : decode cX9_weigh 47 = .ok (.ldc 58, 2) := by decide +kernel
theorem dX9_weigh_49 : decode cX9_weigh 49 = .ok (.ireturn, 1) := by decide +kernel
theorem dX9_weigh_50 : decode cX9_weigh 50 = .ok (.aload_n 0, 1) := by decide +kernel
theorem dX9_weigh_51 : decode cX9_weigh 51 = .ok (.getfield 32, 3) := by decide +kernel
theorem dX9_weigh_54 : decode cX9_weigh 54 = .ok (.iconst 2, 1) := by decide +kernel
theorem dX9_weigh_55 : decode cX9_weigh 55 = .ok (.aload_n 0, 1) := by decide +kernel
theorem dX9_weigh_56 : decode cX9_weigh 56 = .ok (.getfield 113, 3) := by decide +kernel
theorem dX9_weigh_59 : decode cX9_weigh 59 = .ok (.imul, 1) := by decide +kernel
theorem dX9_weigh_60 : decode cX9_weigh 60 = .ok (.iload_n 1, 1) := by decide +kernel
theorem dX9_weigh_61 : decode cX9_weigh 61 = .ok (.iastore, 1) := by decide +kernel
theorem dX9_weigh_62 : decode cX9_weigh 62 = .ok (.aload_n 0, 1) := by decide +kernel
theorem dX9_weigh_63 : decode cX9_weigh 63 = .ok (.getfield 32, 3) := by decide +kernel
theorem dX9_weigh_66 : decode cX9_weigh 66 = .ok (.iconst 2, 1) := by decide +kernel
theorem dX9_weigh_67 : decode cX9_weigh 67 = .ok (.aload_n 0, 1) := by decide +kernel
theorem dX9_weigh_68 : decode cX9_weigh 68 = .ok (.getfield 113, 3) := by decide +kernel
theorem dX9_weigh_71 : decode cX9_weigh 71 = .ok (.imul, 1) := by decide +kernel
theorem dX9_weigh_72 : decode cX9_weigh 72 = .ok (.iconst 1, 1) := by decide +kernel
theorem dX9_weigh_73 : decode cX9_weigh 73 = .ok (.iadd, 1) := by decide +kernel
theorem dX9_weigh_74 : decode cX9_weigh 74 = .ok (.iload_n 2, 1) := by decide +kernel
theorem dX9_weigh_75 : decode cX9_weigh 75 = .ok (.iastore, 1) := by decide +kernel
theorem dX9_weigh_76 : decode cX9_weigh 76 = .ok (.aload_n 0, 1) := by decide +kernel
theorem dX9_weigh_77 : decode cX9_weigh 77 = .ok (.dup, 1) := by decide +kernel
theorem dX9_weigh_78 : decode cX9_weigh 78 = .ok (.getfield 113, 3) := by decide +kernel
theorem dX9_weigh_81 : decode cX9_weigh 81 = .ok (.iconst 1, 1) := by decide +kernel
theorem dX9_weigh_82 : decode cX9_weigh 82 = .ok (.iadd, 1) := by decide +kernel
theorem dX9_weigh_83 : decode cX9_weigh 83 = .ok (.putfield 113, 3) := by decide +kernel
theorem dX9_weigh_86 : decode cX9_weigh 86 = .ok (.aload_n 0, 1) := by decide +kernel
theorem dX9_weigh_87 : decode cX9_weigh 87 = .ok (.getfield 113, 3) := by decide +kernel
theorem dX9_weigh_90 : decode cX9_weigh 90 = .ok (.ireturn, 1) := by decide +kernel
set_option maxRecDepth 20000 in
theorem ggX9_weightBy_X9_ones : GoodIn wsX9_weightBy wsX9_ones := goodIn_r _ [5] (by decide +kernel) (by decide +kernel)
set_option maxRecDepth 20000 in
theorem gX9_weightBy_X9_ones : GoodIn wsX9_weightBy (va_wsS RX9 133 yX9_ones wsX9_ones) := goodIn_app (goodIn_of _ (by decide +kernel)) ggX9_weightBy_X9_ones
set_option maxRecDepth 20000 in
theorem ggX9_weightBy_X9_has : GoodIn wsX9_weightBy wsX9_has := goodIn_r _ [8] (by decide +kernel) (by decide +kernel)
set_option maxRecDepth 20000 in
theorem gX9_weightBy_X9_has : GoodIn wsX9_weightBy (va_wsS RX9 172 yX9_has wsX9_has) := goodIn_app (goodIn_of _ (by decide +kernel)) ggX9_weightBy_X9_has
theorem dX9_weightBy_0 : decode cX9_weightBy 0 = .ok (.aload_n 0, 1) := by decide +kernel
theorem dX9_weightBy_1 : decode cX9_weightBy 1 = .ok (.getfield 7, 3) := by decide +kernel
theorem dX9_weightBy_4 : decode cX9_weightBy 4 = .ok (.bipush 6, 2) := by decide +kernel
theorem dX9_weightBy_6 : decode cX9_weightBy 6 = .ok (.iaload, 1) := by decide +kernel
theorem dX9_weightBy_7 : decode cX9_weightBy 7 = .ok (.iload_n 1, 1) := by decide +kernel
theorem dX9_weightBy_8 : decode cX9_weightBy 8 = .ok (.invokestatic 133, 3) := by decide +kernel
theorem dX9_weightBy_11 : decode cX9_weightBy 11 = .ok (.imul, 1) := by decide +kernel
theorem dX9_weightBy_12 : decode cX9_weightBy 12 = .ok (.iload_n 1, 1) := by decide +kernel
theorem dX9_weightBy_13 : decode cX9_weightBy 13 = .ok (.iload_n 2, 1) := by decide +kernel
theorem dX9_weightBy_14 : decode cX9_weightBy 14 = .ok (.invokestatic 172, 3) := by decide +kernel
theorem dX9_weightBy_17 : decode cX9_weightBy 17 = .ok (.ifCond .eq 7, 3) := by decide +kernel
theorem dX9_weightBy_20 : decode cX9_weightBy 20 = .ok (.iload_n 3, 1) := by decide +kernel
theorem dX9_weightBy_21 : decode cX9_weightBy 21 = .ok (.goto 4, 3) := by decide +kernel
theorem dX9_weightBy_24 : decode cX9_weightBy 24 = .ok (.iconst 0, 1) := by decide +kernel
theorem dX9_weightBy_25 : decode cX9_weightBy 25 = .ok (.isub, 1) := by decide +kernel
theorem dX9_weightBy_26 : decode cX9_weightBy 26 = .ok (.ireturn, 1) := by decide +kernel
set_option maxRecDepth 20000 in
theorem ggX9_canBe_X9_weightBy : GoodIn wsX9_canBe wsX9_weightBy := goodIn_r _ [8, 1, 9, 10, 7, 11, 12, 13, 14, 15, 16, 17, 18, 19, 20, 21, 22, 23, 24, 25, 26, 27, 28, 29, 30, 31, 32, 33, 34, 35] (by decide +kernel) (by decide +kernel)
set_option maxRecDepth 20000 in
theorem gX9_canBe_X9_weightBy : GoodIn wsX9_canBe (wsV RX9 190 RX9 yX9_weightBy wsX9_weightBy) := goodIn_app (goodIn_of _ (by decide +kernel)) ggX9_canBe_X9_weightBy
theorem dX9_canBe_0 : decode cX9_canBe 0 = .ok (.iload_n 2, 1) := by decide +kernel
theorem dX9_canBe_1 : decode cX9_canBe 1 = .ok (.aload_n 0, 1) := by decide +kernel
theorem dX9_canBe_2 : decode cX9_canBe 2 = .ok (.getfield 7, 3) := by decide +kernel
theorem dX9_canBe_5 : decode cX9_canBe 5 = .ok (.bipush 6, 2) := by decide +kernel
theorem dX9_canBe_7 : decode cX9_canBe 7 = .ok (.iaload, 1) := by decide +kernel
theorem dX9_canBe_8 : decode cX9_canBe 8 = .ok (.if_icmp .gt 7, 3) := by decide +kernel
theorem dX9_canBe_11 : decode cX9_canBe 11 = .ok (.iconst 1, 1) := by decide +kernel
theorem dX9_canBe_12 : decode cX9_canBe 12 = .ok (.goto 4, 3) := by decide +kernel
theorem dX9_canBe_15 : decode cX9_canBe 15 = .ok (.iconst 0, 1) := by decide +kernel
theorem dX9_canBe_16 : decode cX9_canBe 16 = .ok (.istore_n 3, 1) := by decide +kernel
theorem dX9_canBe_17 : decode cX9_canBe 17 = .ok (.iconst 0, 1) := by decide +kernel
theorem dX9_canBe_18 : decode cX9_canBe 18 = .ok (.istore 4, 2) := by decide +kernel
theorem dX9_canBe_20 : decode cX9_canBe 20 = .ok (.iload 4, 2) := by decide +kernel
theorem dX9_canBe_22 : decode cX9_canBe 22 = .ok (.aload_n 0, 1) := by decide +kernel
theorem dX9_canBe_23 : decode cX9_canBe 23 = .ok (.getfield 113, 3) := by decide +kernel
theorem dX9_canBe_26 : decode cX9_canBe 26 = .ok (.if_icmp .ge 48, 3) := by decide +kernel
theorem dX9_canBe_29 : decode cX9_canBe 29 = .ok (.iload_n 3, 1) := by decide +kernel
theorem dX9_canBe_30 : decode cX9_canBe 30 = .ok (.ifCond .eq 36, 3) := by decide +kernel
theorem dX9_canBe_33 : decode cX9_canBe 33 = .ok (.aload_n 0, 1) := by decide +kernel
theorem dX9_canBe_34 : decode cX9_canBe 34 = .ok (.aload_n 0, 1) := by decide +kernel
theorem dX9_canBe_35 : decode cX9_canBe 35 = .ok (.getfield 32, 3) := by decide +kernel
theorem dX9_canBe_38 : decode cX9_canBe 38 = .ok (.iconst 2, 1) := by decide +kernel
theorem dX9_canBe_39 : decode cX9_canBe 39 = .ok (.iload 4, 2) := by decide +kernel
theorem dX9_canBe_41 : decode cX9_canBe 41 = .ok (.imul, 1) := by decide +kernel
theorem dX9_canBe_42 : decode cX9_canBe 42 = .ok (.iaload, 1) := by decide +kernel
theorem dX9_canBe_43 : decode cX9_canBe 43 = .ok (.iload_n 1, 1) := by decide +kernel
theorem dX9_canBe_44 : decode cX9_canBe 44 = .ok (.iload_n 2, 1) := by decide +kernel
theorem dX9_canBe_45 : decode cX9_canBe 45 = .ok (.invokevirtual 190, 3) := by decide +kernel
theorem dX9_canBe_48 : decode cX9_canBe 48 = .ok (.aload_n 0, 1) := by decide +kernel
theorem dX9_canBe_49 : decode cX9_canBe 49 = .ok (.getfield 32, 3) := by decide +kernel
theorem dX9_canBe_52 : decode cX9_canBe 52 = .ok (.iconst 2, 1) := by decide +kernel
theorem dX9_canBe_53 : decode cX9_canBe 53 = .ok (.iload 4, 2) := by decide +kernel
theorem dX9_canBe_55 : decode cX9_canBe 55 = .ok (.imul, 1) := by decide +kernel
theorem dX9_canBe_56 : decode cX9_canBe 56 = .ok (.iconst 1, 1) := by decide +kernel
theorem dX9_canBe_57 : decode cX9_canBe 57 = .ok (.iadd, 1) := by decide +kernel
theorem dX9_canBe_58 : decode cX9_canBe 58 = .ok (.iaload, 1) := by decide +kernel
theorem dX9_canBe_59 : decode cX9_canBe 59 = .ok (.if_icmp .ne 7, 3) := by decide +kernel
theorem dX9_canBe_62 : decode cX9_canBe 62 = .ok (.iconst 1, 1) := by decide +kernel
theorem dX9_canBe_63 : decode cX9_canBe 63 = .ok (.goto 4, 3) := by decide +kernel
theorem dX9_canBe_66 : decode cX9_canBe 66 = .ok (.iconst 0, 1) := by decide +kernel
theorem dX9_canBe_67 : decode cX9_canBe 67 = .ok (.istore_n 3, 1) := by decide +kernel
theorem dX9_canBe_68 : decode cX9_canBe 68 = .ok (.iinc 4 1, 3) := by decide +kernel
theorem dX9_canBe_71 : decode cX9_canBe 71 = .ok (.goto (-51), 3) := by decide +kernel
theorem dX9_canBe_74 : decode cX9_canBe 74 = .ok (.iload_n 3, 1) := by decide +kernel
theorem dX9_canBe_75 : decode cX9_canBe 75 = .ok (.ireturn, 1) := by decide +kernel
set_option maxRecDepth 20000 in
theorem ggX9_greatestPart_X9_has : GoodIn wsX9_greatestPart wsX9_has := goodIn_r _ [5] (by decide +kernel) (by decide +kernel)
set_option maxRecDepth 20000 in
theorem gX9_greatestPart_X9_has : GoodIn wsX9_greatestPart (va_wsS RX9 172 yX9_has wsX9_has) := goodIn_app (goodIn_of _ (by decide +kernel)) ggX9_greatestPart_X9_has
set_option maxRecDepth 20000 in
theorem ggX9_greatestPart_X9_canBe : GoodIn wsX9_greatestPart wsX9_canBe := goodIn_r _ [9, 1, 10, 11, 12, 13, 14, 4, 15, 16, 17, 18, 2, 3, 5, 19, 20, 21, 22, 23, 24, 25, 26, 27, 28, 29, 30, 31, 32, 33, 34, 35, 36, 37, 38, 39] (by decide +kernel) (by decide +kernel)
set_option maxRecDepth 20000 in
theorem gX9_greatestPart_X9_canBe : GoodIn wsX9_greatestPart (wsV RX9 194 RX9 yX9_canBe wsX9_canBe) := goodIn_app (goodIn_of _ (by decide +kernel)) ggX9_greatestPart_X9_canBe
theorem dX9_greatestPart_0 : decode cX9_greatestPart 0 = .ok (.iconst 0, 1) := by decide +kernel
theorem dX9_greatestPart_1 : decode cX9_greatestPart 1 = .ok (.istore_n 2, 1) := by decide +kernel
theorem dX9_greatestPart_2 : decode cX9_greatestPart 2 = .ok (.iconst 0, 1) := by decide +kernel
theorem dX9_greatestPart_3 : decode cX9_greatestPart 3 = .ok (.istore_n 3, 1) := by decide +kernel
theorem dX9_greatestPart_4 : decode cX9_greatestPart 4 = .ok (.iload_n 3, 1) := by decide +kernel
theorem dX9_greatestPart_5 : decode cX9_greatestPart 5 = .ok (.bipush 9, 2) := by decide +kernel
theorem dX9_greatestPart_7 : decode cX9_greatestPart 7 = .ok (.if_icmp .gt 105, 3) := by decide +kernel
theorem dX9_greatestPart_10 : decode cX9_greatestPart 10 = .ok (.iconst 0, 1) := by decide +kernel
theorem dX9_greatestPart_11 : decode cX9_greatestPart 11 = .ok (.istore 4, 2) := by decide +kernel
theorem dX9_greatestPart_13 : decode cX9_greatestPart 13 = .ok (.iconst 0, 1) := by decide +kernel
theorem dX9_greatestPart_14 : decode cX9_greatestPart 14 = .ok (.istore 5, 2) := by decide +kernel
theorem dX9_greatestPart_16 : decode cX9_greatestPart 16 = .ok (.iload 5, 2) := by decide +kernel
theorem dX9_greatestPart_18 : decode cX9_greatestPart 18 = .ok (.aload_n 0, 1) := by decide +kernel
theorem dX9_greatestPart_19 : decode cX9_greatestPart 19 = .ok (.getfield 7, 3) := by decide +kernel
theorem dX9_greatestPart_22 : decode cX9_greatestPart 22 = .ok (.iconst 5, 1) := by decide +kernel
theorem dX9_greatestPart_23 : decode cX9_greatestPart 23 = .ok (.iaload, 1) := by decide +kernel
theorem dX9_greatestPart_24 : decode cX9_greatestPart 24 = .ok (.if_icmp .ge 69, 3) := by decide +kernel
theorem dX9_greatestPart_27 : decode cX9_greatestPart 27 = .ok (.iconst 1, 1) := by decide +kernel
theorem dX9_greatestPart_28 : decode cX9_greatestPart 28 = .ok (.istore 6, 2) := by decide +kernel
theorem dX9_greatestPart_30 : decode cX9_greatestPart 30 = .ok (.iload 6, 2) := by decide +kernel
theorem dX9_greatestPart_32 : decode cX9_greatestPart 32 = .ok (.bipush 9, 2) := by decide +kernel
theorem dX9_greatestPart_34 : decode cX9_greatestPart 34 = .ok (.if_icmp .gt 53, 3) := by decide +kernel
theorem dX9_greatestPart_37 : decode cX9_greatestPart 37 = .ok (.iload_n 1, 1) := by decide +kernel
theorem dX9_greatestPart_38 : decode cX9_greatestPart 38 = .ok (.iload 5, 2) := by decide +kernel
theorem dX9_greatestPart_40 : decode cX9_greatestPart 40 = .ok (.invokestatic 172, 3) := by decide +kernel
theorem dX9_greatestPart_43 : decode cX9_greatestPart 43 = .ok (.ifCond .eq 8, 3) := by decide +kernel
theorem dX9_greatestPart_46 : decode cX9_greatestPart 46 = .ok (.iload 6, 2) := by decide +kernel
theorem dX9_greatestPart_48 : decode cX9_greatestPart 48 = .ok (.goto 4, 3) := by decide +kernel
theorem dX9_greatestPart_51 : decode cX9_greatestPart 51 = .ok (.iconst 0, 1) := by decide +kernel
theorem dX9_greatestPart_52 : decode cX9_greatestPart 52 = .ok (.istore 7, 2) := by decide +kernel
theorem dX9_greatestPart_54 : decode cX9_greatestPart 54 = .ok (.iload 4, 2) := by decide +kernel
theorem dX9_greatestPart_56 : decode cX9_greatestPart 56 = .ok (.iload 7, 2) := by decide +kernel
theorem dX9_greatestPart_58 : decode cX9_greatestPart 58 = .ok (.iload_n 3, 1) := by decide +kernel
theorem dX9_greatestPart_59 : decode cX9_greatestPart 59 = .ok (.if_icmp .ne 18, 3) := by decide +kernel
theorem dX9_greatestPart_62 : decode cX9_greatestPart 62 = .ok (.aload_n 0, 1) := by decide +kernel
theorem dX9_greatestPart_63 : decode cX9_greatestPart 63 = .ok (.iload 5, 2) := by decide +kernel
theorem dX9_greatestPart_65 : decode cX9_greatestPart 65 = .ok (.iload 6, 2) := by decide +kernel
theorem dX9_greatestPart_67 : decode cX9_greatestPart 67 = .ok (.invokevirtual 194, 3) := by decide +kernel
theorem dX9_greatestPart_70 : decode cX9_greatestPart 70 = .ok (.ifCond .eq 7, 3) := by decide +kernel
theorem dX9_greatestPart_73 : decode cX9_greatestPart 73 = .ok (.iconst 1, 1) := by decide +kernel
theorem dX9_greatestPart_74 : decode cX9_greatestPart 74 = .ok (.goto 4, 3) := by decide +kernel
theorem dX9_greatestPart_77 : decode cX9_greatestPart 77 = .ok (.iconst 0, 1) := by decide +kernel
theorem dX9_greatestPart_78 : decode cX9_greatestPart 78 = .ok (.iadd, 1) := by decide +kernel
theorem dX9_greatestPart_79 : decode cX9_greatestPart 79 = .ok (.istore 4, 2) := by decide +kernel
theorem dX9_greatestPart_81 : decode cX9_greatestPart 81 = .ok (.iinc 6 1, 3) := by decide +kernel
theorem dX9_greatestPart_84 : decode cX9_greatestPart 84 = .ok (.goto (-54), 3) := by decide +kernel
theorem dX9_greatestPart_87 : decode cX9_greatestPart 87 = .ok (.iinc 5 1, 3) := by decide +kernel
theorem dX9_greatestPart_90 : decode cX9_greatestPart 90 = .ok (.goto (-74), 3) := by decide +kernel
theorem dX9_greatestPart_93 : decode cX9_greatestPart 93 = .ok (.iload 4, 2) := by decide +kernel
theorem dX9_greatestPart_95 : decode cX9_greatestPart 95 = .ok (.iload_n 2, 1) := by decide +kernel
theorem dX9_greatestPart_96 : decode cX9_greatestPart 96 = .ok (.if_icmp .le 8, 3) := by decide +kernel
theorem dX9_greatestPart_99 : decode cX9_greatestPart 99 = .ok (.iload 4, 2) := by decide +kernel
theorem dX9_greatestPart_101 : decode cX9_greatestPart 101 = .ok (.goto 4, 3) := by decide +kernel
theorem dX9_greatestPart_104 : decode cX9_greatestPart 104 = .ok (.iload_n 2, 1) := by decide +kernel
theorem dX9_greatestPart_105 : decode cX9_greatestPart 105 = .ok (.istore_n 2, 1) := by decide +kernel
theorem dX9_greatestPart_106 : decode cX9_greatestPart 106 = .ok (.iinc 3 1, 3) := by decide +kernel
theorem dX9_greatestPart_109 : decode cX9_greatestPart 109 = .ok (.goto (-105), 3) := by decide +kernel
theorem dX9_greatestPart_112 : decode cX9_greatestPart 112 = .ok (.iload_n 2, 1) := by decide +kernel
theorem dX9_greatestPart_113 : decode cX9_greatestPart 113 = .ok (.ireturn, 1) := by decide +kernel
set_option maxRecDepth 20000 in
theorem ggX9_weighNext_X9_greatestPart : GoodIn wsX9_weighNext wsX9_greatestPart := goodIn_r _ [6, 1, 7, 8, 5, 9, 10, 11, 12, 13, 14, 15, 16, 17, 18, 19, 20, 21, 22, 23, 24, 25, 26, 27, 28, 29, 30, 31, 32, 33, 34, 35, 36, 37, 38, 39, 40, 41, 42, 43] (by decide +kernel) (by decide +kernel)
set_option maxRecDepth 20000 in
theorem gX9_weighNext_X9_greatestPart : GoodIn wsX9_weighNext (wsV RX9 197 RX9 yX9_greatestPart wsX9_greatestPart) := goodIn_app (goodIn_of _ (by decide +kernel)) ggX9_weighNext_X9_greatestPart
theorem dX9_weighNext_0 : decode cX9_weighNext 0 = .ok (.iconst (-1), 1) := by decide +kernel
theorem dX9_weighNext_1 : decode cX9_weighNext 1 = .ok (.istore_n 1, 1) := by decide +kernel
theorem dX9_weighNext_2 : decode cX9_weighNext 2 = .ok (.aload_n 0, 1) := by decide +kernel
theorem dX9_weighNext_3 : decode cX9_weighNext 3 = .ok (.iconst 0, 1) := by decide +kernel
theorem dX9_weighNext_4 : decode cX9_weighNext 4 = .ok (.invokevirtual 197, 3) := by decide +kernel
theorem dX9_weighNext_7 : decode cX9_weighNext 7 = .ok (.istore_n 2, 1) := by decide +kernel
theorem dX9_weighNext_8 : decode cX9_weighNext 8 = .ok (.iconst 1, 1) := by decide +kernel
theorem dX9_weighNext_9 : decode cX9_weighNext 9 = .ok (.istore_n 3, 1) := by decide +kernel
theorem dX9_weighNext_10 : decode cX9_weighNext 10 = .ok (.iload_n 3, 1) := by decide +kernel
theorem dX9_weighNext_11 : decode cX9_weighNext 11 = .ok (.iconst 1, 1) := by decide +kernel
theorem dX9_weighNext_12 : decode cX9_weighNext 12 = .ok (.aload_n 0, 1) := by decide +kernel
theorem dX9_weighNext_13 : decode cX9_weighNext 13 = .ok (.getfield 7, 3) := by decide +kernel
theorem dX9_weighNext_16 : decode cX9_weighNext 16 = .ok (.iconst 5, 1) := by decide +kernel
theorem dX9_weighNext_17 : decode cX9_weighNext 17 = .ok (.iaload, 1) := by decide +kernel
theorem dX9_weighNext_18 : decode cX9_weighNext 18 = .ok (.ishl, 1) := by decide +kernel
theorem dX9_weighNext_19 : decode cX9_weighNext 19 = .ok (.if_icmp .ge 41, 3) := by decide +kernel
theorem dX9_weighNext_22 : decode cX9_weighNext 22 = .ok (.aload_n 0, 1) := by decide +kernel
theorem dX9_weighNext_23 : decode cX9_weighNext 23 = .ok (.iload_n 3, 1) := by decide +kernel
theorem dX9_weighNext_24 : decode cX9_weighNext 24 = .ok (.invokevirtual 197, 3) := by decide +kernel
theorem dX9_weighNext_27 : decode cX9_weighNext 27 = .ok (.istore 4, 2) := by decide +kernel
theorem dX9_weighNext_29 : decode cX9_weighNext 29 = .ok (.iload 4, 2) := by decide +kernel
theorem dX9_weighNext_31 : decode cX9_weighNext 31 = .ok (.iload_n 2, 1) := by decide +kernel
theorem dX9_weighNext_32 : decode cX9_weighNext 32 = .ok (.if_icmp .ge 7, 3) := by decide +kernel
theorem dX9_weighNext_35 : decode cX9_weighNext 35 = .ok (.iload_n 3, 1) := by decide +kernel
theorem dX9_weighNext_36 : decode cX9_weighNext 36 = .ok (.goto 4, 3) := by decide +kernel
theorem dX9_weighNext_39 : decode cX9_weighNext 39 = .ok (.iload_n 1, 1) := by decide +kernel
theorem dX9_weighNext_40 : decode cX9_weighNext 40 = .ok (.istore_n 1, 1) := by decide +kernel
theorem dX9_weighNext_41 : decode cX9_weighNext 41 = .ok (.iload 4, 2) := by decide +kernel
theorem dX9_weighNext_43 : decode cX9_weighNext 43 = .ok (.iload_n 2, 1) := by decide +kernel
theorem dX9_weighNext_44 : decode cX9_weighNext 44 = .ok (.if_icmp .ge 8, 3) := by decide +kernel
theorem dX9_weighNext_47 : decode cX9_weighNext 47 = .ok (.iload 4, 2) := by decide +kernel
theorem dX9_weighNext_49 : decode cX9_weighNext 49 = .ok (.goto 4, 3) := by decide +kernel
theorem dX9_weighNext_52 : decode cX9_weighNext 52 = .ok (.iload_n 2, 1) := by decide +kernel
theorem dX9_weighNext_53 : decode cX9_weighNext 53 = .ok (.istore_n 2, 1) := by decide +kernel
theorem dX9_weighNext_54 : decode cX9_weighNext 54 = .ok (.iinc 3 1, 3) := by decide +kernel
theorem dX9_weighNext_57 : decode cX9_weighNext 57 = .ok (.goto (-47), 3) := by decide +kernel
theorem dX9_weighNext_60 : decode cX9_weighNext 60 = .ok (.iload_n 1, 1) := by decide +kernel
theorem dX9_weighNext_61 : decode cX9_weighNext 61 = .ok (.ireturn, 1) := by decide +kernel
set_option maxRecDepth 20000 in
theorem ggX9_isShort_X9_weighNext : GoodIn wsX9_isShort wsX9_weighNext := goodIn_r _ [6, 1, 7, 8, 9, 5, 10, 11, 12, 13, 14, 15, 16, 17, 18, 19, 20, 21, 22, 23, 24, 25, 26, 27, 28, 29, 30, 31, 32, 33, 34, 35, 36, 37, 38, 39, 40, 41, 42, 43, 44, 45, 46, 47] (by decide +kernel) (by decide +kernel)
set_option maxRecDepth 20000 in
theorem gX9_isShort_X9_weighNext : GoodIn wsX9_isShort (wsV RX9 200 RX9 yX9_weighNext wsX9_weighNext) := goodIn_app (goodIn_of _ (by decide +kernel)) ggX9_isShort_X9_weighNext
set_option maxRecDepth 20000 in
theorem ggX9_isShort_X9_canBe : GoodIn wsX9_isShort wsX9_canBe := goodIn_r _ [17, 1, 18, 19, 20, 21, 22, 5, 23, 24, 25, 26, 11, 12, 13, 27, 28, 29, 30, 31, 32, 33, 34, 35, 36, 37, 38, 39, 40, 41, 42, 43, 44, 45, 46, 47] (by decide +kernel) (by decide +kernel)
set_option maxRecDepth 20000 in
theorem gX9_isShort_X9_canBe : GoodIn wsX9_isShort (wsV RX9 194 RX9 yX9_canBe wsX9_canBe) := goodIn_app (goodIn_of _ (by decide +kernel)) ggX9_isShort_X9_canBe
theorem dX9_isShort_0 : decode cX9_isShort 0 = .ok (.iload_n 1, 1) := by decide +kernel
theorem dX9_isShort_1 : decode cX9_isShort 1 = .ok (.bipush (-2), 2) := by decide +kernel
theorem dX9_isShort_3 : decode cX9_isShort 3 = .ok (.if_icmp .ne 8, 3) := by decide +kernel
theorem dX9_isShort_6 : decode cX9_isShort 6 = .ok (.aload_n 0, 1) := by decide +kernel
theorem dX9_isShort_7 : decode cX9_isShort 7 = .ok (.invokevirtual 200, 3) := by decide +kernel
theorem dX9_isShort_10 : decode cX9_isShort 10 = .ok (.ireturn, 1) := by decide +kernel
theorem dX9_isShort_11 : decode cX9_isShort 11 = .ok (.iconst 0, 1) := by decide +kernel
theorem dX9_isShort_12 : decode cX9_isShort 12 = .ok (.istore_n 2, 1) := by decide +kernel
theorem dX9_isShort_13 : decode cX9_isShort 13 = .ok (.iconst (-1), 1) := by decide +kernel
theorem dX9_isShort_14 : decode cX9_isShort 14 = .ok (.istore_n 3, 1) := by decide +kernel
theorem dX9_isShort_15 : decode cX9_isShort 15 = .ok (.iconst 0, 1) := by decide +kernel
theorem dX9_isShort_16 : decode cX9_isShort 16 = .ok (.istore 4, 2) := by decide +kernel
theorem dX9_isShort_18 : decode cX9_isShort 18 = .ok (.iload 4, 2) := by decide +kernel
theorem dX9_isShort_20 : decode cX9_isShort 20 = .ok (.aload_n 0, 1) := by decide +kernel
theorem dX9_isShort_21 : decode cX9_isShort 21 = .ok (.getfield 7, 3) := by decide +kernel
theorem dX9_isShort_24 : decode cX9_isShort 24 = .ok (.iconst 5, 1) := by decide +kernel
theorem dX9_isShort_25 : decode cX9_isShort 25 = .ok (.iaload, 1) := by decide +kernel
theorem dX9_isShort_26 : decode cX9_isShort 26 = .ok (.if_icmp .ge 57, 3) := by decide +kernel
theorem dX9_isShort_29 : decode cX9_isShort 29 = .ok (.iconst 1, 1) := by decide +kernel
theorem dX9_isShort_30 : decode cX9_isShort 30 = .ok (.istore 5, 2) := by decide +kernel
theorem dX9_isShort_32 : decode cX9_isShort 32 = .ok (.iload 5, 2) := by decide +kernel
theorem dX9_isShort_34 : decode cX9_isShort 34 = .ok (.bipush 9, 2) := by decide +kernel
theorem dX9_isShort_36 : decode cX9_isShort 36 = .ok (.if_icmp .gt 41, 3) := by decide +kernel
theorem dX9_isShort_39 : decode cX9_isShort 39 = .ok (.aload_n 0, 1) := by decide +kernel
theorem dX9_isShort_40 : decode cX9_isShort 40 = .ok (.iload 4, 2) := by decide +kernel
theorem dX9_isShort_42 : decode cX9_isShort 42 = .ok (.iload 5, 2) := by decide +kernel
theorem dX9_isShort_44 : decode cX9_isShort 44 = .ok (.invokevirtual 194, 3) := by decide +kernel
theorem dX9_isShort_47 : decode cX9_isShort 47 = .ok (.ifCond .eq 24, 3) := by decide +kernel
theorem dX9_isShort_50 : decode cX9_isShort 50 = .ok (.iload_n 2, 1) := by decide +kernel
theorem dX9_isShort_51 : decode cX9_isShort 51 = .ok (.iload_n 1, 1) := by decide +kernel
theorem dX9_isShort_52 : decode cX9_isShort 52 = .ok (.if_icmp .ne 14, 3) := by decide +kernel
theorem dX9_isShort_55 : decode cX9_isShort 55 = .ok (.bipush 10, 2) := by decide +kernel
theorem dX9_isShort_57 : decode cX9_isShort 57 = .ok (.iload 4, 2) := by decide +kernel
theorem dX9_isShort_59 : decode cX9_isShort 59 = .ok (.imul, 1) := by decide +kernel
theorem dX9_isShort_60 : decode cX9_isShort 60 = .ok (.iload 5, 2) := by decide +kernel
theorem dX9_isShort_62 : decode cX9_isShort 62 = .ok (.iadd, 1) := by decide +kernel
theorem dX9_isShort_63 : decode cX9_isShort 63 = .ok (.goto 4, 3) := by decide +kernel
theorem dX9_isShort_66 : decode cX9_isShort 66 = .ok (.iload_n 3, 1) := by decide +kernel
theorem dX9_isShort_67 : decode cX9_isShort 67 = .ok (.istore_n 3, 1) := by decide +kernel
theorem dX9_isShort_68 : decode cX9_isShort 68 = .ok (.iinc 2 1, 3) := by decide +kernel
theorem dX9_isShort_71 : decode cX9_isShort 71 = .ok (.iinc 5 1, 3) := by decide +kernel
theorem dX9_isShort_74 : decode cX9_isShort 74 = .ok (.goto (-42), 3) := by decide +kernel
theorem dX9_isShort_77 : decode cX9_isShort 77 = .ok (.iinc 4 1, 3) := by decide +kernel
theorem dX9_isShort_80 : decode cX9_isShort 80 = .ok (.goto (-62), 3) := by decide +kernel
theorem dX9_isShort_83 : decode cX9_isShort 83 = .ok (.iload_n 1, 1) := by decide +kernel
theorem dX9_isShort_84 : decode cX9_isShort 84 = .ok (.iconst (-1), 1) := by decide +kernel
theorem dX9_isShort_85 : decode cX9_isShort 85 = .ok (.if_icmp .ne 7, 3) := by decide +kernel
theorem dX9_isShort_88 : decode cX9_isShort 88 = .ok (.iload_n 2, 1) := by decide +kernel
theorem dX9_isShort_89 : decode cX9_isShort 89 = .ok (.goto 4, 3) := by decide +kernel
theorem dX9_isShort_92 : decode cX9_isShort 92 = .ok (.iload_n 3, 1) := by decide +kernel
theorem dX9_isShort_93 : decode cX9_isShort 93 = .ok (.ireturn, 1) := by decide +kernel
set_option maxRecDepth 20000 in
theorem ggX9_write_X9_isPayer : GoodIn wsX9_write wsX9_isPayer := goodIn_r _ [11, 12, 13, 14, 10, 15, 16, 17, 18, 19, 20, 21, 22, 23, 24, 25, 26, 27, 28, 29, 30, 31, 32, 33, 34, 35, 36] (by decide +kernel) (by decide +kernel)
set_option maxRecDepth 20000 in
theorem gX9_write_X9_isPayer : GoodIn wsX9_write (wsV RX9 123 RX9 yX9_isPayer wsX9_isPayer) := goodIn_app (goodIn_of _ (by decide +kernel)) ggX9_write_X9_isPayer
set_option maxRecDepth 20000 in
theorem ggX9_write_X9_in : GoodIn wsX9_write wsX9_in := goodIn_r _ [15] (by decide +kernel) (by decide +kernel)
set_option maxRecDepth 20000 in
theorem gX9_write_X9_in : GoodIn wsX9_write (va_wsS RX9 50 yX9_in wsX9_in) := goodIn_app (goodIn_of _ (by decide +kernel)) ggX9_write_X9_in
theorem dX9_write_0 : decode cX9_write 0 = .ok (.aload_n 0, 1) := by decide +kernel
theorem dX9_write_1 : decode cX9_write 1 = .ok (.iload_n 1, 1) := by decide +kernel
theorem dX9_write_2 : decode cX9_write 2 = .ok (.invokevirtual 123, 3) := by decide +kernel
theorem dX9_write_5 : decode cX9_write 5 = .ok (.ifCond .ne 6, 3) := by decide +kernel
theorem dX9_write_8 : decode cX9_write 8 = .ok (.ldc 126, 2) := by decide +kernel
theorem dX9_write_10 : decode cX9_write 10 = .ok (.ireturn, 1) := by decide +kernel
theorem dX9_write_11 : decode cX9_write 11 = .ok (.iload_n 2, 1) := by decide +kernel
theorem dX9_write_12 : decode cX9_write 12 = .ok (.i2l, 1) := by decide +kernel
theorem dX9_write_13 : decode cX9_write 13 = .ok (.lconst 0, 1) := by decide +kernel
theorem dX9_write_14 : decode cX9_write 14 = .ok (.ldc2_w 154, 3) := by decide +kernel
theorem dX9_write_17 : decode cX9_write 17 = .ok (.invokestatic 50, 3) := by decide +kernel
theorem dX9_write_20 : decode cX9_write 20 = .ok (.ifCond .ne 6, 3) := by decide +kernel
theorem dX9_write_23 : decode cX9_write 23 = .ok (.ldc 54, 2) := by decide +kernel
theorem dX9_write_25 : decode cX9_write 25 = .ok (.ireturn, 1) := by decide +kernel
theorem dX9_write_26 : decode cX9_write 26 = .ok (.aload_n 0, 1) := by decide +kernel
theorem dX9_write_27 : decode cX9_write 27 = .ok (.getfield 116, 3) := by decide +kernel
theorem dX9_write_30 : decode cX9_write 30 = .ok (.bipush 15, 2) := by decide +kernel
theorem dX9_write_32 : decode cX9_write 32 = .ok (.if_icmp .ne 6, 3) := by decide +kernel
theorem dX9_write_35 : decode cX9_write 35 = .ok (.ldc 58, 2) := by decide +kernel
theorem dX9_write_37 : decode cX9_write 37 = .ok (.ireturn, 1) := by decide +kernel
theorem dX9_write_38 : decode cX9_write 38 = .ok (.aload_n 0, 1) := by decide +kernel
theorem dX9_write_39 : decode cX9_write 39 = .ok (.getfield 35, 3) := by decide +kernel
theorem dX9_write_42 : decode cX9_write 42 = .ok (.iconst 2, 1) := by decide +kernel
theorem dX9_write_43 : decode cX9_write 43 = .ok (.aload_n 0, 1) := by decide +kernel
theorem dX9_write_44 : decode cX9_write 44 = .ok (.getfield 116, 3) := by decide +kernel
theorem dX9_write_47 : decode cX9_write 47 = .ok (.imul, 1) := by decide +kernel
theorem dX9_write_48 : decode cX9_write 48 = .ok (.iload_n 1, 1) := by decide +kernel
theorem dX9_write_49 : decode cX9_write 49 = .ok (.iastore, 1) := by decide +kernel
theorem dX9_write_50 : decode cX9_write 50 = .ok (.aload_n 0, 1) := by decide +kernel
theorem dX9_write_51 : decode cX9_write 51 = .ok (.getfield 35, 3) := by decide +kernel
theorem dX9_write_54 : decode cX9_write 54 = .ok (.iconst 2, 1) := by decide +kernel
theorem dX9_write_55 : decode cX9_write 55 = .ok (.aload_n 0, 1) := by decide +kernel
theorem dX9_write_56 : decode cX9_write 56 = .ok (.getfield 116, 3) := by decide +kernel
theorem dX9_write_59 : decode cX9_write 59 = .ok (.imul, 1) := by decide +kernel
theorem dX9_write_60 : decode cX9_write 60 = .ok (.iconst 1, 1) := by decide +kernel
theorem dX9_write_61 : decode cX9_write 61 = .ok (.iadd, 1) := by decide +kernel
theorem dX9_write_62 : decode cX9_write 62 = .ok (.iload_n 2, 1) := by decide +kernel
theorem dX9_write_63 : decode cX9_write 63 = .ok (.iastore, 1) := by decide +kernel
theorem dX9_write_64 : decode cX9_write 64 = .ok (.aload_n 0, 1) := by decide +kernel
theorem dX9_write_65 : decode cX9_write 65 = .ok (.dup, 1) := by decide +kernel
theorem dX9_write_66 : decode cX9_write 66 = .ok (.getfield 116, 3) := by decide +kernel
theorem dX9_write_69 : decode cX9_write 69 = .ok (.iconst 1, 1) := by decide +kernel
theorem dX9_write_70 : decode cX9_write 70 = .ok (.iadd, 1) := by decide +kernel
theorem dX9_write_71 : decode cX9_write 71 = .ok (.putfield 116, 3) := by decide +kernel
theorem dX9_write_74 : decode cX9_write 74 = .ok (.aload_n 0, 1) := by decide +kernel
theorem dX9_write_75 : decode cX9_write 75 = .ok (.getfield 116, 3) := by decide +kernel
theorem dX9_write_78 : decode cX9_write 78 = .ok (.ireturn, 1) := by decide +kernel
theorem dX9_tear_0 : decode cX9_tear 0 = .ok (.aload_n 0, 1) := by decide +kernel
theorem dX9_tear_1 : decode cX9_tear 1 = .ok (.getfield 113, 3) := by decide +kernel
theorem dX9_tear_4 : decode cX9_tear 4 = .ok (.aload_n 0, 1) := by decide +kernel
theorem dX9_tear_5 : decode cX9_tear 5 = .ok (.getfield 116, 3) := by decide +kernel
theorem dX9_tear_8 : decode cX9_tear 8 = .ok (.iadd, 1) := by decide +kernel
theorem dX9_tear_9 : decode cX9_tear 9 = .ok (.istore_n 1, 1) := by decide +kernel
theorem dX9_tear_10 : decode cX9_tear 10 = .ok (.aload_n 0, 1) := by decide +kernel
theorem dX9_tear_11 : decode cX9_tear 11 = .ok (.iconst 0, 1) := by decide +kernel
theorem dX9_tear_12 : decode cX9_tear 12 = .ok (.putfield 113, 3) := by decide +kernel
theorem dX9_tear_15 : decode cX9_tear 15 = .ok (.aload_n 0, 1) := by decide +kernel
theorem dX9_tear_16 : decode cX9_tear 16 = .ok (.iconst 0, 1) := by decide +kernel
theorem dX9_tear_17 : decode cX9_tear 17 = .ok (.putfield 116, 3) := by decide +kernel
theorem dX9_tear_20 : decode cX9_tear 20 = .ok (.iload_n 1, 1) := by decide +kernel
theorem dX9_tear_21 : decode cX9_tear 21 = .ok (.ireturn, 1) := by decide +kernel
theorem dX9_judge_0 : decode cX9_judge 0 = .ok (.iconst 0, 1) := by decide +kernel
theorem dX9_judge_1 : decode cX9_judge 1 = .ok (.istore_n 1, 1) := by decide +kernel
theorem dX9_judge_2 : decode cX9_judge 2 = .ok (.iload_n 1, 1) := by decide +kernel
theorem dX9_judge_3 : decode cX9_judge 3 = .ok (.aload_n 0, 1) := by decide +kernel
theorem dX9_judge_4 : decode cX9_judge 4 = .ok (.getfield 116, 3) := by decide +kernel
theorem dX9_judge_7 : decode cX9_judge 7 = .ok (.if_icmp .ge 39, 3) := by decide +kernel
theorem dX9_judge_10 : decode cX9_judge 10 = .ok (.aload_n 0, 1) := by decide +kernel
theorem dX9_judge_11 : decode cX9_judge 11 = .ok (.getfield 13, 3) := by decide +kernel
theorem dX9_judge_14 : decode cX9_judge 14 = .ok (.iconst 0, 1) := by decide +kernel
theorem dX9_judge_15 : decode cX9_judge 15 = .ok (.aload_n 0, 1) := by decide +kernel
theorem dX9_judge_16 : decode cX9_judge 16 = .ok (.getfield 35, 3) := by decide +kernel
theorem dX9_judge_19 : decode cX9_judge 19 = .ok (.iconst 2, 1) := by decide +kernel
theorem dX9_judge_20 : decode cX9_judge 20 = .ok (.iload_n 1, 1) := by decide +kernel
theorem dX9_judge_21 : decode cX9_judge 21 = .ok (.imul, 1) := by decide +kernel
theorem dX9_judge_22 : decode cX9_judge 22 = .ok (.iaload, 1) := by decide +kernel
theorem dX9_judge_23 : decode cX9_judge 23 = .ok (.iadd, 1) := by decide +kernel
theorem dX9_judge_24 : decode cX9_judge 24 = .ok (.iaload, 1) := by decide +kernel
theorem dX9_judge_25 : decode cX9_judge 25 = .ok (.aload_n 0, 1) := by decide +kernel
theorem dX9_judge_26 : decode cX9_judge 26 = .ok (.getfield 35, 3) := by decide +kernel
theorem dX9_judge_29 : decode cX9_judge 29 = .ok (.iconst 2, 1) := by decide +kernel
theorem dX9_judge_30 : decode cX9_judge 30 = .ok (.iload_n 1, 1) := by decide +kernel
theorem dX9_judge_31 : decode cX9_judge 31 = .ok (.imul, 1) := by decide +kernel
theorem dX9_judge_32 : decode cX9_judge 32 = .ok (.iconst 1, 1) := by decide +kernel
theorem dX9_judge_33 : decode cX9_judge 33 = .ok (.iadd, 1) := by decide +kernel
theorem dX9_judge_34 : decode cX9_judge 34 = .ok (.iaload, 1) := by decide +kernel
theorem dX9_judge_35 : decode cX9_judge 35 = .ok (.if_icmp .eq 5, 3) := by decide +kernel
theorem dX9_judge_38 : decode cX9_judge 38 = .ok (.iload_n 1, 1) := by decide +kernel
theorem dX9_judge_39 : decode cX9_judge 39 = .ok (.ireturn, 1) := by decide +kernel
theorem dX9_judge_40 : decode cX9_judge 40 = .ok (.iinc 1 1, 3) := by decide +kernel
theorem dX9_judge_43 : decode cX9_judge 43 = .ok (.goto (-41), 3) := by decide +kernel
theorem dX9_judge_46 : decode cX9_judge 46 = .ok (.iconst (-1), 1) := by decide +kernel
theorem dX9_judge_47 : decode cX9_judge 47 = .ok (.ireturn, 1) := by decide +kernel
theorem dX9_seed_0 : decode cX9_seed 0 = .ok (.iload_n 1, 1) := by decide +kernel
theorem dX9_seed_1 : decode cX9_seed 1 = .ok (.ifCond .ge 6, 3) := by decide +kernel
theorem dX9_seed_4 : decode cX9_seed 4 = .ok (.ldc 54, 2) := by decide +kernel
theorem dX9_seed_6 : decode cX9_seed 6 = .ok (.ireturn, 1) := by decide +kernel
theorem dX9_seed_7 : decode cX9_seed 7 = .ok (.aload_n 0, 1) := by decide +kernel
theorem dX9_seed_8 : decode cX9_seed 8 = .ok (.getfield 159, 3) := by decide +kernel
theorem dX9_seed_11 : decode cX9_seed 11 = .ok (.istore_n 2, 1) := by decide +kernel
theorem dX9_seed_12 : decode cX9_seed 12 = .ok (.aload_n 0, 1) := by decide +kernel
theorem dX9_seed_13 : decode cX9_seed 13 = .ok (.iload_n 1, 1) := by decide +kernel
theorem dX9_seed_14 : decode cX9_seed 14 = .ok (.putfield 159, 3) := by decide +kernel
theorem dX9_seed_17 : decode cX9_seed 17 = .ok (.iload_n 2, 1) := by decide +kernel
theorem dX9_seed_18 : decode cX9_seed 18 = .ok (.ireturn, 1) := by decide +kernel
set_option maxRecDepth 20000 in
theorem ggX9_keep_X9_in : GoodIn wsX9_keep wsX9_in := goodIn_r _ [11] (by decide +kernel) (by decide +kernel)
set_option maxRecDepth 20000 in
theorem gX9_keep_X9_in : GoodIn wsX9_keep (va_wsS RX9 50 yX9_in wsX9_in) := goodIn_app (goodIn_of _ (by decide +kernel)) ggX9_keep_X9_in
theorem dX9_keep_0 : decode cX9_keep 0 = .ok (.iload_n 1, 1) := by decide +kernel
theorem dX9_keep_1 : decode cX9_keep 1 = .ok (.i2l, 1) := by decide +kernel
theorem dX9_keep_2 : decode cX9_keep 2 = .ok (.lconst 0, 1) := by decide +kernel
theorem dX9_keep_3 : decode cX9_keep 3 = .ok (.lconst 1, 1) := by decide +kernel
theorem dX9_keep_4 : decode cX9_keep 4 = .ok (.invokestatic 50, 3) := by decide +kernel
theorem dX9_keep_7 : decode cX9_keep 7 = .ok (.ifCond .ne 6, 3) := by decide +kernel
theorem dX9_keep_10 : decode cX9_keep 10 = .ok (.ldc 126, 2) := by decide +kernel
theorem dX9_keep_12 : decode cX9_keep 12 = .ok (.ireturn, 1) := by decide +kernel
theorem dX9_keep_13 : decode cX9_keep 13 = .ok (.iconst 0, 1) := by decide +kernel
theorem dX9_keep_14 : decode cX9_keep 14 = .ok (.istore_n 2, 1) := by decide +kernel
theorem dX9_keep_15 : decode cX9_keep 15 = .ok (.iload_n 2, 1) := by decide +kernel
theorem dX9_keep_16 : decode cX9_keep 16 = .ok (.bipush 17, 2) := by decide +kernel
theorem dX9_keep_18 : decode cX9_keep 18 = .ok (.if_icmp .ge 26, 3) := by decide +kernel
theorem dX9_keep_21 : decode cX9_keep 21 = .ok (.aload_n 0, 1) := by decide +kernel
theorem dX9_keep_22 : decode cX9_keep 22 = .ok (.getfield 42, 3) := by decide +kernel
theorem dX9_keep_25 : decode cX9_keep 25 = .ok (.bipush 17, 2) := by decide +kernel
theorem dX9_keep_27 : decode cX9_keep 27 = .ok (.iload_n 1, 1) := by decide +kernel
theorem dX9_keep_28 : decode cX9_keep 28 = .ok (.imul, 1) := by decide +kernel
theorem dX9_keep_29 : decode cX9_keep 29 = .ok (.iload_n 2, 1) := by decide +kernel
theorem dX9_keep_30 : decode cX9_keep 30 = .ok (.iadd, 1) := by decide +kernel
theorem dX9_keep_31 : decode cX9_keep 31 = .ok (.aload_n 0, 1) := by decide +kernel
theorem dX9_keep_32 : decode cX9_keep 32 = .ok (.getfield 13, 3) := by decide +kernel
theorem dX9_keep_35 : decode cX9_keep 35 = .ok (.iload_n 2, 1) := by decide +kernel
theorem dX9_keep_36 : decode cX9_keep 36 = .ok (.iaload, 1) := by decide +kernel
theorem dX9_keep_37 : decode cX9_keep 37 = .ok (.iastore, 1) := by decide +kernel
theorem dX9_keep_38 : decode cX9_keep 38 = .ok (.iinc 2 1, 3) := by decide +kernel
theorem dX9_keep_41 : decode cX9_keep 41 = .ok (.goto (-26), 3) := by decide +kernel
theorem dX9_keep_44 : decode cX9_keep 44 = .ok (.aload_n 0, 1) := by decide +kernel
theorem dX9_keep_45 : decode cX9_keep 45 = .ok (.getfield 45, 3) := by decide +kernel
theorem dX9_keep_48 : decode cX9_keep 48 = .ok (.iload_n 1, 1) := by decide +kernel
theorem dX9_keep_49 : decode cX9_keep 49 = .ok (.aload_n 0, 1) := by decide +kernel
theorem dX9_keep_50 : decode cX9_keep 50 = .ok (.getfield 159, 3) := by decide +kernel
theorem dX9_keep_53 : decode cX9_keep 53 = .ok (.iastore, 1) := by decide +kernel
theorem dX9_keep_54 : decode cX9_keep 54 = .ok (.aload_n 0, 1) := by decide +kernel
theorem dX9_keep_55 : decode cX9_keep 55 = .ok (.getfield 38, 3) := by decide +kernel
theorem dX9_keep_58 : decode cX9_keep 58 = .ok (.iload_n 1, 1) := by decide +kernel
theorem dX9_keep_59 : decode cX9_keep 59 = .ok (.iconst 1, 1) := by decide +kernel
theorem dX9_keep_60 : decode cX9_keep 60 = .ok (.bastore, 1) := by decide +kernel
theorem dX9_keep_61 : decode cX9_keep 61 = .ok (.aload_n 0, 1) := by decide +kernel
theorem dX9_keep_62 : decode cX9_keep 62 = .ok (.iconst 0, 1) := by decide +kernel
theorem dX9_keep_63 : decode cX9_keep 63 = .ok (.putfield 110, 3) := by decide +kernel
theorem dX9_keep_66 : decode cX9_keep 66 = .ok (.iconst 1, 1) := by decide +kernel
theorem dX9_keep_67 : decode cX9_keep 67 = .ok (.ireturn, 1) := by decide +kernel
set_option maxRecDepth 20000 in
theorem ggX9_goBack_X9_in : GoodIn wsX9_goBack wsX9_in := goodIn_r _ [12] (by decide +kernel) (by decide +kernel)
set_option maxRecDepth 20000 in
theorem gX9_goBack_X9_in : GoodIn wsX9_goBack (va_wsS RX9 50 yX9_in wsX9_in) := goodIn_app (goodIn_of _ (by decide +kernel)) ggX9_goBack_X9_in
theorem dX9_goBack_0 : decode cX9_goBack 0 = .ok (.iload_n 1, 1) := by decide +kernel
theorem dX9_goBack_1 : decode cX9_goBack 1 = .ok (.i2l, 1) := by decide +kernel
theorem dX9_goBack_2 : decode cX9_goBack 2 = .ok (.lconst 0, 1) := by decide +kernel
theorem dX9_goBack_3 : decode cX9_goBack 3 = .ok (.lconst 1, 1) := by decide +kernel
theorem dX9_goBack_4 : decode cX9_goBack 4 = .ok (.invokestatic 50, 3) := by decide +kernel
theorem dX9_goBack_7 : decode cX9_goBack 7 = .ok (.ifCond .ne 6, 3) := by decide +kernel
theorem dX9_goBack_10 : decode cX9_goBack 10 = .ok (.ldc 126, 2) := by decide +kernel
theorem dX9_goBack_12 : decode cX9_goBack 12 = .ok (.ireturn, 1) := by decide +kernel
theorem dX9_goBack_13 : decode cX9_goBack 13 = .ok (.aload_n 0, 1) := by decide +kernel
theorem dX9_goBack_14 : decode cX9_goBack 14 = .ok (.getfield 38, 3) := by decide +kernel
theorem dX9_goBack_17 : decode cX9_goBack 17 = .ok (.iload_n 1, 1) := by decide +kernel
theorem dX9_goBack_18 : decode cX9_goBack 18 = .ok (.baload, 1) := by decide +kernel
theorem dX9_goBack_19 : decode cX9_goBack 19 = .ok (.ifCond .ne 6, 3) := by decide +kernel
theorem dX9_goBack_22 : decode cX9_goBack 22 = .ok (.ldc 147, 2) := by decide +kernel
theorem dX9_goBack_24 : decode cX9_goBack 24 = .ok (.ireturn, 1) := by decide +kernel
theorem dX9_goBack_25 : decode cX9_goBack 25 = .ok (.iconst 0, 1) := by decide +kernel
theorem dX9_goBack_26 : decode cX9_goBack 26 = .ok (.istore_n 2, 1) := by decide +kernel
theorem dX9_goBack_27 : decode cX9_goBack 27 = .ok (.iload_n 2, 1) := by decide +kernel
theorem dX9_goBack_28 : decode cX9_goBack 28 = .ok (.bipush 17, 2) := by decide +kernel
theorem dX9_goBack_30 : decode cX9_goBack 30 = .ok (.if_icmp .ge 26, 3) := by decide +kernel
theorem dX9_goBack_33 : decode cX9_goBack 33 = .ok (.aload_n 0, 1) := by decide +kernel
theorem dX9_goBack_34 : decode cX9_goBack 34 = .ok (.getfield 13, 3) := by decide +kernel
theorem dX9_goBack_37 : decode cX9_goBack 37 = .ok (.iload_n 2, 1) := by decide +kernel
theorem dX9_goBack_38 : decode cX9_goBack 38 = .ok (.aload_n 0, 1) := by decide +kernel
theorem dX9_goBack_39 : decode cX9_goBack 39 = .ok (.getfield 42, 3) := by decide +kernel
theorem dX9_goBack_42 : decode cX9_goBack 42 = .ok (.bipush 17, 2) := by decide +kernel
theorem dX9_goBack_44 : decode cX9_goBack 44 = .ok (.iload_n 1, 1) := by decide +kernel
theorem dX9_goBack_45 : decode cX9_goBack 45 = .ok (.imul, 1) := by decide +kernel
theorem dX9_goBack_46 : decode cX9_goBack 46 = .ok (.iload_n 2, 1) := by decide +kernel
theorem dX9_goBack_47 : decode cX9_goBack 47 = .ok (.iadd, 1) := by decide +kernel
theorem dX9_goBack_48 : decode cX9_goBack 48 = .ok (.iaload, 1) := by decide +kernel
theorem dX9_goBack_49 : decode cX9_goBack 49 = .ok (.iastore, 1) := by decide +kernel
theorem dX9_goBack_50 : decode cX9_goBack 50 = .ok (.iinc 2 1, 3) := by decide +kernel
theorem dX9_goBack_53 : decode cX9_goBack 53 = .ok (.goto (-26), 3) := by decide +kernel
theorem dX9_goBack_56 : decode cX9_goBack 56 = .ok (.aload_n 0, 1) := by decide +kernel
theorem dX9_goBack_57 : decode cX9_goBack 57 = .ok (.aload_n 0, 1) := by decide +kernel
theorem dX9_goBack_58 : decode cX9_goBack 58 = .ok (.getfield 45, 3) := by decide +kernel
theorem dX9_goBack_61 : decode cX9_goBack 61 = .ok (.iload_n 1, 1) := by decide +kernel
theorem dX9_goBack_62 : decode cX9_goBack 62 = .ok (.iaload, 1) := by decide +kernel
theorem dX9_goBack_63 : decode cX9_goBack 63 = .ok (.putfield 159, 3) := by decide +kernel
theorem dX9_goBack_66 : decode cX9_goBack 66 = .ok (.aload_n 0, 1) := by decide +kernel
theorem dX9_goBack_67 : decode cX9_goBack 67 = .ok (.iconst 0, 1) := by decide +kernel
theorem dX9_goBack_68 : decode cX9_goBack 68 = .ok (.putfield 110, 3) := by decide +kernel
theorem dX9_goBack_71 : decode cX9_goBack 71 = .ok (.iconst 1, 1) := by decide +kernel
theorem dX9_goBack_72 : decode cX9_goBack 72 = .ok (.ireturn, 1) := by decide +kernel
