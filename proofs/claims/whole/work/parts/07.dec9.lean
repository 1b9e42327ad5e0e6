theorem dX9_drift_19 : decode cX9_drift 19 = .ok (.iload_n 1, 1) := by decide +kernel
theorem dX9_drift_20 : decode cX9_drift 20 = .ok (.if_icmp .ge 54, 3) := by decide +kernel
theorem dX9_drift_23 : decode cX9_drift 23 = .ok (.aload_n 0, 1) := by decide +kernel
theorem dX9_drift_24 : decode cX9_drift 24 = .ok (.getfield 29, 3) := by decide +kernel
theorem dX9_drift_27 : decode cX9_drift 27 = .ok (.iconst 5, 1) := by decide +kernel
theorem dX9_drift_28 : decode cX9_drift 28 = .ok (.iaload, 1) := by decide +kernel
theorem dX9_drift_29 : decode cX9_drift 29 = .ok (.ifCond .ne 45, 3) := by decide +kernel
theorem dX9_drift_32 : decode cX9_drift 32 = .ok (.aload_n 0, 1) := by decide +kernel
theorem dX9_drift_33 : decode cX9_drift 33 = .ok (.getfield 29, 3) := by decide +kernel
theorem dX9_drift_36 : decode cX9_drift 36 = .ok (.iconst 1, 1) := by decide +kernel
theorem dX9_drift_37 : decode cX9_drift 37 = .ok (.dup2, 1) := by decide +kernel
theorem dX9_drift_38 : decode cX9_drift 38 = .ok (.iaload, 1) := by decide +kernel
theorem dX9_drift_39 : decode cX9_drift 39 = .ok (.aload_n 0, 1) := by decide +kernel
theorem dX9_drift_40 : decode cX9_drift 40 = .ok (.iconst 5, 1) := by decide +kernel
theorem dX9_drift_41 : decode cX9_drift 41 = .ok (.invokevirtual 251, 3) := by decide +kernel
theorem dX9_drift_44 : decode cX9_drift 44 = .ok (.iconst 2, 1) := by decide +kernel
theorem dX9_drift_45 : decode cX9_drift 45 = .ok (.isub, 1) := by decide +kernel
theorem dX9_drift_46 : decode cX9_drift 46 = .ok (.iadd, 1) := by decide +kernel
theorem dX9_drift_47 : decode cX9_drift 47 = .ok (.iastore, 1) := by decide +kernel
theorem dX9_drift_48 : decode cX9_drift 48 = .ok (.aload_n 0, 1) := by decide +kernel
theorem dX9_drift_49 : decode cX9_drift 49 = .ok (.getfield 29, 3) := by decide +kernel
theorem dX9_drift_52 : decode cX9_drift 52 = .ok (.iconst 2, 1) := by decide +kernel
theorem dX9_drift_53 : decode cX9_drift 53 = .ok (.dup2, 1) := by decide +kernel
theorem dX9_drift_54 : decode cX9_drift 54 = .ok (.iaload, 1) := by decide +kernel
theorem dX9_drift_55 : decode cX9_drift 55 = .ok (.aload_n 0, 1) := by decide +kernel
theorem dX9_drift_56 : decode cX9_drift 56 = .ok (.iconst 5, 1) := by decide +kernel
theorem dX9_drift_57 : decode cX9_drift 57 = .ok (.invokevirtual 251, 3) := by decide +kernel
theorem dX9_drift_60 : decode cX9_drift 60 = .ok (.iconst 2, 1) := by decide +kernel
theorem dX9_drift_61 : decode cX9_drift 61 = .ok (.isub, 1) := by decide +kernel
theorem dX9_drift_62 : decode cX9_drift 62 = .ok (.iadd, 1) := by decide +kernel
theorem dX9_drift_63 : decode cX9_drift 63 = .ok (.iastore, 1) := by decide +kernel
theorem dX9_drift_64 : decode cX9_drift 64 = .ok (.aload_n 0, 1) := by decide +kernel
theorem dX9_drift_65 : decode cX9_drift 65 = .ok (.invokevirtual 214, 3) := by decide +kernel
theorem dX9_drift_68 : decode cX9_drift 68 = .ok (.iinc 3 1, 3) := by decide +kernel
theorem dX9_drift_71 : decode cX9_drift 71 = .ok (.goto (-53), 3) := by decide +kernel
theorem dX9_drift_74 : decode cX9_drift 74 = .ok (.aload_n 0, 1) := by decide +kernel
theorem dX9_drift_75 : decode cX9_drift 75 = .ok (.getfield 29, 3) := by decide +kernel
theorem dX9_drift_78 : decode cX9_drift 78 = .ok (.iconst 1, 1) := by decide +kernel
theorem dX9_drift_79 : decode cX9_drift 79 = .ok (.iaload, 1) := by decide +kernel
theorem dX9_drift_80 : decode cX9_drift 80 = .ok (.sipush 10000, 3) := by decide +kernel
theorem dX9_drift_83 : decode cX9_drift 83 = .ok (.iadd, 1) := by decide +kernel
theorem dX9_drift_84 : decode cX9_drift 84 = .ok (.ireturn, 1) := by decide +kernel
theorem dX9_undo_0 : decode cX9_undo 0 = .ok (.aload_n 0, 1) := by decide +kernel
theorem dX9_undo_1 : decode cX9_undo 1 = .ok (.getfield 193, 3) := by decide +kernel
theorem dX9_undo_4 : decode cX9_undo 4 = .ok (.ifCond .ne 6, 3) := by decide +kernel
theorem dX9_undo_7 : decode cX9_undo 7 = .ok (.ldc 223, 2) := by decide +kernel
theorem dX9_undo_9 : decode cX9_undo 9 = .ok (.ireturn, 1) := by decide +kernel
theorem dX9_undo_10 : decode cX9_undo 10 = .ok (.aload_n 0, 1) := by decide +kernel
theorem dX9_undo_11 : decode cX9_undo 11 = .ok (.dup, 1) := by decide +kernel
theorem dX9_undo_12 : decode cX9_undo 12 = .ok (.getfield 193, 3) := by decide +kernel
theorem dX9_undo_15 : decode cX9_undo 15 = .ok (.iconst 1, 1) := by decide +kernel
theorem dX9_undo_16 : decode cX9_undo 16 = .ok (.isub, 1) := by decide +kernel
theorem dX9_undo_17 : decode cX9_undo 17 = .ok (.putfield 193, 3) := by decide +kernel
theorem dX9_undo_20 : decode cX9_undo 20 = .ok (.iconst 0, 1) := by decide +kernel
theorem dX9_undo_21 : decode cX9_undo 21 = .ok (.istore_n 1, 1) := by decide +kernel
theorem dX9_undo_22 : decode cX9_undo 22 = .ok (.iload_n 1, 1) := by decide +kernel
theorem dX9_undo_23 : decode cX9_undo 23 = .ok (.bipush 12, 2) := by decide +kernel
theorem dX9_undo_25 : decode cX9_undo 25 = .ok (.if_icmp .ge 29, 3) := by decide +kernel
theorem dX9_undo_28 : decode cX9_undo 28 = .ok (.aload_n 0, 1) := by decide +kernel
theorem dX9_undo_29 : decode cX9_undo 29 = .ok (.getfield 29, 3) := by decide +kernel
theorem dX9_undo_32 : decode cX9_undo 32 = .ok (.iload_n 1, 1) := by decide +kernel
theorem dX9_undo_33 : decode cX9_undo 33 = .ok (.aload_n 0, 1) := by decide +kernel
theorem dX9_undo_34 : decode cX9_undo 34 = .ok (.getfield 56, 3) := by decide +kernel
theorem dX9_undo_37 : decode cX9_undo 37 = .ok (.bipush 12, 2) := by decide +kernel
theorem dX9_undo_39 : decode cX9_undo 39 = .ok (.aload_n 0, 1) := by decide +kernel
theorem dX9_undo_40 : decode cX9_undo 40 = .ok (.getfield 193, 3) := by decide +kernel
theorem dX9_undo_43 : decode cX9_undo 43 = .ok (.imul, 1) := by decide +kernel
theorem dX9_undo_44 : decode cX9_undo 44 = .ok (.iload_n 1, 1) := by decide +kernel
theorem dX9_undo_45 : decode cX9_undo 45 = .ok (.iadd, 1) := by decide +kernel
theorem dX9_undo_46 : decode cX9_undo 46 = .ok (.iaload, 1) := by decide +kernel
theorem dX9_undo_47 : decode cX9_undo 47 = .ok (.iastore, 1) := by decide +kernel
theorem dX9_undo_48 : decode cX9_undo 48 = .ok (.iinc 1 1, 3) := by decide +kernel
theorem dX9_undo_51 : decode cX9_undo 51 = .ok (.goto (-29), 3) := by decide +kernel
theorem dX9_undo_54 : decode cX9_undo 54 = .ok (.aload_n 0, 1) := by decide +kernel
theorem dX9_undo_55 : decode cX9_undo 55 = .ok (.getfield 193, 3) := by decide +kernel
theorem dX9_undo_58 : decode cX9_undo 58 = .ok (.ireturn, 1) := by decide +kernel
theorem dX9_save_0 : decode cX9_save 0 = .ok (.iconst 0, 1) := by decide +kernel
theorem dX9_save_1 : decode cX9_save 1 = .ok (.istore_n 1, 1) := by decide +kernel
theorem dX9_save_2 : decode cX9_save 2 = .ok (.iload_n 1, 1) := by decide +kernel
theorem dX9_save_3 : decode cX9_save 3 = .ok (.bipush 12, 2) := by decide +kernel
theorem dX9_save_5 : decode cX9_save 5 = .ok (.if_icmp .ge 21, 3) := by decide +kernel
theorem dX9_save_8 : decode cX9_save 8 = .ok (.aload_n 0, 1) := by decide +kernel
theorem dX9_save_9 : decode cX9_save 9 = .ok (.getfield 59, 3) := by decide +kernel
theorem dX9_save_12 : decode cX9_save 12 = .ok (.iload_n 1, 1) := by decide +kernel
theorem dX9_save_13 : decode cX9_save 13 = .ok (.aload_n 0, 1) := by decide +kernel
theorem dX9_save_14 : decode cX9_save 14 = .ok (.getfield 29, 3) := by decide +kernel
theorem dX9_save_17 : decode cX9_save 17 = .ok (.iload_n 1, 1) := by decide +kernel
theorem dX9_save_18 : decode cX9_save 18 = .ok (.iaload, 1) := by decide +kernel
theorem dX9_save_19 : decode cX9_save 19 = .ok (.iastore, 1) := by decide +kernel
theorem dX9_save_20 : decode cX9_save 20 = .ok (.iinc 1 1, 3) := by decide +kernel
theorem dX9_save_23 : decode cX9_save 23 = .ok (.goto (-21), 3) := by decide +kernel
theorem dX9_save_26 : decode cX9_save 26 = .ok (.return_, 1) := by decide +kernel
theorem dX9_putBack_0 : decode cX9_putBack 0 = .ok (.iconst 0, 1) := by decide +kernel
theorem dX9_putBack_1 : decode cX9_putBack 1 = .ok (.istore_n 1, 1) := by decide +kernel
theorem dX9_putBack_2 : decode cX9_putBack 2 = .ok (.iload_n 1, 1) := by decide +kernel
theorem dX9_putBack_3 : decode cX9_putBack 3 = .ok (.bipush 12, 2) := by decide +kernel
theorem dX9_putBack_5 : decode cX9_putBack 5 = .ok (.if_icmp .ge 21, 3) := by decide +kernel
theorem dX9_putBack_8 : decode cX9_putBack 8 = .ok (.aload_n 0, 1) := by decide +kernel
theorem dX9_putBack_9 : decode cX9_putBack 9 = .ok (.getfield 29, 3) := by decide +kernel
theorem dX9_putBack_12 : decode cX9_putBack 12 = .ok (.iload_n 1, 1) := by decide +kernel
theorem dX9_putBack_13 : decode cX9_putBack 13 = .ok (.aload_n 0, 1) := by decide +kernel
theorem dX9_putBack_14 : decode cX9_putBack 14 = .ok (.getfield 59, 3) := by decide +kernel
theorem dX9_putBack_17 : decode cX9_putBack 17 = .ok (.iload_n 1, 1) := by decide +kernel
theorem dX9_putBack_18 : decode cX9_putBack 18 = .ok (.iaload, 1) := by decide +kernel
theorem dX9_putBack_19 : decode cX9_putBack 19 = .ok (.iastore, 1) := by decide +kernel
theorem dX9_putBack_20 : decode cX9_putBack 20 = .ok (.iinc 1 1, 3) := by decide +kernel
theorem dX9_putBack_23 : decode cX9_putBack 23 = .ok (.goto (-21), 3) := by decide +kernel
theorem dX9_putBack_26 : decode cX9_putBack 26 = .ok (.return_, 1) := by decide +kernel
set_option maxRecDepth 20000 in
theorem ggX9_where_X9_in : GoodIn wsX9_where wsX9_in := goodIn_r _ [9] (by decide +kernel) (by decide +kernel)
set_option maxRecDepth 20000 in
theorem gX9_where_X9_in : GoodIn wsX9_where (va_wsS RX9 96 yX9_in wsX9_in) := goodIn_app (goodIn_of _ (by decide +kernel)) ggX9_where_X9_in
set_option maxRecDepth 20000 in
theorem ggX9_where_X9_save : GoodIn wsX9_where wsX9_save := goodIn_r _ [13, 14, 5, 42, 43, 44, 45, 46, 47, 48, 49, 50, 51, 52, 53, 54, 55, 56, 57, 58, 59, 60, 61, 62, 63, 64, 65, 66, 67, 68, 69, 70, 71, 72, 73, 74, 75, 76, 77, 78, 79, 80, 81, 82, 83, 84, 85, 86, 87, 88] (by decide +kernel) (by decide +kernel)
set_option maxRecDepth 20000 in
theorem gX9_where_X9_save : GoodIn wsX9_where (wsV RX9 256 RX9 yX9_save wsX9_save) := goodIn_app (goodIn_of _ (by decide +kernel)) ggX9_where_X9_save
set_option maxRecDepth 20000 in
theorem ggX9_where_X9_pass : GoodIn wsX9_where wsX9_pass := goodIn_r _ [18, 5, 19, 20, 21, 22, 23, 24, 25, 26, 27, 8, 28, 29, 30, 31, 32, 33, 34, 35, 36, 37, 42, 43, 44, 45, 46, 47, 48, 49, 50, 51, 52, 53, 54, 55, 56, 57, 58, 59, 60, 61, 62, 63, 64, 65, 66, 67, 68, 69, 70, 71, 72, 73, 74, 75, 76, 77, 78, 79, 80, 81, 82, 83, 84, 85, 86, 87, 88] (by decide +kernel) (by decide +kernel)
set_option maxRecDepth 20000 in
theorem gX9_where_X9_pass : GoodIn wsX9_where (wsV RX9 214 RX9 yX9_pass wsX9_pass) := goodIn_app (goodIn_of _ (by decide +kernel)) ggX9_where_X9_pass
set_option maxRecDepth 20000 in
theorem ggX9_where_X9_putBack : GoodIn wsX9_where wsX9_putBack := goodIn_r _ [41, 5, 14, 42, 43, 44, 45, 46, 47, 48, 49, 50, 51, 52, 53, 54, 55, 56, 57, 58, 59, 60, 61, 62, 63, 64, 65, 66, 67, 68, 69, 70, 71, 72, 73, 74, 75, 76, 77, 78, 79, 80, 81, 82, 83, 84, 85, 86, 87, 88] (by decide +kernel) (by decide +kernel)
set_option maxRecDepth 20000 in
theorem gX9_where_X9_putBack : GoodIn wsX9_where (wsV RX9 259 RX9 yX9_putBack wsX9_putBack) := goodIn_app (goodIn_of _ (by decide +kernel)) ggX9_where_X9_putBack
theorem dX9_where_0 : decode cX9_where 0 = .ok (.iload_n 1, 1) := by decide +kernel
theorem dX9_where_1 : decode cX9_where 1 = .ok (.i2l, 1) := by decide +kernel
theorem dX9_where_2 : decode cX9_where 2 = .ok (.lconst 0, 1) := by decide +kernel
theorem dX9_where_3 : decode cX9_where 3 = .ok (.ldc2_w 254, 3) := by decide +kernel
theorem dX9_where_6 : decode cX9_where 6 = .ok (.invokestatic 96, 3) := by decide +kernel
theorem dX9_where_9 : decode cX9_where 9 = .ok (.ifCond .eq 13, 3) := by decide +kernel
theorem dX9_where_12 : decode cX9_where 12 = .ok (.iload_n 2, 1) := by decide +kernel
theorem dX9_where_13 : decode cX9_where 13 = .ok (.i2l, 1) := by decide +kernel
theorem dX9_where_14 : decode cX9_where 14 = .ok (.lconst 0, 1) := by decide +kernel
theorem dX9_where_15 : decode cX9_where 15 = .ok (.lconst 1, 1) := by decide +kernel
theorem dX9_where_16 : decode cX9_where 16 = .ok (.invokestatic 96, 3) := by decide +kernel
theorem dX9_where_19 : decode cX9_where 19 = .ok (.ifCond .ne 6, 3) := by decide +kernel
theorem dX9_where_22 : decode cX9_where 22 = .ok (.ldc 100, 2) := by decide +kernel
theorem dX9_where_24 : decode cX9_where 24 = .ok (.ireturn, 1) := by decide +kernel
theorem dX9_where_25 : decode cX9_where 25 = .ok (.aload_n 0, 1) := by decide +kernel
theorem dX9_where_26 : decode cX9_where 26 = .ok (.getfield 90, 3) := by decide +kernel
theorem dX9_where_29 : decode cX9_where 29 = .ok (.ifCond .ne 6, 3) := by decide +kernel
theorem dX9_where_32 : decode cX9_where 32 = .ok (.ldc 223, 2) := by decide +kernel
theorem dX9_where_34 : decode cX9_where 34 = .ok (.ireturn, 1) := by decide +kernel
theorem dX9_where_35 : decode cX9_where 35 = .ok (.aload_n 0, 1) := by decide +kernel
theorem dX9_where_36 : decode cX9_where 36 = .ok (.invokevirtual 256, 3) := by decide +kernel
theorem dX9_where_39 : decode cX9_where 39 = .ok (.iconst 0, 1) := by decide +kernel
theorem dX9_where_40 : decode cX9_where 40 = .ok (.istore_n 3, 1) := by decide +kernel
theorem dX9_where_41 : decode cX9_where 41 = .ok (.iload_n 3, 1) := by decide +kernel
theorem dX9_where_42 : decode cX9_where 42 = .ok (.iload_n 1, 1) := by decide +kernel
theorem dX9_where_43 : decode cX9_where 43 = .ok (.if_icmp .ge 22, 3) := by decide +kernel
theorem dX9_where_46 : decode cX9_where 46 = .ok (.aload_n 0, 1) := by decide +kernel
theorem dX9_where_47 : decode cX9_where 47 = .ok (.getfield 29, 3) := by decide +kernel
theorem dX9_where_50 : decode cX9_where 50 = .ok (.iconst 5, 1) := by decide +kernel
theorem dX9_where_51 : decode cX9_where 51 = .ok (.iaload, 1) := by decide +kernel
theorem dX9_where_52 : decode cX9_where 52 = .ok (.ifCond .ne 13, 3) := by decide +kernel
theorem dX9_where_55 : decode cX9_where 55 = .ok (.aload_n 0, 1) := by decide +kernel
theorem dX9_where_56 : decode cX9_where 56 = .ok (.invokevirtual 214, 3) := by decide +kernel
theorem dX9_where_59 : decode cX9_where 59 = .ok (.iinc 3 1, 3) := by decide +kernel
theorem dX9_where_62 : decode cX9_where 62 = .ok (.goto (-21), 3) := by decide +kernel
theorem dX9_where_65 : decode cX9_where 65 = .ok (.aload_n 0, 1) := by decide +kernel
theorem dX9_where_66 : decode cX9_where 66 = .ok (.getfield 29, 3) := by decide +kernel
theorem dX9_where_69 : decode cX9_where 69 = .ok (.iconst 1, 1) := by decide +kernel
theorem dX9_where_70 : decode cX9_where 70 = .ok (.iload_n 2, 1) := by decide +kernel
theorem dX9_where_71 : decode cX9_where 71 = .ok (.iadd, 1) := by decide +kernel
theorem dX9_where_72 : decode cX9_where 72 = .ok (.iaload, 1) := by decide +kernel
theorem dX9_where_73 : decode cX9_where 73 = .ok (.sipush 10000, 3) := by decide +kernel
theorem dX9_where_76 : decode cX9_where 76 = .ok (.iadd, 1) := by decide +kernel
theorem dX9_where_77 : decode cX9_where 77 = .ok (.istore_n 3, 1) := by decide +kernel
theorem dX9_where_78 : decode cX9_where 78 = .ok (.aload_n 0, 1) := by decide +kernel
theorem dX9_where_79 : decode cX9_where 79 = .ok (.invokevirtual 259, 3) := by decide +kernel
theorem dX9_where_82 : decode cX9_where 82 = .ok (.iload_n 3, 1) := by decide +kernel
theorem dX9_where_83 : decode cX9_where 83 = .ok (.ireturn, 1) := by decide +kernel
set_option maxRecDepth 20000 in
theorem ggX9_lostWhen_X9_isReady : GoodIn wsX9_lostWhen wsX9_isReady := goodIn_r _ [7, 8, 2, 41, 42, 43, 44, 45, 46, 47, 48, 49, 50, 51, 52, 53, 54, 55, 56, 57, 58, 59, 60, 61, 62, 63, 64, 65, 66, 67, 68, 69, 70, 71, 72, 73, 74, 75, 76, 77, 78, 79, 80, 81, 82, 83, 84, 85, 86, 87] (by decide +kernel) (by decide +kernel)
set_option maxRecDepth 20000 in
theorem gX9_lostWhen_X9_isReady : GoodIn wsX9_lostWhen (wsV RX9 219 RX9 yX9_isReady wsX9_isReady) := goodIn_app (goodIn_of _ (by decide +kernel)) ggX9_lostWhen_X9_isReady
set_option maxRecDepth 20000 in
theorem ggX9_lostWhen_X9_save : GoodIn wsX9_lostWhen wsX9_save := goodIn_r _ [12, 13, 2, 41, 42, 43, 44, 45, 46, 47, 48, 49, 50, 51, 52, 53, 54, 55, 56, 57, 58, 59, 60, 61, 62, 63, 64, 65, 66, 67, 68, 69, 70, 71, 72, 73, 74, 75, 76, 77, 78, 79, 80, 81, 82, 83, 84, 85, 86, 87] (by decide +kernel) (by decide +kernel)
set_option maxRecDepth 20000 in
theorem gX9_lostWhen_X9_save : GoodIn wsX9_lostWhen (wsV RX9 256 RX9 yX9_save wsX9_save) := goodIn_app (goodIn_of _ (by decide +kernel)) ggX9_lostWhen_X9_save
set_option maxRecDepth 20000 in
theorem ggX9_lostWhen_X9_pass : GoodIn wsX9_lostWhen wsX9_pass := goodIn_r _ [17, 2, 18, 19, 20, 21, 22, 23, 24, 25, 26, 6, 27, 28, 29, 30, 31, 32, 33, 34, 35, 36, 41, 42, 43, 44, 45, 46, 47, 48, 49, 50, 51, 52, 53, 54, 55, 56, 57, 58, 59, 60, 61, 62, 63, 64, 65, 66, 67, 68, 69, 70, 71, 72, 73, 74, 75, 76, 77, 78, 79, 80, 81, 82, 83, 84, 85, 86, 87] (by decide +kernel) (by decide +kernel)
set_option maxRecDepth 20000 in
theorem gX9_lostWhen_X9_pass : GoodIn wsX9_lostWhen (wsV RX9 214 RX9 yX9_pass wsX9_pass) := goodIn_app (goodIn_of _ (by decide +kernel)) ggX9_lostWhen_X9_pass
set_option maxRecDepth 20000 in
theorem ggX9_lostWhen_X9_putBack : GoodIn wsX9_lostWhen wsX9_putBack := goodIn_r _ [40, 2, 13, 41, 42, 43, 44, 45, 46, 47, 48, 49, 50, 51, 52, 53, 54, 55, 56, 57, 58, 59, 60, 61, 62, 63, 64, 65, 66, 67, 68, 69, 70, 71, 72, 73, 74, 75, 76, 77, 78, 79, 80, 81, 82, 83, 84, 85, 86, 87] (by decide +kernel) (by decide +kernel)
set_option maxRecDepth 20000 in
theorem gX9_lostWhen_X9_putBack : GoodIn wsX9_lostWhen (wsV RX9 259 RX9 yX9_putBack wsX9_putBack) := goodIn_app (goodIn_of _ (by decide +kernel)) ggX9_lostWhen_X9_putBack
theorem dX9_lostWhen_0 : decode cX9_lostWhen 0 = .ok (.aload_n 0, 1) := by decide +kernel
theorem dX9_lostWhen_1 : decode cX9_lostWhen 1 = .ok (.invokevirtual 219, 3) := by decide +kernel
theorem dX9_lostWhen_4 : decode cX9_lostWhen 4 = .ok (.ifCond .ne 6, 3) := by decide +kernel
theorem dX9_lostWhen_7 : decode cX9_lostWhen 7 = .ok (.ldc 223, 2) := by decide +kernel
theorem dX9_lostWhen_9 : decode cX9_lostWhen 9 = .ok (.ireturn, 1) := by decide +kernel
theorem dX9_lostWhen_10 : decode cX9_lostWhen 10 = .ok (.aload_n 0, 1) := by decide +kernel
theorem dX9_lostWhen_11 : decode cX9_lostWhen 11 = .ok (.invokevirtual 256, 3) := by decide +kernel
theorem dX9_lostWhen_14 : decode cX9_lostWhen 14 = .ok (.iconst 0, 1) := by decide +kernel
theorem dX9_lostWhen_15 : decode cX9_lostWhen 15 = .ok (.istore_n 1, 1) := by decide +kernel
theorem dX9_lostWhen_16 : decode cX9_lostWhen 16 = .ok (.iload_n 1, 1) := by decide +kernel
theorem dX9_lostWhen_17 : decode cX9_lostWhen 17 = .ok (.sipush 999, 3) := by decide +kernel
theorem dX9_lostWhen_20 : decode cX9_lostWhen 20 = .ok (.if_icmp .ge 22, 3) := by decide +kernel
theorem dX9_lostWhen_23 : decode cX9_lostWhen 23 = .ok (.aload_n 0, 1) := by decide +kernel
theorem dX9_lostWhen_24 : decode cX9_lostWhen 24 = .ok (.getfield 29, 3) := by decide +kernel
theorem dX9_lostWhen_27 : decode cX9_lostWhen 27 = .ok (.iconst 5, 1) := by decide +kernel
theorem dX9_lostWhen_28 : decode cX9_lostWhen 28 = .ok (.iaload, 1) := by decide +kernel
theorem dX9_lostWhen_29 : decode cX9_lostWhen 29 = .ok (.ifCond .ne 13, 3) := by decide +kernel
theorem dX9_lostWhen_32 : decode cX9_lostWhen 32 = .ok (.aload_n 0, 1) := by decide +kernel
theorem dX9_lostWhen_33 : decode cX9_lostWhen 33 = .ok (.invokevirtual 214, 3) := by decide +kernel
theorem dX9_lostWhen_36 : decode cX9_lostWhen 36 = .ok (.iinc 1 1, 3) := by decide +kernel
theorem dX9_lostWhen_39 : decode cX9_lostWhen 39 = .ok (.goto (-23), 3) := by decide +kernel
theorem dX9_lostWhen_42 : decode cX9_lostWhen 42 = .ok (.aload_n 0, 1) := by decide +kernel
theorem dX9_lostWhen_43 : decode cX9_lostWhen 43 = .ok (.getfield 29, 3) := by decide +kernel
theorem dX9_lostWhen_46 : decode cX9_lostWhen 46 = .ok (.iconst 5, 1) := by decide +kernel
theorem dX9_lostWhen_47 : decode cX9_lostWhen 47 = .ok (.iaload, 1) := by decide +kernel
theorem dX9_lostWhen_48 : decode cX9_lostWhen 48 = .ok (.iconst 1, 1) := by decide +kernel
theorem dX9_lostWhen_49 : decode cX9_lostWhen 49 = .ok (.if_icmp .ne 14, 3) := by decide +kernel
theorem dX9_lostWhen_52 : decode cX9_lostWhen 52 = .ok (.aload_n 0, 1) := by decide +kernel
theorem dX9_lostWhen_53 : decode cX9_lostWhen 53 = .ok (.getfield 29, 3) := by decide +kernel
theorem dX9_lostWhen_56 : decode cX9_lostWhen 56 = .ok (.iconst 0, 1) := by decide +kernel
theorem dX9_lostWhen_57 : decode cX9_lostWhen 57 = .ok (.iaload, 1) := by decide +kernel
theorem dX9_lostWhen_58 : decode cX9_lostWhen 58 = .ok (.iconst 1, 1) := by decide +kernel
theorem dX9_lostWhen_59 : decode cX9_lostWhen 59 = .ok (.isub, 1) := by decide +kernel
theorem dX9_lostWhen_60 : decode cX9_lostWhen 60 = .ok (.goto 4, 3) := by decide +kernel
theorem dX9_lostWhen_63 : decode cX9_lostWhen 63 = .ok (.iconst (-1), 1) := by decide +kernel
theorem dX9_lostWhen_64 : decode cX9_lostWhen 64 = .ok (.istore_n 1, 1) := by decide +kernel
theorem dX9_lostWhen_65 : decode cX9_lostWhen 65 = .ok (.aload_n 0, 1) := by decide +kernel
theorem dX9_lostWhen_66 : decode cX9_lostWhen 66 = .ok (.invokevirtual 259, 3) := by decide +kernel
theorem dX9_lostWhen_69 : decode cX9_lostWhen 69 = .ok (.iload_n 1, 1) := by decide +kernel
theorem dX9_lostWhen_70 : decode cX9_lostWhen 70 = .ok (.ireturn, 1) := by decide +kernel
set_option maxRecDepth 20000 in
theorem ggX9_stretch_X9_in : GoodIn wsX9_stretch wsX9_in := goodIn_r _ [9] (by decide +kernel) (by decide +kernel)
set_option maxRecDepth 20000 in
theorem gX9_stretch_X9_in : GoodIn wsX9_stretch (va_wsS RX9 96 yX9_in wsX9_in) := goodIn_app (goodIn_of _ (by decide +kernel)) ggX9_stretch_X9_in
set_option maxRecDepth 20000 in
theorem ggX9_stretch_X9_save : GoodIn wsX9_stretch wsX9_save := goodIn_r _ [13, 14, 5, 50, 51, 52, 53, 54, 55, 56, 57, 58, 59, 60, 61, 62, 63, 64, 65, 66, 67, 68, 69, 70, 71, 72, 73, 74, 75, 76, 77, 78, 79, 80, 81, 82, 83, 84, 85, 86, 87, 88, 89, 90, 91, 92, 93, 94, 95, 96] (by decide +kernel) (by decide +kernel)
set_option maxRecDepth 20000 in
theorem gX9_stretch_X9_save : GoodIn wsX9_stretch (wsV RX9 256 RX9 yX9_save wsX9_save) := goodIn_app (goodIn_of _ (by decide +kernel)) ggX9_stretch_X9_save
set_option maxRecDepth 20000 in
theorem ggX9_stretch_X9_newPlate : GoodIn wsX9_stretch wsX9_newPlate := goodIn_r _ [18, 5, 50, 51, 52, 53, 54, 55, 56, 57, 58, 59, 60, 61, 62, 63, 64, 65, 66, 67, 68, 69, 70, 71, 72, 73, 74, 75, 76, 77, 78, 79, 80, 81, 82, 83, 84, 85, 86, 87, 88, 89, 90, 91, 92, 93, 94, 95, 96] (by decide +kernel) (by decide +kernel)
set_option maxRecDepth 20000 in
theorem gX9_stretch_X9_newPlate : GoodIn wsX9_stretch (wsV RX9 238 RX9 yX9_newPlate wsX9_newPlate) := goodIn_app (goodIn_of _ (by decide +kernel)) ggX9_stretch_X9_newPlate
set_option maxRecDepth 20000 in
theorem ggX9_stretch_X9_pass : GoodIn wsX9_stretch wsX9_pass := goodIn_r _ [22, 5, 23, 24, 25, 26, 27, 28, 29, 30, 31, 8, 32, 33, 34, 35, 36, 37, 38, 39, 40, 41, 50, 51, 52, 53, 54, 55, 56, 57, 58, 59, 60, 61, 62, 63, 64, 65, 66, 67, 68, 69, 70, 71, 72, 73, 74, 75, 76, 77, 78, 79, 80, 81, 82, 83, 84, 85, 86, 87, 88, 89, 90, 91, 92, 93, 94, 95, 96] (by decide +kernel) (by decide +kernel)
set_option maxRecDepth 20000 in
theorem gX9_stretch_X9_pass : GoodIn wsX9_stretch (wsV RX9 214 RX9 yX9_pass wsX9_pass) := goodIn_app (goodIn_of _ (by decide +kernel)) ggX9_stretch_X9_pass
set_option maxRecDepth 20000 in
theorem ggX9_stretch_X9_tailNow : GoodIn wsX9_stretch wsX9_tailNow := goodIn_r _ [45, 5, 50, 51, 52, 53, 54, 55, 56, 57, 58, 59, 60, 61, 62, 63, 64, 65, 66, 67, 68, 69, 70, 71, 72, 73, 74, 75, 76, 77, 78, 79, 80, 81, 82, 83, 84, 85, 86, 87, 88, 89, 90, 91, 92, 93, 94, 95, 96] (by decide +kernel) (by decide +kernel)
set_option maxRecDepth 20000 in
theorem gX9_stretch_X9_tailNow : GoodIn wsX9_stretch (wsV RX9 196 RX9 yX9_tailNow wsX9_tailNow) := goodIn_app (goodIn_of _ (by decide +kernel)) ggX9_stretch_X9_tailNow
set_option maxRecDepth 20000 in
theorem ggX9_stretch_X9_putBack : GoodIn wsX9_stretch wsX9_putBack := goodIn_r _ [49, 5, 14, 50, 51, 52, 53, 54, 55, 56, 57, 58, 59, 60, 61, 62, 63, 64, 65, 66, 67, 68, 69, 70, 71, 72, 73, 74, 75, 76, 77, 78, 79, 80, 81, 82, 83, 84, 85, 86, 87, 88, 89, 90, 91, 92, 93, 94, 95, 96] (by decide +kernel) (by decide +kernel)
set_option maxRecDepth 20000 in
theorem gX9_stretch_X9_putBack : GoodIn wsX9_stretch (wsV RX9 259 RX9 yX9_putBack wsX9_putBack) := goodIn_app (goodIn_of _ (by decide +kernel)) ggX9_stretch_X9_putBack
theorem dX9_stretch_0 : decode cX9_stretch 0 = .ok (.iload_n 1, 1) := by decide +kernel
theorem dX9_stretch_1 : decode cX9_stretch 1 = .ok (.i2l, 1) := by decide +kernel
theorem dX9_stretch_2 : decode cX9_stretch 2 = .ok (.lconst 0, 1) := by decide +kernel
theorem dX9_stretch_3 : decode cX9_stretch 3 = .ok (.ldc2_w 254, 3) := by decide +kernel
theorem dX9_stretch_6 : decode cX9_stretch 6 = .ok (.invokestatic 96, 3) := by decide +kernel
theorem dX9_stretch_9 : decode cX9_stretch 9 = .ok (.ifCond .ne 6, 3) := by decide +kernel
theorem dX9_stretch_12 : decode cX9_stretch 12 = .ok (.ldc 100, 2) := by decide +kernel
theorem dX9_stretch_14 : decode cX9_stretch 14 = .ok (.ireturn, 1) := by decide +kernel
theorem dX9_stretch_15 : decode cX9_stretch 15 = .ok (.aload_n 0, 1) := by decide +kernel
theorem dX9_stretch_16 : decode cX9_stretch 16 = .ok (.getfield 90, 3) := by decide +kernel
theorem dX9_stretch_19 : decode cX9_stretch 19 = .ok (.ifCond .ne 6, 3) := by decide +kernel
theorem dX9_stretch_22 : decode cX9_stretch 22 = .ok (.ldc 223, 2) := by decide +kernel
theorem dX9_stretch_24 : decode cX9_stretch 24 = .ok (.ireturn, 1) := by decide +kernel
theorem dX9_stretch_25 : decode cX9_stretch 25 = .ok (.aload_n 0, 1) := by decide +kernel
theorem dX9_stretch_26 : decode cX9_stretch 26 = .ok (.invokevirtual 256, 3) := by decide +kernel
theorem dX9_stretch_29 : decode cX9_stretch 29 = .ok (.aload_n 0, 1) := by decide +kernel
theorem dX9_stretch_30 : decode cX9_stretch 30 = .ok (.invokevirtual 238, 3) := by decide +kernel
theorem dX9_stretch_33 : decode cX9_stretch 33 = .ok (.iconst 0, 1) := by decide +kernel
theorem dX9_stretch_34 : decode cX9_stretch 34 = .ok (.istore_n 2, 1) := by decide +kernel
theorem dX9_stretch_35 : decode cX9_stretch 35 = .ok (.iconst 1, 1) := by decide +kernel
theorem dX9_stretch_36 : decode cX9_stretch 36 = .ok (.istore_n 3, 1) := by decide +kernel
theorem dX9_stretch_37 : decode cX9_stretch 37 = .ok (.iload_n 3, 1) := by decide +kernel
theorem dX9_stretch_38 : decode cX9_stretch 38 = .ok (.ifCond .eq 52, 3) := by decide +kernel
theorem dX9_stretch_41 : decode cX9_stretch 41 = .ok (.iload_n 2, 1) := by decide +kernel
theorem dX9_stretch_42 : decode cX9_stretch 42 = .ok (.sipush 999, 3) := by decide +kernel
theorem dX9_stretch_45 : decode cX9_stretch 45 = .ok (.if_icmp .ge 45, 3) := by decide +kernel
theorem dX9_stretch_48 : decode cX9_stretch 48 = .ok (.aload_n 0, 1) := by decide +kernel
theorem dX9_stretch_49 : decode cX9_stretch 49 = .ok (.invokevirtual 214, 3) := by decide +kernel
theorem dX9_stretch_52 : decode cX9_stretch 52 = .ok (.aload_n 0, 1) := by decide +kernel
theorem dX9_stretch_53 : decode cX9_stretch 53 = .ok (.getfield 29, 3) := by decide +kernel
theorem dX9_stretch_56 : decode cX9_stretch 56 = .ok (.iconst 5, 1) := by decide +kernel
theorem dX9_stretch_57 : decode cX9_stretch 57 = .ok (.iaload, 1) := by decide +kernel
theorem dX9_stretch_58 : decode cX9_stretch 58 = .ok (.ifCond .ne 15, 3) := by decide +kernel
theorem dX9_stretch_61 : decode cX9_stretch 61 = .ok (.aload_n 0, 1) := by decide +kernel
theorem dX9_stretch_62 : decode cX9_stretch 62 = .ok (.invokevirtual 196, 3) := by decide +kernel
theorem dX9_stretch_65 : decode cX9_stretch 65 = .ok (.iload_n 1, 1) := by decide +kernel
theorem dX9_stretch_66 : decode cX9_stretch 66 = .ok (.if_icmp .gt 7, 3) := by decide +kernel
theorem dX9_stretch_69 : decode cX9_stretch 69 = .ok (.iconst 1, 1) := by decide +kernel
theorem dX9_stretch_70 : decode cX9_stretch 70 = .ok (.goto 4, 3) := by decide +kernel
theorem dX9_stretch_73 : decode cX9_stretch 73 = .ok (.iconst 0, 1) := by decide +kernel
theorem dX9_stretch_74 : decode cX9_stretch 74 = .ok (.istore_n 3, 1) := by decide +kernel
theorem dX9_stretch_75 : decode cX9_stretch 75 = .ok (.iload_n 2, 1) := by decide +kernel
theorem dX9_stretch_76 : decode cX9_stretch 76 = .ok (.iload_n 3, 1) := by decide +kernel
theorem dX9_stretch_77 : decode cX9_stretch 77 = .ok (.ifCond .eq 7, 3) := by decide +kernel
theorem dX9_stretch_80 : decode cX9_stretch 80 = .ok (.iconst 1, 1) := by decide +kernel
theorem dX9_stretch_81 : decode cX9_stretch 81 = .ok (.goto 4, 3) := by decide +kernel
theorem dX9_stretch_84 : decode cX9_stretch 84 = .ok (.iconst 0, 1) := by decide +kernel
theorem dX9_stretch_85 : decode cX9_stretch 85 = .ok (.iadd, 1) := by decide +kernel
theorem dX9_stretch_86 : decode cX9_stretch 86 = .ok (.istore_n 2, 1) := by decide +kernel
theorem dX9_stretch_87 : decode cX9_stretch 87 = .ok (.goto (-50), 3) := by decide +kernel
theorem dX9_stretch_90 : decode cX9_stretch 90 = .ok (.aload_n 0, 1) := by decide +kernel
theorem dX9_stretch_91 : decode cX9_stretch 91 = .ok (.invokevirtual 259, 3) := by decide +kernel
theorem dX9_stretch_94 : decode cX9_stretch 94 = .ok (.iload_n 2, 1) := by decide +kernel
theorem dX9_stretch_95 : decode cX9_stretch 95 = .ok (.ireturn, 1) := by decide +kernel
set_option maxRecDepth 20000 in
theorem ggX9_tailBy_X9_newPlate : GoodIn wsX9_tailBy wsX9_newPlate := goodIn_r _ [7, 2, 51, 52, 53, 54, 55, 56, 57, 58, 59, 60, 61, 62, 63, 64, 65, 66, 67, 68, 69, 70, 71, 72, 73, 74, 75, 76, 77, 78, 79, 80, 81, 82, 83, 84, 85, 86, 87, 88, 89, 90, 91, 92, 93, 94, 95, 96, 97] (by decide +kernel) (by decide +kernel)
set_option maxRecDepth 20000 in
theorem gX9_tailBy_X9_newPlate : GoodIn wsX9_tailBy (wsV RX9 238 RX9 yX9_newPlate wsX9_newPlate) := goodIn_app (goodIn_of _ (by decide +kernel)) ggX9_tailBy_X9_newPlate
set_option maxRecDepth 20000 in
theorem ggX9_tailBy_X9_in : GoodIn wsX9_tailBy wsX9_in := goodIn_r _ [10] (by decide +kernel) (by decide +kernel)
set_option maxRecDepth 20000 in
theorem gX9_tailBy_X9_in : GoodIn wsX9_tailBy (va_wsS RX9 96 yX9_in wsX9_in) := goodIn_app (goodIn_of _ (by decide +kernel)) ggX9_tailBy_X9_in
set_option maxRecDepth 20000 in
theorem ggX9_tailBy_X9_pass : GoodIn wsX9_tailBy wsX9_pass := goodIn_r _ [14, 2, 15, 16, 17, 18, 19, 20, 21, 22, 23, 6, 24, 25, 26, 27, 28, 29, 30, 31, 32, 33, 51, 52, 53, 54, 55, 56, 57, 58, 59, 60, 61, 62, 63, 64, 65, 66, 67, 68, 69, 70, 71, 72, 73, 74, 75, 76, 77, 78, 79, 80, 81, 82, 83, 84, 85, 86, 87, 88, 89, 90, 91, 92, 93, 94, 95, 96, 97] (by decide +kernel) (by decide +kernel)
set_option maxRecDepth 20000 in
theorem gX9_tailBy_X9_pass : GoodIn wsX9_tailBy (wsV RX9 214 RX9 yX9_pass wsX9_pass) := goodIn_app (goodIn_of _ (by decide +kernel)) ggX9_tailBy_X9_pass
set_option maxRecDepth 20000 in
theorem ggX9_tailBy_X9_ruled : GoodIn wsX9_tailBy wsX9_ruled := goodIn_r _ [37, 2, 38, 39, 40, 6, 41, 15, 27, 28, 29, 11, 12, 13, 14, 16, 17, 18, 19, 20, 21, 22, 23, 24, 25, 26, 30, 31, 32, 33, 51, 52, 53, 54, 55, 56, 57, 58, 59, 60, 61, 62, 63, 64, 65, 66, 67, 68, 69, 70, 71, 72, 73, 74, 75, 76, 77, 78, 79, 80, 81, 82, 83, 84, 85, 86, 87, 88, 89, 90, 91, 92, 93, 94, 95, 96, 97] (by decide +kernel) (by decide +kernel)
set_option maxRecDepth 20000 in
theorem gX9_tailBy_X9_ruled : GoodIn wsX9_tailBy (wsV RX9 234 RX9 yX9_ruled wsX9_ruled) := goodIn_app (goodIn_of _ (by decide +kernel)) ggX9_tailBy_X9_ruled
set_option maxRecDepth 20000 in
theorem ggX9_tailBy_X9_tailNow : GoodIn wsX9_tailBy wsX9_tailNow := goodIn_r _ [45, 2, 51, 52, 53, 54, 55, 56, 57, 58, 59, 60, 61, 62, 63, 64, 65, 66, 67, 68, 69, 70, 71, 72, 73, 74, 75, 76, 77, 78, 79, 80, 81, 82, 83, 84, 85, 86, 87, 88, 89, 90, 91, 92, 93, 94, 95, 96, 97] (by decide +kernel) (by decide +kernel)
set_option maxRecDepth 20000 in
theorem gX9_tailBy_X9_tailNow : GoodIn wsX9_tailBy (wsV RX9 196 RX9 yX9_tailNow wsX9_tailNow) := goodIn_app (goodIn_of _ (by decide +kernel)) ggX9_tailBy_X9_tailNow
set_option maxRecDepth 20000 in
theorem ggX9_tailBy_X9_putBack : GoodIn wsX9_tailBy wsX9_putBack := goodIn_r _ [49, 2, 50, 51, 52, 53, 54, 55, 56, 57, 58, 59, 60, 61, 62, 63, 64, 65, 66, 67, 68, 69, 70, 71, 72, 73, 74, 75, 76, 77, 78, 79, 80, 81, 82, 83, 84, 85, 86, 87, 88, 89, 90, 91, 92, 93, 94, 95, 96, 97] (by decide +kernel) (by decide +kernel)
set_option maxRecDepth 20000 in
theorem gX9_tailBy_X9_putBack : GoodIn wsX9_tailBy (wsV RX9 259 RX9 yX9_putBack wsX9_putBack) := goodIn_app (goodIn_of _ (by decide +kernel)) ggX9_tailBy_X9_putBack
theorem dX9_tailBy_0 : decode cX9_tailBy 0 = .ok (.aload_n 0, 1) := by decide +kernel
theorem dX9_tailBy_1 : decode cX9_tailBy 1 = .ok (.invokevirtual 238, 3) := by decide +kernel
theorem dX9_tailBy_4 : decode cX9_tailBy 4 = .ok (.aload_n 0, 1) := by decide +kernel
theorem dX9_tailBy_5 : decode cX9_tailBy 5 = .ok (.iconst 0, 1) := by decide +kernel
theorem dX9_tailBy_6 : decode cX9_tailBy 6 = .ok (.putfield 262, 3) := by decide +kernel
theorem dX9_tailBy_9 : decode cX9_tailBy 9 = .ok (.iconst 0, 1) := by decide +kernel
theorem dX9_tailBy_10 : decode cX9_tailBy 10 = .ok (.istore 6, 2) := by decide +kernel
theorem dX9_tailBy_12 : decode cX9_tailBy 12 = .ok (.iload 6, 2) := by decide +kernel
theorem dX9_tailBy_14 : decode cX9_tailBy 14 = .ok (.iload_n 3, 1) := by decide +kernel
theorem dX9_tailBy_15 : decode cX9_tailBy 15 = .ok (.if_icmp .ge 68, 3) := by decide +kernel
theorem dX9_tailBy_18 : decode cX9_tailBy 18 = .ok (.aload_n 0, 1) := by decide +kernel
theorem dX9_tailBy_19 : decode cX9_tailBy 19 = .ok (.getfield 29, 3) := by decide +kernel
theorem dX9_tailBy_22 : decode cX9_tailBy 22 = .ok (.iconst 5, 1) := by decide +kernel
theorem dX9_tailBy_23 : decode cX9_tailBy 23 = .ok (.iaload, 1) := by decide +kernel
theorem dX9_tailBy_24 : decode cX9_tailBy 24 = .ok (.ifCond .ne 59, 3) := by decide +kernel
theorem dX9_tailBy_27 : decode cX9_tailBy 27 = .ok (.iload 6, 2) := by decide +kernel
theorem dX9_tailBy_29 : decode cX9_tailBy 29 = .ok (.i2l, 1) := by decide +kernel
theorem dX9_tailBy_30 : decode cX9_tailBy 30 = .ok (.iload 4, 2) := by decide +kernel
theorem dX9_tailBy_32 : decode cX9_tailBy 32 = .ok (.i2l, 1) := by decide +kernel
theorem dX9_tailBy_33 : decode cX9_tailBy 33 = .ok (.iload 4, 2) := by decide +kernel
theorem dX9_tailBy_35 : decode cX9_tailBy 35 = .ok (.iload 5, 2) := by decide +kernel
theorem dX9_tailBy_37 : decode cX9_tailBy 37 = .ok (.iadd, 1) := by decide +kernel
theorem dX9_tailBy_38 : decode cX9_tailBy 38 = .ok (.iconst 1, 1) := by decide +kernel
theorem dX9_tailBy_39 : decode cX9_tailBy 39 = .ok (.isub, 1) := by decide +kernel
theorem dX9_tailBy_40 : decode cX9_tailBy 40 = .ok (.i2l, 1) := by decide +kernel
theorem dX9_tailBy_41 : decode cX9_tailBy 41 = .ok (.invokestatic 96, 3) := by decide +kernel
theorem dX9_tailBy_44 : decode cX9_tailBy 44 = .ok (.ifCond .eq 10, 3) := by decide +kernel
theorem dX9_tailBy_47 : decode cX9_tailBy 47 = .ok (.aload_n 0, 1) := by decide +kernel
theorem dX9_tailBy_48 : decode cX9_tailBy 48 = .ok (.invokevirtual 214, 3) := by decide +kernel
theorem dX9_tailBy_51 : decode cX9_tailBy 51 = .ok (.goto 26, 3) := by decide +kernel
theorem dX9_tailBy_54 : decode cX9_tailBy 54 = .ok (.aload_n 0, 1) := by decide +kernel
theorem dX9_tailBy_55 : decode cX9_tailBy 55 = .ok (.dup, 1) := by decide +kernel
theorem dX9_tailBy_56 : decode cX9_tailBy 56 = .ok (.getfield 262, 3) := by decide +kernel
theorem dX9_tailBy_59 : decode cX9_tailBy 59 = .ok (.aload_n 0, 1) := by decide +kernel
theorem dX9_tailBy_60 : decode cX9_tailBy 60 = .ok (.iload_n 1, 1) := by decide +kernel
theorem dX9_tailBy_61 : decode cX9_tailBy 61 = .ok (.iload_n 2, 1) := by decide +kernel
theorem dX9_tailBy_62 : decode cX9_tailBy 62 = .ok (.invokevirtual 234, 3) := by decide +kernel
theorem dX9_tailBy_65 : decode cX9_tailBy 65 = .ok (.ifCond .eq 7, 3) := by decide +kernel
theorem dX9_tailBy_68 : decode cX9_tailBy 68 = .ok (.iconst 1, 1) := by decide +kernel
theorem dX9_tailBy_69 : decode cX9_tailBy 69 = .ok (.goto 4, 3) := by decide +kernel
theorem dX9_tailBy_72 : decode cX9_tailBy 72 = .ok (.iconst 0, 1) := by decide +kernel
theorem dX9_tailBy_73 : decode cX9_tailBy 73 = .ok (.iadd, 1) := by decide +kernel
theorem dX9_tailBy_74 : decode cX9_tailBy 74 = .ok (.putfield 262, 3) := by decide +kernel
theorem dX9_tailBy_77 : decode cX9_tailBy 77 = .ok (.iinc 6 1, 3) := by decide +kernel
theorem dX9_tailBy_80 : decode cX9_tailBy 80 = .ok (.goto (-68), 3) := by decide +kernel
theorem dX9_tailBy_83 : decode cX9_tailBy 83 = .ok (.aload_n 0, 1) := by decide +kernel
theorem dX9_tailBy_84 : decode cX9_tailBy 84 = .ok (.getfield 29, 3) := by decide +kernel
theorem dX9_tailBy_87 : decode cX9_tailBy 87 = .ok (.iconst 5, 1) := by decide +kernel
theorem dX9_tailBy_88 : decode cX9_tailBy 88 = .ok (.iaload, 1) := by decide +kernel
theorem dX9_tailBy_89 : decode cX9_tailBy 89 = .ok (.iconst 1, 1) := by decide +kernel
theorem dX9_tailBy_90 : decode cX9_tailBy 90 = .ok (.if_icmp .ne 9, 3) := by decide +kernel
theorem dX9_tailBy_93 : decode cX9_tailBy 93 = .ok (.sipush 9999, 3) := by decide +kernel
theorem dX9_tailBy_96 : decode cX9_tailBy 96 = .ok (.goto 7, 3) := by decide +kernel
theorem dX9_tailBy_99 : decode cX9_tailBy 99 = .ok (.aload_n 0, 1) := by decide +kernel
theorem dX9_tailBy_100 : decode cX9_tailBy 100 = .ok (.invokevirtual 196, 3) := by decide +kernel
theorem dX9_tailBy_103 : decode cX9_tailBy 103 = .ok (.istore 6, 2) := by decide +kernel
theorem dX9_tailBy_105 : decode cX9_tailBy 105 = .ok (.aload_n 0, 1) := by decide +kernel
theorem dX9_tailBy_106 : decode cX9_tailBy 106 = .ok (.invokevirtual 259, 3) := by decide +kernel
theorem dX9_tailBy_109 : decode cX9_tailBy 109 = .ok (.iload 6, 2) := by decide +kernel
theorem dX9_tailBy_111 : decode cX9_tailBy 111 = .ok (.ireturn, 1) := by decide +kernel
set_option maxRecDepth 20000 in
theorem ggX9_bestRule_X9_in : GoodIn wsX9_bestRule wsX9_in := goodIn_r _ [9] (by decide +kernel) (by decide +kernel)
set_option maxRecDepth 20000 in
theorem gX9_bestRule_X9_in : GoodIn wsX9_bestRule (va_wsS RX9 96 yX9_in wsX9_in) := goodIn_app (goodIn_of _ (by decide +kernel)) ggX9_bestRule_X9_in
set_option maxRecDepth 20000 in
theorem ggX9_bestRule_X9_save : GoodIn wsX9_bestRule wsX9_save := goodIn_r _ [13, 14, 15, 63, 64, 65, 66, 67, 68, 69, 70, 71, 72, 73, 74, 75, 76, 77, 78, 79, 80, 81, 82, 83, 84, 85, 86, 87, 88, 89, 90, 91, 92, 93, 94, 95, 96, 97, 98, 99, 100, 101, 102, 103, 104, 105, 106, 107, 108, 109] (by decide +kernel) (by decide +kernel)
set_option maxRecDepth 20000 in
theorem gX9_bestRule_X9_save : GoodIn wsX9_bestRule (wsV RX9 256 RX9 yX9_save wsX9_save) := goodIn_app (goodIn_of _ (by decide +kernel)) ggX9_bestRule_X9_save
set_option maxRecDepth 20000 in
theorem ggX9_bestRule_X9_tailBy : GoodIn wsX9_bestRule wsX9_tailBy := goodIn_r _ [19, 5, 15, 20, 21, 22, 8, 23, 6, 7, 9, 24, 25, 26, 27, 28, 29, 30, 31, 32, 33, 34, 35, 36, 37, 38, 39, 40, 41, 42, 43, 44, 45, 46, 47, 48, 49, 50, 51, 52, 53, 54, 55, 56, 57, 58, 59, 60, 61, 62, 14, 63, 64, 65, 66, 67, 68, 69, 70, 71, 72, 73, 74, 75, 76, 77, 78, 79, 80, 81, 82, 83, 84, 85, 86, 87, 88, 89, 90, 91, 92, 93, 94, 95, 96, 97, 98, 99, 100, 101, 102, 103, 104, 105, 106, 107, 108, 109] (by decide +kernel) (by decide +kernel)
set_option maxRecDepth 20000 in
theorem gX9_bestRule_X9_tailBy : GoodIn wsX9_bestRule (wsV RX9 267 RX9 yX9_tailBy wsX9_tailBy) := goodIn_app (goodIn_of _ (by decide +kernel)) ggX9_bestRule_X9_tailBy
theorem dX9_bestRule_0 : decode cX9_bestRule 0 = .ok (.iload_n 1, 1) := by decide +kernel
theorem dX9_bestRule_1 : decode cX9_bestRule 1 = .ok (.i2l, 1) := by decide +kernel
theorem dX9_bestRule_2 : decode cX9_bestRule 2 = .ok (.lconst 1, 1) := by decide +kernel
theorem dX9_bestRule_3 : decode cX9_bestRule 3 = .ok (.ldc2_w 265, 3) := by decide +kernel
theorem dX9_bestRule_6 : decode cX9_bestRule 6 = .ok (.invokestatic 96, 3) := by decide +kernel
theorem dX9_bestRule_9 : decode cX9_bestRule 9 = .ok (.ifCond .eq 13, 3) := by decide +kernel
theorem dX9_bestRule_12 : decode cX9_bestRule 12 = .ok (.iload_n 2, 1) := by decide +kernel
theorem dX9_bestRule_13 : decode cX9_bestRule 13 = .ok (.i2l, 1) := by decide +kernel
theorem dX9_bestRule_14 : decode cX9_bestRule 14 = .ok (.lconst 0, 1) := by decide +kernel
theorem dX9_bestRule_15 : decode cX9_bestRule 15 = .ok (.lconst 1, 1) := by decide +kernel
theorem dX9_bestRule_16 : decode cX9_bestRule 16 = .ok (.invokestatic 96, 3) := by decide +kernel
theorem dX9_bestRule_19 : decode cX9_bestRule 19 = .ok (.ifCond .ne 6, 3) := by decide +kernel
theorem dX9_bestRule_22 : decode cX9_bestRule 22 = .ok (.ldc 100, 2) := by decide +kernel
theorem dX9_bestRule_24 : decode cX9_bestRule 24 = .ok (.ireturn, 1) := by decide +kernel
theorem dX9_bestRule_25 : decode cX9_bestRule 25 = .ok (.aload_n 0, 1) := by decide +kernel
theorem dX9_bestRule_26 : decode cX9_bestRule 26 = .ok (.getfield 90, 3) := by decide +kernel
theorem dX9_bestRule_29 : decode cX9_bestRule 29 = .ok (.ifCond .ne 6, 3) := by decide +kernel
theorem dX9_bestRule_32 : decode cX9_bestRule 32 = .ok (.ldc 223, 2) := by decide +kernel
theorem dX9_bestRule_34 : decode cX9_bestRule 34 = .ok (.ireturn, 1) := by decide +kernel
theorem dX9_bestRule_35 : decode cX9_bestRule 35 = .ok (.aload_n 0, 1) := by decide +kernel
theorem dX9_bestRule_36 : decode cX9_bestRule 36 = .ok (.invokevirtual 256, 3) := by decide +kernel
theorem dX9_bestRule_39 : decode cX9_bestRule 39 = .ok (.iconst (-1), 1) := by decide +kernel
theorem dX9_bestRule_40 : decode cX9_bestRule 40 = .ok (.istore_n 3, 1) := by decide +kernel
theorem dX9_bestRule_41 : decode cX9_bestRule 41 = .ok (.iconst 0, 1) := by decide +kernel
theorem dX9_bestRule_42 : decode cX9_bestRule 42 = .ok (.istore 4, 2) := by decide +kernel
theorem dX9_bestRule_44 : decode cX9_bestRule 44 = .ok (.iconst 0, 1) := by decide +kernel
theorem dX9_bestRule_45 : decode cX9_bestRule 45 = .ok (.istore 5, 2) := by decide +kernel
theorem dX9_bestRule_47 : decode cX9_bestRule 47 = .ok (.iconst 0, 1) := by decide +kernel
theorem dX9_bestRule_48 : decode cX9_bestRule 48 = .ok (.istore 6, 2) := by decide +kernel
theorem dX9_bestRule_50 : decode cX9_bestRule 50 = .ok (.iload 6, 2) := by decide +kernel
theorem dX9_bestRule_52 : decode cX9_bestRule 52 = .ok (.bipush 10, 2) := by decide +kernel
theorem dX9_bestRule_54 : decode cX9_bestRule 54 = .ok (.if_icmp .ge 120, 3) := by decide +kernel
theorem dX9_bestRule_57 : decode cX9_bestRule 57 = .ok (.iconst 1, 1) := by decide +kernel
theorem dX9_bestRule_58 : decode cX9_bestRule 58 = .ok (.istore 7, 2) := by decide +kernel
theorem dX9_bestRule_60 : decode cX9_bestRule 60 = .ok (.iload 7, 2) := by decide +kernel
theorem dX9_bestRule_62 : decode cX9_bestRule 62 = .ok (.bipush 11, 2) := by decide +kernel
theorem dX9_bestRule_64 : decode cX9_bestRule 64 = .ok (.if_icmp .ge 104, 3) := by decide +kernel
theorem dX9_bestRule_67 : decode cX9_bestRule 67 = .ok (.aload_n 0, 1) := by decide +kernel
theorem dX9_bestRule_68 : decode cX9_bestRule 68 = .ok (.iload 6, 2) := by decide +kernel
theorem dX9_bestRule_70 : decode cX9_bestRule 70 = .ok (.iload 7, 2) := by decide +kernel
theorem dX9_bestRule_72 : decode cX9_bestRule 72 = .ok (.iload_n 1, 1) := by decide +kernel
theorem dX9_bestRule_73 : decode cX9_bestRule 73 = .ok (.iconst 0, 1) := by decide +kernel
theorem dX9_bestRule_74 : decode cX9_bestRule 74 = .ok (.iconst 0, 1) := by decide +kernel
theorem dX9_bestRule_75 : decode cX9_bestRule 75 = .ok (.invokevirtual 267, 3) := by decide +kernel
theorem dX9_bestRule_78 : decode cX9_bestRule 78 = .ok (.istore 8, 2) := by decide +kernel
theorem dX9_bestRule_80 : decode cX9_bestRule 80 = .ok (.iload_n 3, 1) := by decide +kernel
theorem dX9_bestRule_81 : decode cX9_bestRule 81 = .ok (.ifCond .lt 26, 3) := by decide +kernel
theorem dX9_bestRule_84 : decode cX9_bestRule 84 = .ok (.iload 8, 2) := by decide +kernel
theorem dX9_bestRule_86 : decode cX9_bestRule 86 = .ok (.iload 4, 2) := by decide +kernel
theorem dX9_bestRule_88 : decode cX9_bestRule 88 = .ok (.if_icmp .lt 19, 3) := by decide +kernel
theorem dX9_bestRule_91 : decode cX9_bestRule 91 = .ok (.iload 8, 2) := by decide +kernel
theorem dX9_bestRule_93 : decode cX9_bestRule 93 = .ok (.iload 4, 2) := by decide +kernel
theorem dX9_bestRule_95 : decode cX9_bestRule 95 = .ok (.if_icmp .ne 16, 3) := by decide +kernel
theorem dX9_bestRule_98 : decode cX9_bestRule 98 = .ok (.aload_n 0, 1) := by decide +kernel
theorem dX9_bestRule_99 : decode cX9_bestRule 99 = .ok (.getfield 262, 3) := by decide +kernel
theorem dX9_bestRule_102 : decode cX9_bestRule 102 = .ok (.iload 5, 2) := by decide +kernel
theorem dX9_bestRule_104 : decode cX9_bestRule 104 = .ok (.if_icmp .ge 7, 3) := by decide +kernel
theorem dX9_bestRule_107 : decode cX9_bestRule 107 = .ok (.iconst 1, 1) := by decide +kernel
theorem dX9_bestRule_108 : decode cX9_bestRule 108 = .ok (.goto 4, 3) := by decide +kernel
theorem dX9_bestRule_111 : decode cX9_bestRule 111 = .ok (.iconst 0, 1) := by decide +kernel
theorem dX9_bestRule_112 : decode cX9_bestRule 112 = .ok (.istore 9, 2) := by decide +kernel
theorem dX9_bestRule_114 : decode cX9_bestRule 114 = .ok (.iload 9, 2) := by decide +kernel
theorem dX9_bestRule_116 : decode cX9_bestRule 116 = .ok (.ifCond .eq 14, 3) := by decide +kernel
theorem dX9_bestRule_119 : decode cX9_bestRule 119 = .ok (.bipush 100, 2) := by decide +kernel
theorem dX9_bestRule_121 : decode cX9_bestRule 121 = .ok (.iload 6, 2) := by decide +kernel
theorem dX9_bestRule_123 : decode cX9_bestRule 123 = .ok (.imul, 1) := by decide +kernel
theorem dX9_bestRule_124 : decode cX9_bestRule 124 = .ok (.iload 7, 2) := by decide +kernel
theorem dX9_bestRule_126 : decode cX9_bestRule 126 = .ok (.iadd, 1) := by decide +kernel
theorem dX9_bestRule_127 : decode cX9_bestRule 127 = .ok (.goto 4, 3) := by decide +kernel
theorem dX9_bestRule_130 : decode cX9_bestRule 130 = .ok (.iload_n 3, 1) := by decide +kernel
theorem dX9_bestRule_131 : decode cX9_bestRule 131 = .ok (.istore_n 3, 1) := by decide +kernel
theorem dX9_bestRule_132 : decode cX9_bestRule 132 = .ok (.iload 9, 2) := by decide +kernel
theorem dX9_bestRule_134 : decode cX9_bestRule 134 = .ok (.ifCond .eq 8, 3) := by decide +kernel
theorem dX9_bestRule_137 : decode cX9_bestRule 137 = .ok (.iload 8, 2) := by decide +kernel
theorem dX9_bestRule_139 : decode cX9_bestRule 139 = .ok (.goto 5, 3) := by decide +kernel
theorem dX9_bestRule_142 : decode cX9_bestRule 142 = .ok (.iload 4, 2) := by decide +kernel
theorem dX9_bestRule_144 : decode cX9_bestRule 144 = .ok (.istore 4, 2) := by decide +kernel
theorem dX9_bestRule_146 : decode cX9_bestRule 146 = .ok (.iload 9, 2) := by decide +kernel
theorem dX9_bestRule_148 : decode cX9_bestRule 148 = .ok (.ifCond .eq 10, 3) := by decide +kernel
theorem dX9_bestRule_151 : decode cX9_bestRule 151 = .ok (.aload_n 0, 1) := by decide +kernel
theorem dX9_bestRule_152 : decode cX9_bestRule 152 = .ok (.getfield 262, 3) := by decide +kernel
theorem dX9_bestRule_155 : decode cX9_bestRule 155 = .ok (.goto 5, 3) := by decide +kernel
theorem dX9_bestRule_158 : decode cX9_bestRule 158 = .ok (.iload 5, 2) := by decide +kernel
theorem dX9_bestRule_160 : decode cX9_bestRule 160 = .ok (.istore 5, 2) := by decide +kernel
theorem dX9_bestRule_162 : decode cX9_bestRule 162 = .ok (.iinc 7 1, 3) := by decide +kernel
theorem dX9_bestRule_165 : decode cX9_bestRule 165 = .ok (.goto (-105), 3) := by decide +kernel
theorem dX9_bestRule_168 : decode cX9_bestRule 168 = .ok (.iinc 6 1, 3) := by decide +kernel
theorem dX9_bestRule_171 : decode cX9_bestRule 171 = .ok (.goto (-121), 3) := by decide +kernel
theorem dX9_bestRule_174 : decode cX9_bestRule 174 = .ok (.iload_n 2, 1) := by decide +kernel
theorem dX9_bestRule_175 : decode cX9_bestRule 175 = .ok (.ifCond .ne 7, 3) := by decide +kernel
theorem dX9_bestRule_178 : decode cX9_bestRule 178 = .ok (.iload_n 3, 1) := by decide +kernel
theorem dX9_bestRule_179 : decode cX9_bestRule 179 = .ok (.goto 5, 3) := by decide +kernel
theorem dX9_bestRule_182 : decode cX9_bestRule 182 = .ok (.iload 4, 2) := by decide +kernel
theorem dX9_bestRule_184 : decode cX9_bestRule 184 = .ok (.ireturn, 1) := by decide +kernel
set_option maxRecDepth 20000 in
theorem ggX9_nodded_X9_in : GoodIn wsX9_nodded wsX9_in := goodIn_r _ [11] (by decide +kernel) (by decide +kernel)
set_option maxRecDepth 20000 in
theorem gX9_nodded_X9_in : GoodIn wsX9_nodded (va_wsS RX9 96 yX9_in wsX9_in) := goodIn_app (goodIn_of _ (by decide +kernel)) ggX9_nodded_X9_in
set_option maxRecDepth 20000 in
theorem ggX9_nodded_X9_save : GoodIn wsX9_nodded wsX9_save := goodIn_r _ [15, 16, 17, 66, 67, 68, 69, 70, 71, 72, 73, 74, 75, 76, 77, 78, 79, 80, 81, 82, 83, 84, 85, 86, 87, 88, 89, 90, 91, 92, 93, 94, 95, 96, 97, 98, 99, 100, 101, 102, 103, 104, 105, 106, 107, 108, 109, 110, 111, 112] (by decide +kernel) (by decide +kernel)
set_option maxRecDepth 20000 in
theorem gX9_nodded_X9_save : GoodIn wsX9_nodded (wsV RX9 256 RX9 yX9_save wsX9_save) := goodIn_app (goodIn_of _ (by decide +kernel)) ggX9_nodded_X9_save
set_option maxRecDepth 20000 in
theorem ggX9_nodded_X9_tailBy : GoodIn wsX9_nodded wsX9_tailBy := goodIn_r _ [21, 22, 17, 23, 24, 25, 10, 26, 8, 9, 11, 27, 28, 29, 30, 31, 32, 33, 34, 35, 36, 37, 38, 39, 40, 41, 42, 43, 44, 45, 46, 47, 48, 49, 50, 51, 52, 53, 54, 55, 56, 57, 58, 59, 60, 61, 62, 63, 64, 65, 16, 66, 67, 68, 69, 70, 71, 72, 73, 74, 75, 76, 77, 78, 79, 80, 81, 82, 83, 84, 85, 86, 87, 88, 89, 90, 91, 92, 93, 94, 95, 96, 97, 98, 99, 100, 101, 102, 103, 104, 105, 106, 107, 108, 109, 110, 111, 112] (by decide +kernel) (by decide +kernel)
set_option maxRecDepth 20000 in
theorem gX9_nodded_X9_tailBy : GoodIn wsX9_nodded (wsV RX9 267 RX9 yX9_tailBy wsX9_tailBy) := goodIn_app (goodIn_of _ (by decide +kernel)) ggX9_nodded_X9_tailBy
theorem dX9_nodded_0 : decode cX9_nodded 0 = .ok (.iload_n 1, 1) := by decide +kernel
theorem dX9_nodded_1 : decode cX9_nodded 1 = .ok (.i2l, 1) := by decide +kernel
theorem dX9_nodded_2 : decode cX9_nodded 2 = .ok (.lconst 0, 1) := by decide +kernel
theorem dX9_nodded_3 : decode cX9_nodded 3 = .ok (.ldc2_w 217, 3) := by decide +kernel
theorem dX9_nodded_6 : decode cX9_nodded 6 = .ok (.invokestatic 96, 3) := by decide +kernel
theorem dX9_nodded_9 : decode cX9_nodded 9 = .ok (.ifCond .eq 53, 3) := by decide +kernel
theorem dX9_nodded_12 : decode cX9_nodded 12 = .ok (.iload_n 2, 1) := by decide +kernel
theorem dX9_nodded_13 : decode cX9_nodded 13 = .ok (.i2l, 1) := by decide +kernel
theorem dX9_nodded_14 : decode cX9_nodded 14 = .ok (.lconst 0, 1) := by decide +kernel
theorem dX9_nodded_15 : decode cX9_nodded 15 = .ok (.ldc2_w 232, 3) := by decide +kernel
theorem dX9_nodded_18 : decode cX9_nodded 18 = .ok (.invokestatic 96, 3) := by decide +kernel
theorem dX9_nodded_21 : decode cX9_nodded 21 = .ok (.ifCond .eq 41, 3) := by decide +kernel
theorem dX9_nodded_24 : decode cX9_nodded 24 = .ok (.iload_n 3, 1) := by decide +kernel
theorem dX9_nodded_25 : decode cX9_nodded 25 = .ok (.i2l, 1) := by decide +kernel
theorem dX9_nodded_26 : decode cX9_nodded 26 = .ok (.lconst 1, 1) := by decide +kernel
theorem dX9_nodded_27 : decode cX9_nodded 27 = .ok (.ldc2_w 270, 3) := by decide +kernel
theorem dX9_nodded_30 : decode cX9_nodded 30 = .ok (.invokestatic 96, 3) := by decide +kernel
theorem dX9_nodded_33 : decode cX9_nodded 33 = .ok (.ifCond .eq 29, 3) := by decide +kernel
theorem dX9_nodded_36 : decode cX9_nodded 36 = .ok (.iload 4, 2) := by decide +kernel
theorem dX9_nodded_38 : decode cX9_nodded 38 = .ok (.i2l, 1) := by decide +kernel
theorem dX9_nodded_39 : decode cX9_nodded 39 = .ok (.lconst 1, 1) := by decide +kernel
theorem dX9_nodded_40 : decode cX9_nodded 40 = .ok (.ldc2_w 232, 3) := by decide +kernel
theorem dX9_nodded_43 : decode cX9_nodded 43 = .ok (.invokestatic 96, 3) := by decide +kernel
theorem dX9_nodded_46 : decode cX9_nodded 46 = .ok (.ifCond .eq 16, 3) := by decide +kernel
theorem dX9_nodded_49 : decode cX9_nodded 49 = .ok (.iload 5, 2) := by decide +kernel
theorem dX9_nodded_51 : decode cX9_nodded 51 = .ok (.i2l, 1) := by decide +kernel
theorem dX9_nodded_52 : decode cX9_nodded 52 = .ok (.lconst 0, 1) := by decide +kernel
theorem dX9_nodded_53 : decode cX9_nodded 53 = .ok (.ldc2_w 272, 3) := by decide +kernel
theorem dX9_nodded_56 : decode cX9_nodded 56 = .ok (.invokestatic 96, 3) := by decide +kernel
theorem dX9_nodded_59 : decode cX9_nodded 59 = .ok (.ifCond .ne 6, 3) := by decide +kernel
theorem dX9_nodded_62 : decode cX9_nodded 62 = .ok (.ldc 100, 2) := by decide +kernel
theorem dX9_nodded_64 : decode cX9_nodded 64 = .ok (.ireturn, 1) := by decide +kernel
theorem dX9_nodded_65 : decode cX9_nodded 65 = .ok (.aload_n 0, 1) := by decide +kernel
theorem dX9_nodded_66 : decode cX9_nodded 66 = .ok (.getfield 90, 3) := by decide +kernel
theorem dX9_nodded_69 : decode cX9_nodded 69 = .ok (.ifCond .ne 6, 3) := by decide +kernel
theorem dX9_nodded_72 : decode cX9_nodded 72 = .ok (.ldc 223, 2) := by decide +kernel
theorem dX9_nodded_74 : decode cX9_nodded 74 = .ok (.ireturn, 1) := by decide +kernel
theorem dX9_nodded_75 : decode cX9_nodded 75 = .ok (.aload_n 0, 1) := by decide +kernel
theorem dX9_nodded_76 : decode cX9_nodded 76 = .ok (.invokevirtual 256, 3) := by decide +kernel
theorem dX9_nodded_79 : decode cX9_nodded 79 = .ok (.iconst 0, 1) := by decide +kernel
theorem dX9_nodded_80 : decode cX9_nodded 80 = .ok (.istore 7, 2) := by decide +kernel
theorem dX9_nodded_82 : decode cX9_nodded 82 = .ok (.iconst (-1), 1) := by decide +kernel
theorem dX9_nodded_83 : decode cX9_nodded 83 = .ok (.istore 8, 2) := by decide +kernel
theorem dX9_nodded_85 : decode cX9_nodded 85 = .ok (.iconst 0, 1) := by decide +kernel
theorem dX9_nodded_86 : decode cX9_nodded 86 = .ok (.istore 9, 2) := by decide +kernel
theorem dX9_nodded_88 : decode cX9_nodded 88 = .ok (.iload 9, 2) := by decide +kernel
theorem dX9_nodded_90 : decode cX9_nodded 90 = .ok (.iload_n 3, 1) := by decide +kernel
theorem dX9_nodded_91 : decode cX9_nodded 91 = .ok (.iload 4, 2) := by decide +kernel
theorem dX9_nodded_93 : decode cX9_nodded 93 = .ok (.isub, 1) := by decide +kernel
theorem dX9_nodded_94 : decode cX9_nodded 94 = .ok (.if_icmp .gt 44, 3) := by decide +kernel
theorem dX9_nodded_97 : decode cX9_nodded 97 = .ok (.aload_n 0, 1) := by decide +kernel
theorem dX9_nodded_98 : decode cX9_nodded 98 = .ok (.iload_n 1, 1) := by decide +kernel
theorem dX9_nodded_99 : decode cX9_nodded 99 = .ok (.iload_n 2, 1) := by decide +kernel
theorem dX9_nodded_100 : decode cX9_nodded 100 = .ok (.iload_n 3, 1) := by decide +kernel
theorem dX9_nodded_101 : decode cX9_nodded 101 = .ok (.iload 9, 2) := by decide +kernel
theorem dX9_nodded_103 : decode cX9_nodded 103 = .ok (.iload 4, 2) := by decide +kernel
theorem dX9_nodded_105 : decode cX9_nodded 105 = .ok (.invokevirtual 267, 3) := by decide +kernel
theorem dX9_nodded_108 : decode cX9_nodded 108 = .ok (.iload 5, 2) := by decide +kernel
theorem dX9_nodded_110 : decode cX9_nodded 110 = .ok (.if_icmp .ne 22, 3) := by decide +kernel
theorem dX9_nodded_113 : decode cX9_nodded 113 = .ok (.iload 7, 2) := by decide +kernel
theorem dX9_nodded_115 : decode cX9_nodded 115 = .ok (.iload 6, 2) := by decide +kernel
theorem dX9_nodded_117 : decode cX9_nodded 117 = .ok (.if_icmp .ne 8, 3) := by decide +kernel
theorem dX9_nodded_120 : decode cX9_nodded 120 = .ok (.iload 9, 2) := by decide +kernel
theorem dX9_nodded_122 : decode cX9_nodded 122 = .ok (.goto 5, 3) := by decide +kernel
theorem dX9_nodded_125 : decode cX9_nodded 125 = .ok (.iload 8, 2) := by decide +kernel
theorem dX9_nodded_127 : decode cX9_nodded 127 = .ok (.istore 8, 2) := by decide +kernel
theorem dX9_nodded_129 : decode cX9_nodded 129 = .ok (.iinc 7 1, 3) := by decide +kernel
theorem dX9_nodded_132 : decode cX9_nodded 132 = .ok (.iinc 9 1, 3) := by decide +kernel
theorem dX9_nodded_135 : decode cX9_nodded 135 = .ok (.goto (-47), 3) := by decide +kernel
theorem dX9_nodded_138 : decode cX9_nodded 138 = .ok (.iload 6, 2) := by decide +kernel
theorem dX9_nodded_140 : decode cX9_nodded 140 = .ok (.iconst (-1), 1) := by decide +kernel
theorem dX9_nodded_141 : decode cX9_nodded 141 = .ok (.if_icmp .ne 8, 3) := by decide +kernel
theorem dX9_nodded_144 : decode cX9_nodded 144 = .ok (.iload 7, 2) := by decide +kernel
theorem dX9_nodded_146 : decode cX9_nodded 146 = .ok (.goto 5, 3) := by decide +kernel
theorem dX9_nodded_149 : decode cX9_nodded 149 = .ok (.iload 8, 2) := by decide +kernel
theorem dX9_nodded_151 : decode cX9_nodded 151 = .ok (.ireturn, 1) := by decide +kernel
set_option maxRecDepth 20000 in
theorem ggX9_guide_X9_in : GoodIn wsX9_guide wsX9_in := goodIn_r _ [9] (by decide +kernel) (by decide +kernel)
set_option maxRecDepth 20000 in
theorem gX9_guide_X9_in : GoodIn wsX9_guide (va_wsS RX9 96 yX9_in wsX9_in) := goodIn_app (goodIn_of _ (by decide +kernel)) ggX9_guide_X9_in
theorem dX9_guide_0 : decode cX9_guide 0 = .ok (.iload_n 1, 1) := by decide +kernel
theorem dX9_guide_1 : decode cX9_guide 1 = .ok (.i2l, 1) := by decide +kernel
theorem dX9_guide_2 : decode cX9_guide 2 = .ok (.lconst 1, 1) := by decide +kernel
theorem dX9_guide_3 : decode cX9_guide 3 = .ok (.ldc2_w 274, 3) := by decide +kernel
theorem dX9_guide_6 : decode cX9_guide 6 = .ok (.invokestatic 96, 3) := by decide +kernel
theorem dX9_guide_9 : decode cX9_guide 9 = .ok (.ifCond .ne 6, 3) := by decide +kernel
theorem dX9_guide_12 : decode cX9_guide 12 = .ok (.ldc 100, 2) := by decide +kernel
theorem dX9_guide_14 : decode cX9_guide 14 = .ok (.ireturn, 1) := by decide +kernel
theorem dX9_guide_15 : decode cX9_guide 15 = .ok (.iconst (-1), 1) := by decide +kernel
theorem dX9_guide_16 : decode cX9_guide 16 = .ok (.istore_n 2, 1) := by decide +kernel
theorem dX9_guide_17 : decode cX9_guide 17 = .ok (.iconst 0, 1) := by decide +kernel
theorem dX9_guide_18 : decode cX9_guide 18 = .ok (.istore_n 3, 1) := by decide +kernel
theorem dX9_guide_19 : decode cX9_guide 19 = .ok (.iload_n 3, 1) := by decide +kernel
theorem dX9_guide_20 : decode cX9_guide 20 = .ok (.aload_n 0, 1) := by decide +kernel
theorem dX9_guide_21 : decode cX9_guide 21 = .ok (.getfield 175, 3) := by decide +kernel
theorem dX9_guide_24 : decode cX9_guide 24 = .ok (.if_icmp .ge 86, 3) := by decide +kernel
theorem dX9_guide_27 : decode cX9_guide 27 = .ok (.iload_n 2, 1) := by decide +kernel
theorem dX9_guide_28 : decode cX9_guide 28 = .ok (.ifCond .lt 48, 3) := by decide +kernel
theorem dX9_guide_31 : decode cX9_guide 31 = .ok (.aload_n 0, 1) := by decide +kernel
theorem dX9_guide_32 : decode cX9_guide 32 = .ok (.getfield 23, 3) := by decide +kernel
theorem dX9_guide_35 : decode cX9_guide 35 = .ok (.iload_n 3, 1) := by decide +kernel
theorem dX9_guide_36 : decode cX9_guide 36 = .ok (.iaload, 1) := by decide +kernel
theorem dX9_guide_37 : decode cX9_guide 37 = .ok (.aload_n 0, 1) := by decide +kernel
theorem dX9_guide_38 : decode cX9_guide 38 = .ok (.getfield 23, 3) := by decide +kernel
theorem dX9_guide_41 : decode cX9_guide 41 = .ok (.iload_n 2, 1) := by decide +kernel
theorem dX9_guide_42 : decode cX9_guide 42 = .ok (.iaload, 1) := by decide +kernel
theorem dX9_guide_43 : decode cX9_guide 43 = .ok (.if_icmp .lt 33, 3) := by decide +kernel
theorem dX9_guide_46 : decode cX9_guide 46 = .ok (.aload_n 0, 1) := by decide +kernel
theorem dX9_guide_47 : decode cX9_guide 47 = .ok (.getfield 23, 3) := by decide +kernel
theorem dX9_guide_50 : decode cX9_guide 50 = .ok (.iload_n 3, 1) := by decide +kernel
theorem dX9_guide_51 : decode cX9_guide 51 = .ok (.iaload, 1) := by decide +kernel
theorem dX9_guide_52 : decode cX9_guide 52 = .ok (.aload_n 0, 1) := by decide +kernel
theorem dX9_guide_53 : decode cX9_guide 53 = .ok (.getfield 23, 3) := by decide +kernel
theorem dX9_guide_56 : decode cX9_guide 56 = .ok (.iload_n 2, 1) := by decide +kernel
theorem dX9_guide_57 : decode cX9_guide 57 = .ok (.iaload, 1) := by decide +kernel
theorem dX9_guide_58 : decode cX9_guide 58 = .ok (.if_icmp .ne 22, 3) := by decide +kernel
theorem dX9_guide_61 : decode cX9_guide 61 = .ok (.aload_n 0, 1) := by decide +kernel
theorem dX9_guide_62 : decode cX9_guide 62 = .ok (.getfield 26, 3) := by decide +kernel
theorem dX9_guide_65 : decode cX9_guide 65 = .ok (.iload_n 3, 1) := by decide +kernel
theorem dX9_guide_66 : decode cX9_guide 66 = .ok (.iaload, 1) := by decide +kernel
theorem dX9_guide_67 : decode cX9_guide 67 = .ok (.aload_n 0, 1) := by decide +kernel
theorem dX9_guide_68 : decode cX9_guide 68 = .ok (.getfield 26, 3) := by decide +kernel
theorem dX9_guide_71 : decode cX9_guide 71 = .ok (.iload_n 2, 1) := by decide +kernel
theorem dX9_guide_72 : decode cX9_guide 72 = .ok (.iaload, 1) := by decide +kernel
theorem dX9_guide_73 : decode cX9_guide 73 = .ok (.if_icmp .le 7, 3) := by decide +kernel
theorem dX9_guide_76 : decode cX9_guide 76 = .ok (.iconst 1, 1) := by decide +kernel
theorem dX9_guide_77 : decode cX9_guide 77 = .ok (.goto 4, 3) := by decide +kernel
theorem dX9_guide_80 : decode cX9_guide 80 = .ok (.iconst 0, 1) := by decide +kernel
theorem dX9_guide_81 : decode cX9_guide 81 = .ok (.istore 4, 2) := by decide +kernel
theorem dX9_guide_83 : decode cX9_guide 83 = .ok (.aload_n 0, 1) := by decide +kernel
theorem dX9_guide_84 : decode cX9_guide 84 = .ok (.getfield 26, 3) := by decide +kernel
theorem dX9_guide_87 : decode cX9_guide 87 = .ok (.iload_n 3, 1) := by decide +kernel
theorem dX9_guide_88 : decode cX9_guide 88 = .ok (.iaload, 1) := by decide +kernel
theorem dX9_guide_89 : decode cX9_guide 89 = .ok (.iload_n 1, 1) := by decide +kernel
theorem dX9_guide_90 : decode cX9_guide 90 = .ok (.if_icmp .lt 12, 3) := by decide +kernel
theorem dX9_guide_93 : decode cX9_guide 93 = .ok (.iload 4, 2) := by decide +kernel
theorem dX9_guide_95 : decode cX9_guide 95 = .ok (.ifCond .eq 7, 3) := by decide +kernel
theorem dX9_guide_98 : decode cX9_guide 98 = .ok (.iload_n 3, 1) := by decide +kernel
theorem dX9_guide_99 : decode cX9_guide 99 = .ok (.goto 4, 3) := by decide +kernel
theorem dX9_guide_102 : decode cX9_guide 102 = .ok (.iload_n 2, 1) := by decide +kernel
theorem dX9_guide_103 : decode cX9_guide 103 = .ok (.istore_n 2, 1) := by decide +kernel
theorem dX9_guide_104 : decode cX9_guide 104 = .ok (.iinc 3 1, 3) := by decide +kernel
theorem dX9_guide_107 : decode cX9_guide 107 = .ok (.goto (-88), 3) := by decide +kernel
theorem dX9_guide_110 : decode cX9_guide 110 = .ok (.iload_n 2, 1) := by decide +kernel
theorem dX9_guide_111 : decode cX9_guide 111 = .ok (.ireturn, 1) := by decide +kernel
set_option maxRecDepth 20000 in
theorem ggX9_turns_X9_in : GoodIn wsX9_turns wsX9_in := goodIn_r _ [10] (by decide +kernel) (by decide +kernel)
set_option maxRecDepth 20000 in
theorem gX9_turns_X9_in : GoodIn wsX9_turns (va_wsS RX9 96 yX9_in wsX9_in) := goodIn_app (goodIn_of _ (by decide +kernel)) ggX9_turns_X9_in
set_option maxRecDepth 20000 in
theorem ggX9_turns_X9_size : GoodIn wsX9_turns wsX9_size := goodIn_r _ [13] (by decide +kernel) (by decide +kernel)
set_option maxRecDepth 20000 in
theorem gX9_turns_X9_size : GoodIn wsX9_turns (va_wsS RX9 204 yX9_size wsX9_size) := goodIn_app (goodIn_of _ (by decide +kernel)) ggX9_turns_X9_size
theorem dX9_turns_0 : decode cX9_turns 0 = .ok (.iload_n 1, 1) := by decide +kernel
theorem dX9_turns_1 : decode cX9_turns 1 = .ok (.i2l, 1) := by decide +kernel
theorem dX9_turns_2 : decode cX9_turns 2 = .ok (.lconst 0, 1) := by decide +kernel
theorem dX9_turns_3 : decode cX9_turns 3 = .ok (.ldc2_w 217, 3) := by decide +kernel
theorem dX9_turns_6 : decode cX9_turns 6 = .ok (.invokestatic 96, 3) := by decide +kernel
theorem dX9_turns_9 : decode cX9_turns 9 = .ok (.ifCond .eq 15, 3) := by decide +kernel
theorem dX9_turns_12 : decode cX9_turns 12 = .ok (.iload_n 2, 1) := by decide +kernel
theorem dX9_turns_13 : decode cX9_turns 13 = .ok (.i2l, 1) := by decide +kernel
theorem dX9_turns_14 : decode cX9_turns 14 = .ok (.lconst 0, 1) := by decide +kernel
theorem dX9_turns_15 : decode cX9_turns 15 = .ok (.ldc2_w 254, 3) := by decide +kernel
theorem dX9_turns_18 : decode cX9_turns 18 = .ok (.invokestatic 96, 3) := by decide +kernel
theorem dX9_turns_21 : decode cX9_turns 21 = .ok (.ifCond .ne 6, 3) := by decide +kernel
theorem dX9_turns_24 : decode cX9_turns 24 = .ok (.ldc 100, 2) := by decide +kernel
theorem dX9_turns_26 : decode cX9_turns 26 = .ok (.ireturn, 1) := by decide +kernel
theorem dX9_turns_27 : decode cX9_turns 27 = .ok (.aload_n 0, 1) := by decide +kernel
theorem dX9_turns_28 : decode cX9_turns 28 = .ok (.getfield 90, 3) := by decide +kernel
theorem dX9_turns_31 : decode cX9_turns 31 = .ok (.ifCond .eq 20, 3) := by decide +kernel
theorem dX9_turns_34 : decode cX9_turns 34 = .ok (.iload_n 1, 1) := by decide +kernel
theorem dX9_turns_35 : decode cX9_turns 35 = .ok (.aload_n 0, 1) := by decide +kernel
theorem dX9_turns_36 : decode cX9_turns 36 = .ok (.getfield 166, 3) := by decide +kernel
theorem dX9_turns_39 : decode cX9_turns 39 = .ok (.invokestatic 204, 3) := by decide +kernel
theorem dX9_turns_42 : decode cX9_turns 42 = .ok (.imul, 1) := by decide +kernel
theorem dX9_turns_43 : decode cX9_turns 43 = .ok (.iload_n 2, 1) := by decide +kernel
theorem dX9_turns_44 : decode cX9_turns 44 = .ok (.imul, 1) := by decide +kernel
theorem dX9_turns_45 : decode cX9_turns 45 = .ok (.bipush 100, 2) := by decide +kernel
theorem dX9_turns_47 : decode cX9_turns 47 = .ok (.idiv, 1) := by decide +kernel
theorem dX9_turns_48 : decode cX9_turns 48 = .ok (.goto 5, 3) := by decide +kernel
theorem dX9_turns_51 : decode cX9_turns 51 = .ok (.ldc 223, 2) := by decide +kernel
theorem dX9_turns_53 : decode cX9_turns 53 = .ok (.ireturn, 1) := by decide +kernel
set_option maxRecDepth 20000 in
theorem ggX9_stop_X9_in : GoodIn wsX9_stop wsX9_in := goodIn_r _ [8] (by decide +kernel) (by decide +kernel)
set_option maxRecDepth 20000 in
theorem gX9_stop_X9_in : GoodIn wsX9_stop (va_wsS RX9 96 yX9_in wsX9_in) := goodIn_app (goodIn_of _ (by decide +kernel)) ggX9_stop_X9_in
set_option maxRecDepth 20000 in
theorem ggX9_stop_X9_isReady : GoodIn wsX9_stop wsX9_isReady := goodIn_r _ [12, 13, 4, 46, 47, 48, 49, 50, 51, 52, 53, 54, 55, 56, 57, 58, 59, 60, 61, 62, 63, 64, 65, 66, 67, 68, 69, 70, 71, 72, 73, 74, 75, 76, 77, 78, 79, 80, 81, 82, 83, 84, 85, 86, 87, 88, 89, 90, 91, 92] (by decide +kernel) (by decide +kernel)
set_option maxRecDepth 20000 in
theorem gX9_stop_X9_isReady : GoodIn wsX9_stop (wsV RX9 219 RX9 yX9_isReady wsX9_isReady) := goodIn_app (goodIn_of _ (by decide +kernel)) ggX9_stop_X9_isReady
set_option maxRecDepth 20000 in
theorem ggX9_stop_X9_save : GoodIn wsX9_stop wsX9_save := goodIn_r _ [17, 18, 4, 46, 47, 48, 49, 50, 51, 52, 53, 54, 55, 56, 57, 58, 59, 60, 61, 62, 63, 64, 65, 66, 67, 68, 69, 70, 71, 72, 73, 74, 75, 76, 77, 78, 79, 80, 81, 82, 83, 84, 85, 86, 87, 88, 89, 90, 91, 92] (by decide +kernel) (by decide +kernel)
set_option maxRecDepth 20000 in
theorem gX9_stop_X9_save : GoodIn wsX9_stop (wsV RX9 256 RX9 yX9_save wsX9_save) := goodIn_app (goodIn_of _ (by decide +kernel)) ggX9_stop_X9_save
set_option maxRecDepth 20000 in
theorem ggX9_stop_X9_pass : GoodIn wsX9_stop wsX9_pass := goodIn_r _ [22, 4, 23, 24, 25, 26, 27, 28, 29, 30, 31, 7, 32, 33, 34, 35, 36, 37, 38, 39, 40, 41, 46, 47, 48, 49, 50, 51, 52, 53, 54, 55, 56, 57, 58, 59, 60, 61, 62, 63, 64, 65, 66, 67, 68, 69, 70, 71, 72, 73, 74, 75, 76, 77, 78, 79, 80, 81, 82, 83, 84, 85, 86, 87, 88, 89, 90, 91, 92] (by decide +kernel) (by decide +kernel)
set_option maxRecDepth 20000 in
theorem gX9_stop_X9_pass : GoodIn wsX9_stop (wsV RX9 214 RX9 yX9_pass wsX9_pass) := goodIn_app (goodIn_of _ (by decide +kernel)) ggX9_stop_X9_pass
set_option maxRecDepth 20000 in
theorem ggX9_stop_X9_putBack : GoodIn wsX9_stop wsX9_putBack := goodIn_r _ [45, 4, 18, 46, 47, 48, 49, 50, 51, 52, 53, 54, 55, 56, 57, 58, 59, 60, 61, 62, 63, 64, 65, 66, 67, 68, 69, 70, 71, 72, 73, 74, 75, 76, 77, 78, 79, 80, 81, 82, 83, 84, 85, 86, 87, 88, 89, 90, 91, 92] (by decide +kernel) (by decide +kernel)
set_option maxRecDepth 20000 in
theorem gX9_stop_X9_putBack : GoodIn wsX9_stop (wsV RX9 259 RX9 yX9_putBack wsX9_putBack) := goodIn_app (goodIn_of _ (by decide +kernel)) ggX9_stop_X9_putBack
theorem dX9_stop_0 : decode cX9_stop 0 = .ok (.iload_n 1, 1) := by decide +kernel
theorem dX9_stop_1 : decode cX9_stop 1 = .ok (.i2l, 1) := by decide +kernel
theorem dX9_stop_2 : decode cX9_stop 2 = .ok (.lconst 0, 1) := by decide +kernel
theorem dX9_stop_3 : decode cX9_stop 3 = .ok (.ldc2_w 254, 3) := by decide +kernel
theorem dX9_stop_6 : decode cX9_stop 6 = .ok (.invokestatic 96, 3) := by decide +kernel
theorem dX9_stop_9 : decode cX9_stop 9 = .ok (.ifCond .ne 6, 3) := by decide +kernel
theorem dX9_stop_12 : decode cX9_stop 12 = .ok (.ldc 100, 2) := by decide +kernel
theorem dX9_stop_14 : decode cX9_stop 14 = .ok (.ireturn, 1) := by decide +kernel
theorem dX9_stop_15 : decode cX9_stop 15 = .ok (.aload_n 0, 1) := by decide +kernel
theorem dX9_stop_16 : decode cX9_stop 16 = .ok (.invokevirtual 219, 3) := by decide +kernel
theorem dX9_stop_19 : decode cX9_stop 19 = .ok (.ifCond .ne 6, 3) := by decide +kernel
theorem dX9_stop_22 : decode cX9_stop 22 = .ok (.ldc 223, 2) := by decide +kernel
theorem dX9_stop_24 : decode cX9_stop 24 = .ok (.ireturn, 1) := by decide +kernel
theorem dX9_stop_25 : decode cX9_stop 25 = .ok (.aload_n 0, 1) := by decide +kernel
theorem dX9_stop_26 : decode cX9_stop 26 = .ok (.invokevirtual 256, 3) := by decide +kernel
theorem dX9_stop_29 : decode cX9_stop 29 = .ok (.aload_n 0, 1) := by decide +kernel
theorem dX9_stop_30 : decode cX9_stop 30 = .ok (.getfield 29, 3) := by decide +kernel
theorem dX9_stop_33 : decode cX9_stop 33 = .ok (.bipush 6, 2) := by decide +kernel
theorem dX9_stop_35 : decode cX9_stop 35 = .ok (.iconst 0, 1) := by decide +kernel
theorem dX9_stop_36 : decode cX9_stop 36 = .ok (.iastore, 1) := by decide +kernel
theorem dX9_stop_37 : decode cX9_stop 37 = .ok (.iconst 0, 1) := by decide +kernel
theorem dX9_stop_38 : decode cX9_stop 38 = .ok (.istore_n 2, 1) := by decide +kernel
theorem dX9_stop_39 : decode cX9_stop 39 = .ok (.aload_n 0, 1) := by decide +kernel
theorem dX9_stop_40 : decode cX9_stop 40 = .ok (.getfield 29, 3) := by decide +kernel
theorem dX9_stop_43 : decode cX9_stop 43 = .ok (.bipush 7, 2) := by decide +kernel
theorem dX9_stop_45 : decode cX9_stop 45 = .ok (.iaload, 1) := by decide +kernel
theorem dX9_stop_46 : decode cX9_stop 46 = .ok (.iload_n 1, 1) := by decide +kernel
theorem dX9_stop_47 : decode cX9_stop 47 = .ok (.if_icmp .ge 22, 3) := by decide +kernel
theorem dX9_stop_50 : decode cX9_stop 50 = .ok (.aload_n 0, 1) := by decide +kernel
theorem dX9_stop_51 : decode cX9_stop 51 = .ok (.getfield 29, 3) := by decide +kernel
theorem dX9_stop_54 : decode cX9_stop 54 = .ok (.iconst 5, 1) := by decide +kernel
theorem dX9_stop_55 : decode cX9_stop 55 = .ok (.iaload, 1) := by decide +kernel
theorem dX9_stop_56 : decode cX9_stop 56 = .ok (.ifCond .ne 13, 3) := by decide +kernel
theorem dX9_stop_59 : decode cX9_stop 59 = .ok (.aload_n 0, 1) := by decide +kernel
theorem dX9_stop_60 : decode cX9_stop 60 = .ok (.invokevirtual 214, 3) := by decide +kernel
theorem dX9_stop_63 : decode cX9_stop 63 = .ok (.iinc 2 1, 3) := by decide +kernel
theorem dX9_stop_66 : decode cX9_stop 66 = .ok (.goto (-27), 3) := by decide +kernel
theorem dX9_stop_69 : decode cX9_stop 69 = .ok (.aload_n 0, 1) := by decide +kernel
theorem dX9_stop_70 : decode cX9_stop 70 = .ok (.getfield 29, 3) := by decide +kernel
theorem dX9_stop_73 : decode cX9_stop 73 = .ok (.iconst 5, 1) := by decide +kernel
theorem dX9_stop_74 : decode cX9_stop 74 = .ok (.iaload, 1) := by decide +kernel
theorem dX9_stop_75 : decode cX9_stop 75 = .ok (.iconst 1, 1) := by decide +kernel
theorem dX9_stop_76 : decode cX9_stop 76 = .ok (.if_icmp .ne 7, 3) := by decide +kernel
theorem dX9_stop_79 : decode cX9_stop 79 = .ok (.iconst 1, 1) := by decide +kernel
theorem dX9_stop_80 : decode cX9_stop 80 = .ok (.goto 4, 3) := by decide +kernel
theorem dX9_stop_83 : decode cX9_stop 83 = .ok (.iconst 0, 1) := by decide +kernel
theorem dX9_stop_84 : decode cX9_stop 84 = .ok (.istore_n 3, 1) := by decide +kernel
theorem dX9_stop_85 : decode cX9_stop 85 = .ok (.aload_n 0, 1) := by decide +kernel
theorem dX9_stop_86 : decode cX9_stop 86 = .ok (.invokevirtual 259, 3) := by decide +kernel
theorem dX9_stop_89 : decode cX9_stop 89 = .ok (.iload_n 3, 1) := by decide +kernel
theorem dX9_stop_90 : decode cX9_stop 90 = .ok (.ifCond .eq 7, 3) := by decide +kernel
theorem dX9_stop_93 : decode cX9_stop 93 = .ok (.iconst (-1), 1) := by decide +kernel
theorem dX9_stop_94 : decode cX9_stop 94 = .ok (.goto 4, 3) := by decide +kernel
theorem dX9_stop_97 : decode cX9_stop 97 = .ok (.iload_n 2, 1) := by decide +kernel
theorem dX9_stop_98 : decode cX9_stop 98 = .ok (.ireturn, 1) := by decide +kernel
set_option maxRecDepth 20000 in
theorem ggX9_nods_X9_in : GoodIn wsX9_nods wsX9_in := goodIn_r _ [8] (by decide +kernel) (by decide +kernel)
set_option maxRecDepth 20000 in
theorem gX9_nods_X9_in : GoodIn wsX9_nods (va_wsS RX9 96 yX9_in wsX9_in) := goodIn_app (goodIn_of _ (by decide +kernel)) ggX9_nods_X9_in
theorem dX9_nods_0 : decode cX9_nods 0 = .ok (.iload_n 1, 1) := by decide +kernel
theorem dX9_nods_1 : decode cX9_nods 1 = .ok (.i2l, 1) := by decide +kernel
theorem dX9_nods_2 : decode cX9_nods 2 = .ok (.lconst 0, 1) := by decide +kernel
theorem dX9_nods_3 : decode cX9_nods 3 = .ok (.ldc2_w 217, 3) := by decide +kernel
theorem dX9_nods_6 : decode cX9_nods 6 = .ok (.invokestatic 96, 3) := by decide +kernel
theorem dX9_nods_9 : decode cX9_nods 9 = .ok (.ifCond .eq 15, 3) := by decide +kernel
theorem dX9_nods_12 : decode cX9_nods 12 = .ok (.iload_n 2, 1) := by decide +kernel
theorem dX9_nods_13 : decode cX9_nods 13 = .ok (.i2l, 1) := by decide +kernel
theorem dX9_nods_14 : decode cX9_nods 14 = .ok (.lconst 0, 1) := by decide +kernel
theorem dX9_nods_15 : decode cX9_nods 15 = .ok (.ldc2_w 276, 3) := by decide +kernel
theorem dX9_nods_18 : decode cX9_nods 18 = .ok (.invokestatic 96, 3) := by decide +kernel
theorem dX9_nods_21 : decode cX9_nods 21 = .ok (.ifCond .ne 6, 3) := by decide +kernel
theorem dX9_nods_24 : decode cX9_nods 24 = .ok (.ldc 100, 2) := by decide +kernel
theorem dX9_nods_26 : decode cX9_nods 26 = .ok (.ireturn, 1) := by decide +kernel
theorem dX9_nods_27 : decode cX9_nods 27 = .ok (.ldc2_w 278, 3) := by decide +kernel
theorem dX9_nods_30 : decode cX9_nods 30 = .ok (.lstore_n 3, 1) := by decide +kernel
theorem dX9_nods_31 : decode cX9_nods 31 = .ok (.iconst 0, 1) := by decide +kernel
theorem dX9_nods_32 : decode cX9_nods 32 = .ok (.istore 5, 2) := by decide +kernel
theorem dX9_nods_34 : decode cX9_nods 34 = .ok (.iload 5, 2) := by decide +kernel
theorem dX9_nods_36 : decode cX9_nods 36 = .ok (.iload_n 1, 1) := by decide +kernel
theorem dX9_nods_37 : decode cX9_nods 37 = .ok (.if_icmp .ge 21, 3) := by decide +kernel
theorem dX9_nods_40 : decode cX9_nods 40 = .ok (.lload_n 3, 1) := by decide +kernel
theorem dX9_nods_41 : decode cX9_nods 41 = .ok (.bipush 100, 2) := by decide +kernel
theorem dX9_nods_43 : decode cX9_nods 43 = .ok (.iload_n 2, 1) := by decide +kernel
theorem dX9_nods_44 : decode cX9_nods 44 = .ok (.isub, 1) := by decide +kernel
theorem dX9_nods_45 : decode cX9_nods 45 = .ok (.i2l, 1) := by decide +kernel
theorem dX9_nods_46 : decode cX9_nods 46 = .ok (.lmul, 1) := by decide +kernel
theorem dX9_nods_47 : decode cX9_nods 47 = .ok (.ldc2_w 276, 3) := by decide +kernel
theorem dX9_nods_50 : decode cX9_nods 50 = .ok (.ldiv, 1) := by decide +kernel
theorem dX9_nods_51 : decode cX9_nods 51 = .ok (.lstore_n 3, 1) := by decide +kernel
theorem dX9_nods_52 : decode cX9_nods 52 = .ok (.iinc 5 1, 3) := by decide +kernel
theorem dX9_nods_55 : decode cX9_nods 55 = .ok (.goto (-21), 3) := by decide +kernel
theorem dX9_nods_58 : decode cX9_nods 58 = .ok (.lload_n 3, 1) := by decide +kernel
theorem dX9_nods_59 : decode cX9_nods 59 = .ok (.l2i, 1) := by decide +kernel
theorem dX9_nods_60 : decode cX9_nods 60 = .ok (.ireturn, 1) := by decide +kernel
set_option maxRecDepth 20000 in
theorem ggX9_see_X9_in : GoodIn wsX9_see wsX9_in := goodIn_r _ [12] (by decide +kernel) (by decide +kernel)
set_option maxRecDepth 20000 in
theorem gX9_see_X9_in : GoodIn wsX9_see (va_wsS RX9 96 yX9_in wsX9_in) := goodIn_app (goodIn_of _ (by decide +kernel)) ggX9_see_X9_in
theorem dX9_see_0 : decode cX9_see 0 = .ok (.iload_n 1, 1) := by decide +kernel
theorem dX9_see_1 : decode cX9_see 1 = .ok (.i2l, 1) := by decide +kernel
theorem dX9_see_2 : decode cX9_see 2 = .ok (.lconst 0, 1) := by decide +kernel
theorem dX9_see_3 : decode cX9_see 3 = .ok (.ldc2_w 254, 3) := by decide +kernel
theorem dX9_see_6 : decode cX9_see 6 = .ok (.invokestatic 96, 3) := by decide +kernel
theorem dX9_see_9 : decode cX9_see 9 = .ok (.ifCond .eq 17, 3) := by decide +kernel
theorem dX9_see_12 : decode cX9_see 12 = .ok (.iload_n 2, 1) := by decide +kernel
theorem dX9_see_13 : decode cX9_see 13 = .ok (.i2l, 1) := by decide +kernel
theorem dX9_see_14 : decode cX9_see 14 = .ok (.ldc2_w 280, 3) := by decide +kernel
theorem dX9_see_17 : decode cX9_see 17 = .ok (.ldc2_w 282, 3) := by decide +kernel
theorem dX9_see_20 : decode cX9_see 20 = .ok (.invokestatic 96, 3) := by decide +kernel
theorem dX9_see_23 : decode cX9_see 23 = .ok (.ifCond .ne 6, 3) := by decide +kernel
theorem dX9_see_26 : decode cX9_see 26 = .ok (.ldc 100, 2) := by decide +kernel
theorem dX9_see_28 : decode cX9_see 28 = .ok (.ireturn, 1) := by decide +kernel
theorem dX9_see_29 : decode cX9_see 29 = .ok (.aload_n 0, 1) := by decide +kernel
theorem dX9_see_30 : decode cX9_see 30 = .ok (.getfield 184, 3) := by decide +kernel
theorem dX9_see_33 : decode cX9_see 33 = .ok (.bipush 10, 2) := by decide +kernel
theorem dX9_see_35 : decode cX9_see 35 = .ok (.if_icmp .ne 6, 3) := by decide +kernel
theorem dX9_see_38 : decode cX9_see 38 = .ok (.ldc 104, 2) := by decide +kernel
theorem dX9_see_40 : decode cX9_see 40 = .ok (.ireturn, 1) := by decide +kernel
theorem dX9_see_41 : decode cX9_see 41 = .ok (.aload_n 0, 1) := by decide +kernel
theorem dX9_see_42 : decode cX9_see 42 = .ok (.getfield 62, 3) := by decide +kernel
theorem dX9_see_45 : decode cX9_see 45 = .ok (.aload_n 0, 1) := by decide +kernel
theorem dX9_see_46 : decode cX9_see 46 = .ok (.getfield 184, 3) := by decide +kernel
theorem dX9_see_49 : decode cX9_see 49 = .ok (.iload_n 1, 1) := by decide +kernel
theorem dX9_see_50 : decode cX9_see 50 = .ok (.iastore, 1) := by decide +kernel
theorem dX9_see_51 : decode cX9_see 51 = .ok (.aload_n 0, 1) := by decide +kernel
theorem dX9_see_52 : decode cX9_see 52 = .ok (.getfield 65, 3) := by decide +kernel
theorem dX9_see_55 : decode cX9_see 55 = .ok (.aload_n 0, 1) := by decide +kernel
theorem dX9_see_56 : decode cX9_see 56 = .ok (.getfield 184, 3) := by decide +kernel
theorem dX9_see_59 : decode cX9_see 59 = .ok (.iload_n 2, 1) := by decide +kernel
theorem dX9_see_60 : decode cX9_see 60 = .ok (.iastore, 1) := by decide +kernel
theorem dX9_see_61 : decode cX9_see 61 = .ok (.aload_n 0, 1) := by decide +kernel
theorem dX9_see_62 : decode cX9_see 62 = .ok (.dup, 1) := by decide +kernel
theorem dX9_see_63 : decode cX9_see 63 = .ok (.getfield 184, 3) := by decide +kernel
theorem dX9_see_66 : decode cX9_see 66 = .ok (.iconst 1, 1) := by decide +kernel
theorem dX9_see_67 : decode cX9_see 67 = .ok (.iadd, 1) := by decide +kernel
theorem dX9_see_68 : decode cX9_see 68 = .ok (.putfield 184, 3) := by decide +kernel
theorem dX9_see_71 : decode cX9_see 71 = .ok (.aload_n 0, 1) := by decide +kernel
theorem dX9_see_72 : decode cX9_see 72 = .ok (.getfield 184, 3) := by decide +kernel
theorem dX9_see_75 : decode cX9_see 75 = .ok (.ireturn, 1) := by decide +kernel
set_option maxRecDepth 20000 in
theorem ggX9_doesFit_X9_jumpOf : GoodIn wsX9_doesFit wsX9_jumpOf := goodIn_r _ [9, 10, 11, 12, 13, 14, 15, 16, 17, 18, 19, 20, 21, 22, 23, 24, 25, 26, 27, 28, 29, 30, 31, 32, 33, 34, 35, 36, 37, 38, 39, 40, 41, 42, 43, 44, 45, 46, 47, 48, 49, 50, 51, 52, 53, 54, 55, 56, 57, 58] (by decide +kernel) (by decide +kernel)
set_option maxRecDepth 20000 in
theorem gX9_doesFit_X9_jumpOf : GoodIn wsX9_doesFit (wsV RX9 200 RX9 yX9_jumpOf wsX9_jumpOf) := goodIn_app (goodIn_of _ (by decide +kernel)) ggX9_doesFit_X9_jumpOf
theorem dX9_doesFit_0 : decode cX9_doesFit 0 = .ok (.iconst 1, 1) := by decide +kernel
theorem dX9_doesFit_1 : decode cX9_doesFit 1 = .ok (.istore 4, 2) := by decide +kernel
theorem dX9_doesFit_3 : decode cX9_doesFit 3 = .ok (.iconst 0, 1) := by decide +kernel
theorem dX9_doesFit_4 : decode cX9_doesFit 4 = .ok (.istore 5, 2) := by decide +kernel
theorem dX9_doesFit_6 : decode cX9_doesFit 6 = .ok (.iload 5, 2) := by decide +kernel
theorem dX9_doesFit_8 : decode cX9_doesFit 8 = .ok (.aload_n 0, 1) := by decide +kernel
theorem dX9_doesFit_9 : decode cX9_doesFit 9 = .ok (.getfield 184, 3) := by decide +kernel
theorem dX9_doesFit_12 : decode cX9_doesFit 12 = .ok (.if_icmp .ge 62, 3) := by decide +kernel
theorem dX9_doesFit_15 : decode cX9_doesFit 15 = .ok (.iload 4, 2) := by decide +kernel
theorem dX9_doesFit_17 : decode cX9_doesFit 17 = .ok (.ifCond .eq 48, 3) := by decide +kernel
theorem dX9_doesFit_20 : decode cX9_doesFit 20 = .ok (.aload_n 0, 1) := by decide +kernel
theorem dX9_doesFit_21 : decode cX9_doesFit 21 = .ok (.getfield 62, 3) := by decide +kernel
theorem dX9_doesFit_24 : decode cX9_doesFit 24 = .ok (.iload 5, 2) := by decide +kernel
theorem dX9_doesFit_26 : decode cX9_doesFit 26 = .ok (.iaload, 1) := by decide +kernel
theorem dX9_doesFit_27 : decode cX9_doesFit 27 = .ok (.iload_n 2, 1) := by decide +kernel
theorem dX9_doesFit_28 : decode cX9_doesFit 28 = .ok (.irem, 1) := by decide +kernel
theorem dX9_doesFit_29 : decode cX9_doesFit 29 = .ok (.iload_n 1, 1) := by decide +kernel
theorem dX9_doesFit_30 : decode cX9_doesFit 30 = .ok (.if_icmp .ne 31, 3) := by decide +kernel
theorem dX9_doesFit_33 : decode cX9_doesFit 33 = .ok (.aload_n 0, 1) := by decide +kernel
theorem dX9_doesFit_34 : decode cX9_doesFit 34 = .ok (.getfield 65, 3) := by decide +kernel
theorem dX9_doesFit_37 : decode cX9_doesFit 37 = .ok (.iload 5, 2) := by decide +kernel
theorem dX9_doesFit_39 : decode cX9_doesFit 39 = .ok (.iaload, 1) := by decide +kernel
theorem dX9_doesFit_40 : decode cX9_doesFit 40 = .ok (.aload_n 0, 1) := by decide +kernel
theorem dX9_doesFit_41 : decode cX9_doesFit 41 = .ok (.getfield 163, 3) := by decide +kernel
theorem dX9_doesFit_44 : decode cX9_doesFit 44 = .ok (.iload_n 3, 1) := by decide +kernel
theorem dX9_doesFit_45 : decode cX9_doesFit 45 = .ok (.iadd, 1) := by decide +kernel
theorem dX9_doesFit_46 : decode cX9_doesFit 46 = .ok (.aload_n 0, 1) := by decide +kernel
theorem dX9_doesFit_47 : decode cX9_doesFit 47 = .ok (.aload_n 0, 1) := by decide +kernel
theorem dX9_doesFit_48 : decode cX9_doesFit 48 = .ok (.getfield 62, 3) := by decide +kernel
theorem dX9_doesFit_51 : decode cX9_doesFit 51 = .ok (.iload 5, 2) := by decide +kernel
theorem dX9_doesFit_53 : decode cX9_doesFit 53 = .ok (.iaload, 1) := by decide +kernel
theorem dX9_doesFit_54 : decode cX9_doesFit 54 = .ok (.invokevirtual 200, 3) := by decide +kernel
theorem dX9_doesFit_57 : decode cX9_doesFit 57 = .ok (.iadd, 1) := by decide +kernel
theorem dX9_doesFit_58 : decode cX9_doesFit 58 = .ok (.if_icmp .ne 7, 3) := by decide +kernel
theorem dX9_doesFit_61 : decode cX9_doesFit 61 = .ok (.iconst 1, 1) := by decide +kernel
theorem dX9_doesFit_62 : decode cX9_doesFit 62 = .ok (.goto 4, 3) := by decide +kernel
theorem dX9_doesFit_65 : decode cX9_doesFit 65 = .ok (.iconst 0, 1) := by decide +kernel
theorem dX9_doesFit_66 : decode cX9_doesFit 66 = .ok (.istore 4, 2) := by decide +kernel
theorem dX9_doesFit_68 : decode cX9_doesFit 68 = .ok (.iinc 5 1, 3) := by decide +kernel
theorem dX9_doesFit_71 : decode cX9_doesFit 71 = .ok (.goto (-65), 3) := by decide +kernel
theorem dX9_doesFit_74 : decode cX9_doesFit 74 = .ok (.iload 4, 2) := by decide +kernel
theorem dX9_doesFit_76 : decode cX9_doesFit 76 = .ok (.ireturn, 1) := by decide +kernel
set_option maxRecDepth 20000 in
theorem ggX9_fits_X9_in : GoodIn wsX9_fits wsX9_in := goodIn_r _ [6] (by decide +kernel) (by decide +kernel)
set_option maxRecDepth 20000 in
theorem gX9_fits_X9_in : GoodIn wsX9_fits (va_wsS RX9 96 yX9_in wsX9_in) := goodIn_app (goodIn_of _ (by decide +kernel)) ggX9_fits_X9_in
set_option maxRecDepth 20000 in
theorem ggX9_fits_X9_doesFit : GoodIn wsX9_fits wsX9_doesFit := goodIn_r _ [10, 11, 12, 13, 14, 15, 16, 17, 5, 18, 19, 20, 21, 22, 23, 24, 25, 26, 27, 28, 29, 30, 31, 32, 33, 34, 35, 36, 37, 38, 39, 40, 41, 42, 43, 44, 45, 46, 47, 48, 49, 50, 51, 52, 53, 54, 55, 56, 57, 58, 59, 60, 61, 62, 63, 64, 65, 66, 67] (by decide +kernel) (by decide +kernel)
set_option maxRecDepth 20000 in
theorem gX9_fits_X9_doesFit : GoodIn wsX9_fits (wsV RX9 284 RX9 yX9_doesFit wsX9_doesFit) := goodIn_app (goodIn_of _ (by decide +kernel)) ggX9_fits_X9_doesFit
theorem dX9_fits_0 : decode cX9_fits 0 = .ok (.iload_n 1, 1) := by decide +kernel
theorem dX9_fits_1 : decode cX9_fits 1 = .ok (.i2l, 1) := by decide +kernel
theorem dX9_fits_2 : decode cX9_fits 2 = .ok (.lconst 0, 1) := by decide +kernel
theorem dX9_fits_3 : decode cX9_fits 3 = .ok (.aload_n 0, 1) := by decide +kernel
theorem dX9_fits_4 : decode cX9_fits 4 = .ok (.getfield 7, 3) := by decide +kernel
theorem dX9_fits_7 : decode cX9_fits 7 = .ok (.iconst 1, 1) := by decide +kernel
theorem dX9_fits_8 : decode cX9_fits 8 = .ok (.isub, 1) := by decide +kernel
theorem dX9_fits_9 : decode cX9_fits 9 = .ok (.i2l, 1) := by decide +kernel
theorem dX9_fits_10 : decode cX9_fits 10 = .ok (.invokestatic 96, 3) := by decide +kernel
theorem dX9_fits_13 : decode cX9_fits 13 = .ok (.ifCond .eq 13, 3) := by decide +kernel
theorem dX9_fits_16 : decode cX9_fits 16 = .ok (.iload_n 2, 1) := by decide +kernel
theorem dX9_fits_17 : decode cX9_fits 17 = .ok (.i2l, 1) := by decide +kernel
theorem dX9_fits_18 : decode cX9_fits 18 = .ok (.lconst 0, 1) := by decide +kernel
theorem dX9_fits_19 : decode cX9_fits 19 = .ok (.lconst 1, 1) := by decide +kernel
theorem dX9_fits_20 : decode cX9_fits 20 = .ok (.invokestatic 96, 3) := by decide +kernel
theorem dX9_fits_23 : decode cX9_fits 23 = .ok (.ifCond .ne 6, 3) := by decide +kernel
theorem dX9_fits_26 : decode cX9_fits 26 = .ok (.ldc 100, 2) := by decide +kernel
theorem dX9_fits_28 : decode cX9_fits 28 = .ok (.ireturn, 1) := by decide +kernel
theorem dX9_fits_29 : decode cX9_fits 29 = .ok (.iconst 0, 1) := by decide +kernel
theorem dX9_fits_30 : decode cX9_fits 30 = .ok (.istore_n 3, 1) := by decide +kernel
theorem dX9_fits_31 : decode cX9_fits 31 = .ok (.iconst (-1), 1) := by decide +kernel
theorem dX9_fits_32 : decode cX9_fits 32 = .ok (.istore 4, 2) := by decide +kernel
theorem dX9_fits_34 : decode cX9_fits 34 = .ok (.bipush (-9), 2) := by decide +kernel
theorem dX9_fits_36 : decode cX9_fits 36 = .ok (.istore 5, 2) := by decide +kernel
theorem dX9_fits_38 : decode cX9_fits 38 = .ok (.iload 5, 2) := by decide +kernel
theorem dX9_fits_40 : decode cX9_fits 40 = .ok (.bipush 10, 2) := by decide +kernel
theorem dX9_fits_42 : decode cX9_fits 42 = .ok (.if_icmp .ge 56, 3) := by decide +kernel
theorem dX9_fits_45 : decode cX9_fits 45 = .ok (.aload_n 0, 1) := by decide +kernel
theorem dX9_fits_46 : decode cX9_fits 46 = .ok (.iload_n 1, 1) := by decide +kernel
theorem dX9_fits_47 : decode cX9_fits 47 = .ok (.aload_n 0, 1) := by decide +kernel
theorem dX9_fits_48 : decode cX9_fits 48 = .ok (.getfield 7, 3) := by decide +kernel
theorem dX9_fits_51 : decode cX9_fits 51 = .ok (.iload 5, 2) := by decide +kernel
theorem dX9_fits_53 : decode cX9_fits 53 = .ok (.invokevirtual 284, 3) := by decide +kernel
theorem dX9_fits_56 : decode cX9_fits 56 = .ok (.istore 6, 2) := by decide +kernel
theorem dX9_fits_58 : decode cX9_fits 58 = .ok (.iload 6, 2) := by decide +kernel
theorem dX9_fits_60 : decode cX9_fits 60 = .ok (.ifCond .eq 15, 3) := by decide +kernel
theorem dX9_fits_63 : decode cX9_fits 63 = .ok (.iload_n 3, 1) := by decide +kernel
theorem dX9_fits_64 : decode cX9_fits 64 = .ok (.ifCond .ne 11, 3) := by decide +kernel
theorem dX9_fits_67 : decode cX9_fits 67 = .ok (.iload 5, 2) := by decide +kernel
theorem dX9_fits_69 : decode cX9_fits 69 = .ok (.bipush 9, 2) := by decide +kernel
theorem dX9_fits_71 : decode cX9_fits 71 = .ok (.iadd, 1) := by decide +kernel
theorem dX9_fits_72 : decode cX9_fits 72 = .ok (.goto 5, 3) := by decide +kernel
theorem dX9_fits_75 : decode cX9_fits 75 = .ok (.iload 4, 2) := by decide +kernel
theorem dX9_fits_77 : decode cX9_fits 77 = .ok (.istore 4, 2) := by decide +kernel
theorem dX9_fits_79 : decode cX9_fits 79 = .ok (.iload_n 3, 1) := by decide +kernel
theorem dX9_fits_80 : decode cX9_fits 80 = .ok (.iload 6, 2) := by decide +kernel
theorem dX9_fits_82 : decode cX9_fits 82 = .ok (.ifCond .eq 7, 3) := by decide +kernel
theorem dX9_fits_85 : decode cX9_fits 85 = .ok (.iconst 1, 1) := by decide +kernel
theorem dX9_fits_86 : decode cX9_fits 86 = .ok (.goto 4, 3) := by decide +kernel
theorem dX9_fits_89 : decode cX9_fits 89 = .ok (.iconst 0, 1) := by decide +kernel
theorem dX9_fits_90 : decode cX9_fits 90 = .ok (.iadd, 1) := by decide +kernel
theorem dX9_fits_91 : decode cX9_fits 91 = .ok (.istore_n 3, 1) := by decide +kernel
theorem dX9_fits_92 : decode cX9_fits 92 = .ok (.iinc 5 1, 3) := by decide +kernel
theorem dX9_fits_95 : decode cX9_fits 95 = .ok (.goto (-57), 3) := by decide +kernel
theorem dX9_fits_98 : decode cX9_fits 98 = .ok (.iload_n 2, 1) := by decide +kernel
theorem dX9_fits_99 : decode cX9_fits 99 = .ok (.ifCond .ne 7, 3) := by decide +kernel
theorem dX9_fits_102 : decode cX9_fits 102 = .ok (.iload_n 3, 1) := by decide +kernel
theorem dX9_fits_103 : decode cX9_fits 103 = .ok (.goto 5, 3) := by decide +kernel
theorem dX9_fits_106 : decode cX9_fits 106 = .ok (.iload 4, 2) := by decide +kernel
theorem dX9_fits_108 : decode cX9_fits 108 = .ok (.ireturn, 1) := by decide +kernel
set_option maxRecDepth 20000 in
theorem ggX9_periods_X9_doesFit : GoodIn wsX9_periods wsX9_doesFit := goodIn_r _ [5, 6, 7, 8, 9, 10, 11, 12, 4, 13, 14, 15, 16, 17, 18, 19, 20, 21, 22, 23, 24, 25, 26, 27, 28, 29, 30, 31, 32, 33, 34, 35, 36, 37, 38, 39, 40, 41, 42, 43, 44, 45, 46, 47, 48, 49, 50, 51, 52, 53, 54, 55, 56, 57, 58, 59, 60, 61, 62] (by decide +kernel) (by decide +kernel)
set_option maxRecDepth 20000 in
theorem gX9_periods_X9_doesFit : GoodIn wsX9_periods (wsV RX9 284 RX9 yX9_doesFit wsX9_doesFit) := goodIn_app (goodIn_of _ (by decide +kernel)) ggX9_periods_X9_doesFit
theorem dX9_periods_0 : decode cX9_periods 0 = .ok (.iconst 0, 1) := by decide +kernel
theorem dX9_periods_1 : decode cX9_periods 1 = .ok (.istore_n 1, 1) := by decide +kernel
theorem dX9_periods_2 : decode cX9_periods 2 = .ok (.iconst 1, 1) := by decide +kernel
theorem dX9_periods_3 : decode cX9_periods 3 = .ok (.istore_n 2, 1) := by decide +kernel
theorem dX9_periods_4 : decode cX9_periods 4 = .ok (.iload_n 2, 1) := by decide +kernel
theorem dX9_periods_5 : decode cX9_periods 5 = .ok (.bipush 10, 2) := by decide +kernel
theorem dX9_periods_7 : decode cX9_periods 7 = .ok (.if_icmp .ge 99, 3) := by decide +kernel
theorem dX9_periods_10 : decode cX9_periods 10 = .ok (.iconst 1, 1) := by decide +kernel
theorem dX9_periods_11 : decode cX9_periods 11 = .ok (.istore_n 3, 1) := by decide +kernel
theorem dX9_periods_12 : decode cX9_periods 12 = .ok (.iconst 0, 1) := by decide +kernel
theorem dX9_periods_13 : decode cX9_periods 13 = .ok (.istore 4, 2) := by decide +kernel
theorem dX9_periods_15 : decode cX9_periods 15 = .ok (.iload 4, 2) := by decide +kernel
theorem dX9_periods_17 : decode cX9_periods 17 = .ok (.iload_n 2, 1) := by decide +kernel
theorem dX9_periods_18 : decode cX9_periods 18 = .ok (.if_icmp .ge 68, 3) := by decide +kernel
theorem dX9_periods_21 : decode cX9_periods 21 = .ok (.iconst 0, 1) := by decide +kernel
theorem dX9_periods_22 : decode cX9_periods 22 = .ok (.istore 5, 2) := by decide +kernel
theorem dX9_periods_24 : decode cX9_periods 24 = .ok (.bipush (-9), 2) := by decide +kernel
theorem dX9_periods_26 : decode cX9_periods 26 = .ok (.istore 6, 2) := by decide +kernel
theorem dX9_periods_28 : decode cX9_periods 28 = .ok (.iload 6, 2) := by decide +kernel
theorem dX9_periods_30 : decode cX9_periods 30 = .ok (.bipush 10, 2) := by decide +kernel
theorem dX9_periods_32 : decode cX9_periods 32 = .ok (.if_icmp .ge 33, 3) := by decide +kernel
theorem dX9_periods_35 : decode cX9_periods 35 = .ok (.iload 5, 2) := by decide +kernel
theorem dX9_periods_37 : decode cX9_periods 37 = .ok (.ifCond .ne 15, 3) := by decide +kernel
theorem dX9_periods_40 : decode cX9_periods 40 = .ok (.aload_n 0, 1) := by decide +kernel
theorem dX9_periods_41 : decode cX9_periods 41 = .ok (.iload 4, 2) := by decide +kernel
theorem dX9_periods_43 : decode cX9_periods 43 = .ok (.iload_n 2, 1) := by decide +kernel
theorem dX9_periods_44 : decode cX9_periods 44 = .ok (.iload 6, 2) := by decide +kernel
theorem dX9_periods_46 : decode cX9_periods 46 = .ok (.invokevirtual 284, 3) := by decide +kernel
theorem dX9_periods_49 : decode cX9_periods 49 = .ok (.ifCond .eq 7, 3) := by decide +kernel
theorem dX9_periods_52 : decode cX9_periods 52 = .ok (.iconst 1, 1) := by decide +kernel
theorem dX9_periods_53 : decode cX9_periods 53 = .ok (.goto 4, 3) := by decide +kernel
theorem dX9_periods_56 : decode cX9_periods 56 = .ok (.iconst 0, 1) := by decide +kernel
theorem dX9_periods_57 : decode cX9_periods 57 = .ok (.istore 5, 2) := by decide +kernel
theorem dX9_periods_59 : decode cX9_periods 59 = .ok (.iinc 6 1, 3) := by decide +kernel
theorem dX9_periods_62 : decode cX9_periods 62 = .ok (.goto (-34), 3) := by decide +kernel
theorem dX9_periods_65 : decode cX9_periods 65 = .ok (.iload_n 3, 1) := by decide +kernel
theorem dX9_periods_66 : decode cX9_periods 66 = .ok (.ifCond .eq 12, 3) := by decide +kernel
theorem dX9_periods_69 : decode cX9_periods 69 = .ok (.iload 5, 2) := by decide +kernel
theorem dX9_periods_71 : decode cX9_periods 71 = .ok (.ifCond .eq 7, 3) := by decide +kernel
theorem dX9_periods_74 : decode cX9_periods 74 = .ok (.iconst 1, 1) := by decide +kernel
theorem dX9_periods_75 : decode cX9_periods 75 = .ok (.goto 4, 3) := by decide +kernel
theorem dX9_periods_78 : decode cX9_periods 78 = .ok (.iconst 0, 1) := by decide +kernel
theorem dX9_periods_79 : decode cX9_periods 79 = .ok (.istore_n 3, 1) := by decide +kernel
theorem dX9_periods_80 : decode cX9_periods 80 = .ok (.iinc 4 1, 3) := by decide +kernel
theorem dX9_periods_83 : decode cX9_periods 83 = .ok (.goto (-68), 3) := by decide +kernel
theorem dX9_periods_86 : decode cX9_periods 86 = .ok (.iload_n 1, 1) := by decide +kernel
theorem dX9_periods_87 : decode cX9_periods 87 = .ok (.iload_n 3, 1) := by decide +kernel
theorem dX9_periods_88 : decode cX9_periods 88 = .ok (.ifCond .eq 9, 3) := by decide +kernel
theorem dX9_periods_91 : decode cX9_periods 91 = .ok (.iconst 1, 1) := by decide +kernel
theorem dX9_periods_92 : decode cX9_periods 92 = .ok (.iload_n 2, 1) := by decide +kernel
theorem dX9_periods_93 : decode cX9_periods 93 = .ok (.ishl, 1) := by decide +kernel
theorem dX9_periods_94 : decode cX9_periods 94 = .ok (.goto 4, 3) := by decide +kernel
theorem dX9_periods_97 : decode cX9_periods 97 = .ok (.iconst 0, 1) := by decide +kernel
theorem dX9_periods_98 : decode cX9_periods 98 = .ok (.ior, 1) := by decide +kernel
theorem dX9_periods_99 : decode cX9_periods 99 = .ok (.istore_n 1, 1) := by decide +kernel
theorem dX9_periods_100 : decode cX9_periods 100 = .ok (.iinc 2 1, 3) := by decide +kernel
theorem dX9_periods_103 : decode cX9_periods 103 = .ok (.goto (-99), 3) := by decide +kernel
theorem dX9_periods_106 : decode cX9_periods 106 = .ok (.iload_n 1, 1) := by decide +kernel
theorem dX9_periods_107 : decode cX9_periods 107 = .ok (.ireturn, 1) := by decide +kernel
set_option maxRecDepth 20000 in
theorem ggX9_look_X9_has : GoodIn wsX9_look wsX9_has := goodIn_r _ [10] (by decide +kernel) (by decide +kernel)
set_option maxRecDepth 20000 in
theorem gX9_look_X9_has : GoodIn wsX9_look (va_wsS RX9 288 yX9_has wsX9_has) := goodIn_app (goodIn_of _ (by decide +kernel)) ggX9_look_X9_has
theorem dX9_look_0 : decode cX9_look 0 = .ok (.aload_n 0, 1) := by decide +kernel
theorem dX9_look_1 : decode cX9_look 1 = .ok (.getfield 90, 3) := by decide +kernel
theorem dX9_look_4 : decode cX9_look 4 = .ok (.ifCond .ne 6, 3) := by decide +kernel
theorem dX9_look_7 : decode cX9_look 7 = .ok (.ldc 223, 2) := by decide +kernel
theorem dX9_look_9 : decode cX9_look 9 = .ok (.ireturn, 1) := by decide +kernel
theorem dX9_look_10 : decode cX9_look 10 = .ok (.iconst 0, 1) := by decide +kernel
theorem dX9_look_11 : decode cX9_look 11 = .ok (.istore_n 1, 1) := by decide +kernel
theorem dX9_look_12 : decode cX9_look 12 = .ok (.iconst 0, 1) := by decide +kernel
theorem dX9_look_13 : decode cX9_look 13 = .ok (.istore_n 2, 1) := by decide +kernel
theorem dX9_look_14 : decode cX9_look 14 = .ok (.iload_n 2, 1) := by decide +kernel
theorem dX9_look_15 : decode cX9_look 15 = .ok (.aload_n 0, 1) := by decide +kernel
theorem dX9_look_16 : decode cX9_look 16 = .ok (.getfield 184, 3) := by decide +kernel
theorem dX9_look_19 : decode cX9_look 19 = .ok (.if_icmp .ge 25, 3) := by decide +kernel
theorem dX9_look_22 : decode cX9_look 22 = .ok (.iload_n 1, 1) := by decide +kernel
theorem dX9_look_23 : decode cX9_look 23 = .ok (.iconst 1, 1) := by decide +kernel
theorem dX9_look_24 : decode cX9_look 24 = .ok (.aload_n 0, 1) := by decide +kernel
theorem dX9_look_25 : decode cX9_look 25 = .ok (.getfield 62, 3) := by decide +kernel
theorem dX9_look_28 : decode cX9_look 28 = .ok (.iload_n 2, 1) := by decide +kernel
theorem dX9_look_29 : decode cX9_look 29 = .ok (.iaload, 1) := by decide +kernel
theorem dX9_look_30 : decode cX9_look 30 = .ok (.aload_n 0, 1) := by decide +kernel
theorem dX9_look_31 : decode cX9_look 31 = .ok (.getfield 7, 3) := by decide +kernel
theorem dX9_look_34 : decode cX9_look 34 = .ok (.irem, 1) := by decide +kernel
theorem dX9_look_35 : decode cX9_look 35 = .ok (.ishl, 1) := by decide +kernel
theorem dX9_look_36 : decode cX9_look 36 = .ok (.ior, 1) := by decide +kernel
theorem dX9_look_37 : decode cX9_look 37 = .ok (.istore_n 1, 1) := by decide +kernel
theorem dX9_look_38 : decode cX9_look 38 = .ok (.iinc 2 1, 3) := by decide +kernel
theorem dX9_look_41 : decode cX9_look 41 = .ok (.goto (-27), 3) := by decide +kernel
theorem dX9_look_44 : decode cX9_look 44 = .ok (.aload_n 0, 1) := by decide +kernel
theorem dX9_look_45 : decode cX9_look 45 = .ok (.getfield 29, 3) := by decide +kernel
theorem dX9_look_48 : decode cX9_look 48 = .ok (.iconst 0, 1) := by decide +kernel
theorem dX9_look_49 : decode cX9_look 49 = .ok (.iaload, 1) := by decide +kernel
theorem dX9_look_50 : decode cX9_look 50 = .ok (.istore_n 2, 1) := by decide +kernel
theorem dX9_look_51 : decode cX9_look 51 = .ok (.iload_n 2, 1) := by decide +kernel
theorem dX9_look_52 : decode cX9_look 52 = .ok (.aload_n 0, 1) := by decide +kernel
theorem dX9_look_53 : decode cX9_look 53 = .ok (.getfield 29, 3) := by decide +kernel
theorem dX9_look_56 : decode cX9_look 56 = .ok (.iconst 0, 1) := by decide +kernel
theorem dX9_look_57 : decode cX9_look 57 = .ok (.iaload, 1) := by decide +kernel
theorem dX9_look_58 : decode cX9_look 58 = .ok (.bipush 99, 2) := by decide +kernel
theorem dX9_look_60 : decode cX9_look 60 = .ok (.iadd, 1) := by decide +kernel
theorem dX9_look_61 : decode cX9_look 61 = .ok (.if_icmp .ge 24, 3) := by decide +kernel
theorem dX9_look_64 : decode cX9_look 64 = .ok (.iload_n 1, 1) := by decide +kernel
theorem dX9_look_65 : decode cX9_look 65 = .ok (.iload_n 2, 1) := by decide +kernel
theorem dX9_look_66 : decode cX9_look 66 = .ok (.aload_n 0, 1) := by decide +kernel
theorem dX9_look_67 : decode cX9_look 67 = .ok (.getfield 7, 3) := by decide +kernel
theorem dX9_look_70 : decode cX9_look 70 = .ok (.irem, 1) := by decide +kernel
theorem dX9_look_71 : decode cX9_look 71 = .ok (.invokestatic 288, 3) := by decide +kernel
theorem dX9_look_74 : decode cX9_look 74 = .ok (.ifCond .ne 5, 3) := by decide +kernel
theorem dX9_look_77 : decode cX9_look 77 = .ok (.iload_n 2, 1) := by decide +kernel
theorem dX9_look_78 : decode cX9_look 78 = .ok (.ireturn, 1) := by decide +kernel
theorem dX9_look_79 : decode cX9_look 79 = .ok (.iinc 2 1, 3) := by decide +kernel
theorem dX9_look_82 : decode cX9_look 82 = .ok (.goto (-31), 3) := by decide +kernel
theorem dX9_look_85 : decode cX9_look 85 = .ok (.iconst (-1), 1) := by decide +kernel
theorem dX9_look_86 : decode cX9_look 86 = .ok (.ireturn, 1) := by decide +kernel
set_option maxRecDepth 20000 in
theorem ggX9_tail_X9_in : GoodIn wsX9_tail wsX9_in := goodIn_r _ [13] (by decide +kernel) (by decide +kernel)
set_option maxRecDepth 20000 in
theorem gX9_tail_X9_in : GoodIn wsX9_tail (va_wsS RX9 96 yX9_in wsX9_in) := goodIn_app (goodIn_of _ (by decide +kernel)) ggX9_tail_X9_in
theorem dX9_tail_0 : decode cX9_tail 0 = .ok (.iload_n 1, 1) := by decide +kernel
theorem dX9_tail_1 : decode cX9_tail 1 = .ok (.i2l, 1) := by decide +kernel
theorem dX9_tail_2 : decode cX9_tail 2 = .ok (.lconst 0, 1) := by decide +kernel
theorem dX9_tail_3 : decode cX9_tail 3 = .ok (.ldc2_w 254, 3) := by decide +kernel
theorem dX9_tail_6 : decode cX9_tail 6 = .ok (.invokestatic 96, 3) := by decide +kernel
theorem dX9_tail_9 : decode cX9_tail 9 = .ok (.ifCond .eq 32, 3) := by decide +kernel
theorem dX9_tail_12 : decode cX9_tail 12 = .ok (.iload_n 2, 1) := by decide +kernel
theorem dX9_tail_13 : decode cX9_tail 13 = .ok (.i2l, 1) := by decide +kernel
theorem dX9_tail_14 : decode cX9_tail 14 = .ok (.iload_n 1, 1) := by decide +kernel
theorem dX9_tail_15 : decode cX9_tail 15 = .ok (.i2l, 1) := by decide +kernel
theorem dX9_tail_16 : decode cX9_tail 16 = .ok (.lconst 1, 1) := by decide +kernel
theorem dX9_tail_17 : decode cX9_tail 17 = .ok (.ladd, 1) := by decide +kernel
theorem dX9_tail_18 : decode cX9_tail 18 = .ok (.ldc2_w 254, 3) := by decide +kernel
theorem dX9_tail_21 : decode cX9_tail 21 = .ok (.invokestatic 96, 3) := by decide +kernel
theorem dX9_tail_24 : decode cX9_tail 24 = .ok (.ifCond .eq 17, 3) := by decide +kernel
theorem dX9_tail_27 : decode cX9_tail 27 = .ok (.iload_n 3, 1) := by decide +kernel
theorem dX9_tail_28 : decode cX9_tail 28 = .ok (.i2l, 1) := by decide +kernel
theorem dX9_tail_29 : decode cX9_tail 29 = .ok (.ldc2_w 291, 3) := by decide +kernel
theorem dX9_tail_32 : decode cX9_tail 32 = .ok (.ldc2_w 293, 3) := by decide +kernel
theorem dX9_tail_35 : decode cX9_tail 35 = .ok (.invokestatic 96, 3) := by decide +kernel
theorem dX9_tail_38 : decode cX9_tail 38 = .ok (.ifCond .ne 6, 3) := by decide +kernel
theorem dX9_tail_41 : decode cX9_tail 41 = .ok (.ldc 100, 2) := by decide +kernel
theorem dX9_tail_43 : decode cX9_tail 43 = .ok (.ireturn, 1) := by decide +kernel
theorem dX9_tail_44 : decode cX9_tail 44 = .ok (.aload_n 0, 1) := by decide +kernel
theorem dX9_tail_45 : decode cX9_tail 45 = .ok (.getfield 187, 3) := by decide +kernel
theorem dX9_tail_48 : decode cX9_tail 48 = .ok (.bipush 6, 2) := by decide +kernel
theorem dX9_tail_50 : decode cX9_tail 50 = .ok (.if_icmp .ne 6, 3) := by decide +kernel
theorem dX9_tail_53 : decode cX9_tail 53 = .ok (.ldc 104, 2) := by decide +kernel
theorem dX9_tail_55 : decode cX9_tail 55 = .ok (.ireturn, 1) := by decide +kernel
theorem dX9_tail_56 : decode cX9_tail 56 = .ok (.aload_n 0, 1) := by decide +kernel
theorem dX9_tail_57 : decode cX9_tail 57 = .ok (.getfield 68, 3) := by decide +kernel
theorem dX9_tail_60 : decode cX9_tail 60 = .ok (.aload_n 0, 1) := by decide +kernel
theorem dX9_tail_61 : decode cX9_tail 61 = .ok (.getfield 187, 3) := by decide +kernel
theorem dX9_tail_64 : decode cX9_tail 64 = .ok (.iload_n 1, 1) := by decide +kernel
theorem dX9_tail_65 : decode cX9_tail 65 = .ok (.iastore, 1) := by decide +kernel
theorem dX9_tail_66 : decode cX9_tail 66 = .ok (.aload_n 0, 1) := by decide +kernel
theorem dX9_tail_67 : decode cX9_tail 67 = .ok (.getfield 71, 3) := by decide +kernel
theorem dX9_tail_70 : decode cX9_tail 70 = .ok (.aload_n 0, 1) := by decide +kernel
theorem dX9_tail_71 : decode cX9_tail 71 = .ok (.getfield 187, 3) := by decide +kernel
theorem dX9_tail_74 : decode cX9_tail 74 = .ok (.iload_n 2, 1) := by decide +kernel
theorem dX9_tail_75 : decode cX9_tail 75 = .ok (.iastore, 1) := by decide +kernel
theorem dX9_tail_76 : decode cX9_tail 76 = .ok (.aload_n 0, 1) := by decide +kernel
theorem dX9_tail_77 : decode cX9_tail 77 = .ok (.getfield 74, 3) := by decide +kernel
theorem dX9_tail_80 : decode cX9_tail 80 = .ok (.aload_n 0, 1) := by decide +kernel
theorem dX9_tail_81 : decode cX9_tail 81 = .ok (.getfield 187, 3) := by decide +kernel
theorem dX9_tail_84 : decode cX9_tail 84 = .ok (.iload_n 3, 1) := by decide +kernel
theorem dX9_tail_85 : decode cX9_tail 85 = .ok (.iastore, 1) := by decide +kernel
theorem dX9_tail_86 : decode cX9_tail 86 = .ok (.aload_n 0, 1) := by decide +kernel
theorem dX9_tail_87 : decode cX9_tail 87 = .ok (.dup, 1) := by decide +kernel
theorem dX9_tail_88 : decode cX9_tail 88 = .ok (.getfield 187, 3) := by decide +kernel
theorem dX9_tail_91 : decode cX9_tail 91 = .ok (.iconst 1, 1) := by decide +kernel
theorem dX9_tail_92 : decode cX9_tail 92 = .ok (.iadd, 1) := by decide +kernel
theorem dX9_tail_93 : decode cX9_tail 93 = .ok (.putfield 187, 3) := by decide +kernel
theorem dX9_tail_96 : decode cX9_tail 96 = .ok (.aload_n 0, 1) := by decide +kernel
theorem dX9_tail_97 : decode cX9_tail 97 = .ok (.getfield 187, 3) := by decide +kernel
theorem dX9_tail_100 : decode cX9_tail 100 = .ok (.ireturn, 1) := by decide +kernel
theorem dX9_axes_0 : decode cX9_axes 0 = .ok (.iconst 0, 1) := by decide +kernel
theorem dX9_axes_1 : decode cX9_axes 1 = .ok (.istore_n 1, 1) := by decide +kernel
theorem dX9_axes_2 : decode cX9_axes 2 = .ok (.bipush (-9), 2) := by decide +kernel
theorem dX9_axes_4 : decode cX9_axes 4 = .ok (.istore_n 2, 1) := by decide +kernel
theorem dX9_axes_5 : decode cX9_axes 5 = .ok (.iload_n 2, 1) := by decide +kernel
theorem dX9_axes_6 : decode cX9_axes 6 = .ok (.bipush 10, 2) := by decide +kernel
theorem dX9_axes_8 : decode cX9_axes 8 = .ok (.if_icmp .ge 83, 3) := by decide +kernel
theorem dX9_axes_11 : decode cX9_axes 11 = .ok (.iconst 1, 1) := by decide +kernel
theorem dX9_axes_12 : decode cX9_axes 12 = .ok (.istore_n 3, 1) := by decide +kernel
theorem dX9_axes_13 : decode cX9_axes 13 = .ok (.iconst 0, 1) := by decide +kernel
theorem dX9_axes_14 : decode cX9_axes 14 = .ok (.istore 4, 2) := by decide +kernel
theorem dX9_axes_16 : decode cX9_axes 16 = .ok (.iload 4, 2) := by decide +kernel
theorem dX9_axes_18 : decode cX9_axes 18 = .ok (.aload_n 0, 1) := by decide +kernel
theorem dX9_axes_19 : decode cX9_axes 19 = .ok (.getfield 187, 3) := by decide +kernel
theorem dX9_axes_22 : decode cX9_axes 22 = .ok (.if_icmp .ge 46, 3) := by decide +kernel
theorem dX9_axes_25 : decode cX9_axes 25 = .ok (.iload_n 3, 1) := by decide +kernel
theorem dX9_axes_26 : decode cX9_axes 26 = .ok (.ifCond .eq 34, 3) := by decide +kernel
theorem dX9_axes_29 : decode cX9_axes 29 = .ok (.aload_n 0, 1) := by decide +kernel
theorem dX9_axes_30 : decode cX9_axes 30 = .ok (.getfield 74, 3) := by decide +kernel
theorem dX9_axes_33 : decode cX9_axes 33 = .ok (.iload 4, 2) := by decide +kernel
theorem dX9_axes_35 : decode cX9_axes 35 = .ok (.iaload, 1) := by decide +kernel
theorem dX9_axes_36 : decode cX9_axes 36 = .ok (.iload_n 2, 1) := by decide +kernel
theorem dX9_axes_37 : decode cX9_axes 37 = .ok (.aload_n 0, 1) := by decide +kernel
theorem dX9_axes_38 : decode cX9_axes 38 = .ok (.getfield 71, 3) := by decide +kernel
theorem dX9_axes_41 : decode cX9_axes 41 = .ok (.iload 4, 2) := by decide +kernel
theorem dX9_axes_43 : decode cX9_axes 43 = .ok (.iaload, 1) := by decide +kernel
theorem dX9_axes_44 : decode cX9_axes 44 = .ok (.aload_n 0, 1) := by decide +kernel
theorem dX9_axes_45 : decode cX9_axes 45 = .ok (.getfield 68, 3) := by decide +kernel
theorem dX9_axes_48 : decode cX9_axes 48 = .ok (.iload 4, 2) := by decide +kernel
theorem dX9_axes_50 : decode cX9_axes 50 = .ok (.iaload, 1) := by decide +kernel
theorem dX9_axes_51 : decode cX9_axes 51 = .ok (.isub, 1) := by decide +kernel
theorem dX9_axes_52 : decode cX9_axes 52 = .ok (.imul, 1) := by decide +kernel
theorem dX9_axes_53 : decode cX9_axes 53 = .ok (.if_icmp .ne 7, 3) := by decide +kernel
theorem dX9_axes_56 : decode cX9_axes 56 = .ok (.iconst 1, 1) := by decide +kernel
theorem dX9_axes_57 : decode cX9_axes 57 = .ok (.goto 4, 3) := by decide +kernel
theorem dX9_axes_60 : decode cX9_axes 60 = .ok (.iconst 0, 1) := by decide +kernel
theorem dX9_axes_61 : decode cX9_axes 61 = .ok (.istore_n 3, 1) := by decide +kernel
theorem dX9_axes_62 : decode cX9_axes 62 = .ok (.iinc 4 1, 3) := by decide +kernel
theorem dX9_axes_65 : decode cX9_axes 65 = .ok (.goto (-49), 3) := by decide +kernel
theorem dX9_axes_68 : decode cX9_axes 68 = .ok (.iload_n 1, 1) := by decide +kernel
theorem dX9_axes_69 : decode cX9_axes 69 = .ok (.iload_n 3, 1) := by decide +kernel
theorem dX9_axes_70 : decode cX9_axes 70 = .ok (.ifCond .eq 12, 3) := by decide +kernel
theorem dX9_axes_73 : decode cX9_axes 73 = .ok (.iconst 1, 1) := by decide +kernel
theorem dX9_axes_74 : decode cX9_axes 74 = .ok (.iload_n 2, 1) := by decide +kernel
theorem dX9_axes_75 : decode cX9_axes 75 = .ok (.bipush 9, 2) := by decide +kernel
theorem dX9_axes_77 : decode cX9_axes 77 = .ok (.iadd, 1) := by decide +kernel
theorem dX9_axes_78 : decode cX9_axes 78 = .ok (.ishl, 1) := by decide +kernel
theorem dX9_axes_79 : decode cX9_axes 79 = .ok (.goto 4, 3) := by decide +kernel
theorem dX9_axes_82 : decode cX9_axes 82 = .ok (.iconst 0, 1) := by decide +kernel
theorem dX9_axes_83 : decode cX9_axes 83 = .ok (.ior, 1) := by decide +kernel
theorem dX9_axes_84 : decode cX9_axes 84 = .ok (.istore_n 1, 1) := by decide +kernel
theorem dX9_axes_85 : decode cX9_axes 85 = .ok (.iinc 2 1, 3) := by decide +kernel
theorem dX9_axes_88 : decode cX9_axes 88 = .ok (.goto (-83), 3) := by decide +kernel
theorem dX9_axes_91 : decode cX9_axes 91 = .ok (.iload_n 1, 1) := by decide +kernel
theorem dX9_axes_92 : decode cX9_axes 92 = .ok (.ireturn, 1) := by decide +kernel
set_option maxRecDepth 20000 in
theorem ggX9_write_X9_in : GoodIn wsX9_write wsX9_in := goodIn_r _ [11] (by decide +kernel) (by decide +kernel)
set_option maxRecDepth 20000 in
theorem gX9_write_X9_in : GoodIn wsX9_write (va_wsS RX9 96 yX9_in wsX9_in) := goodIn_app (goodIn_of _ (by decide +kernel)) ggX9_write_X9_in
theorem dX9_write_0 : decode cX9_write 0 = .ok (.iload_n 1, 1) := by decide +kernel
theorem dX9_write_1 : decode cX9_write 1 = .ok (.i2l, 1) := by decide +kernel
theorem dX9_write_2 : decode cX9_write 2 = .ok (.ldc2_w 295, 3) := by decide +kernel
theorem dX9_write_5 : decode cX9_write 5 = .ok (.ldc2_w 297, 3) := by decide +kernel
theorem dX9_write_8 : decode cX9_write 8 = .ok (.invokestatic 96, 3) := by decide +kernel
theorem dX9_write_11 : decode cX9_write 11 = .ok (.ifCond .eq 17, 3) := by decide +kernel
theorem dX9_write_14 : decode cX9_write 14 = .ok (.iload_n 2, 1) := by decide +kernel
theorem dX9_write_15 : decode cX9_write 15 = .ok (.i2l, 1) := by decide +kernel
theorem dX9_write_16 : decode cX9_write 16 = .ok (.ldc2_w 295, 3) := by decide +kernel
theorem dX9_write_19 : decode cX9_write 19 = .ok (.ldc2_w 297, 3) := by decide +kernel
theorem dX9_write_22 : decode cX9_write 22 = .ok (.invokestatic 96, 3) := by decide +kernel
theorem dX9_write_25 : decode cX9_write 25 = .ok (.ifCond .ne 6, 3) := by decide +kernel
theorem dX9_write_28 : decode cX9_write 28 = .ok (.ldc 100, 2) := by decide +kernel
theorem dX9_write_30 : decode cX9_write 30 = .ok (.ireturn, 1) := by decide +kernel
theorem dX9_write_31 : decode cX9_write 31 = .ok (.aload_n 0, 1) := by decide +kernel
theorem dX9_write_32 : decode cX9_write 32 = .ok (.getfield 190, 3) := by decide +kernel
theorem dX9_write_35 : decode cX9_write 35 = .ok (.bipush 15, 2) := by decide +kernel
theorem dX9_write_37 : decode cX9_write 37 = .ok (.if_icmp .ne 6, 3) := by decide +kernel
theorem dX9_write_40 : decode cX9_write 40 = .ok (.ldc 104, 2) := by decide +kernel
theorem dX9_write_42 : decode cX9_write 42 = .ok (.ireturn, 1) := by decide +kernel
theorem dX9_write_43 : decode cX9_write 43 = .ok (.aload_n 0, 1) := by decide +kernel
theorem dX9_write_44 : decode cX9_write 44 = .ok (.getfield 77, 3) := by decide +kernel
theorem dX9_write_47 : decode cX9_write 47 = .ok (.aload_n 0, 1) := by decide +kernel
theorem dX9_write_48 : decode cX9_write 48 = .ok (.getfield 190, 3) := by decide +kernel
theorem dX9_write_51 : decode cX9_write 51 = .ok (.iload_n 1, 1) := by decide +kernel
theorem dX9_write_52 : decode cX9_write 52 = .ok (.iastore, 1) := by decide +kernel
theorem dX9_write_53 : decode cX9_write 53 = .ok (.aload_n 0, 1) := by decide +kernel
theorem dX9_write_54 : decode cX9_write 54 = .ok (.getfield 80, 3) := by decide +kernel
theorem dX9_write_57 : decode cX9_write 57 = .ok (.aload_n 0, 1) := by decide +kernel
theorem dX9_write_58 : decode cX9_write 58 = .ok (.getfield 190, 3) := by decide +kernel
theorem dX9_write_61 : decode cX9_write 61 = .ok (.iload_n 2, 1) := by decide +kernel
theorem dX9_write_62 : decode cX9_write 62 = .ok (.iastore, 1) := by decide +kernel
theorem dX9_write_63 : decode cX9_write 63 = .ok (.aload_n 0, 1) := by decide +kernel
theorem dX9_write_64 : decode cX9_write 64 = .ok (.dup, 1) := by decide +kernel
theorem dX9_write_65 : decode cX9_write 65 = .ok (.getfield 190, 3) := by decide +kernel
theorem dX9_write_68 : decode cX9_write 68 = .ok (.iconst 1, 1) := by decide +kernel
theorem dX9_write_69 : decode cX9_write 69 = .ok (.iadd, 1) := by decide +kernel
theorem dX9_write_70 : decode cX9_write 70 = .ok (.putfield 190, 3) := by decide +kernel
theorem dX9_write_73 : decode cX9_write 73 = .ok (.aload_n 0, 1) := by decide +kernel
theorem dX9_write_74 : decode cX9_write 74 = .ok (.getfield 190, 3) := by decide +kernel
theorem dX9_write_77 : decode cX9_write 77 = .ok (.ireturn, 1) := by decide +kernel
theorem dX9_tear_0 : decode cX9_tear 0 = .ok (.aload_n 0, 1) := by decide +kernel
theorem dX9_tear_1 : decode cX9_tear 1 = .ok (.getfield 184, 3) := by decide +kernel
theorem dX9_tear_4 : decode cX9_tear 4 = .ok (.aload_n 0, 1) := by decide +kernel
theorem dX9_tear_5 : decode cX9_tear 5 = .ok (.getfield 187, 3) := by decide +kernel
theorem dX9_tear_8 : decode cX9_tear 8 = .ok (.iadd, 1) := by decide +kernel
theorem dX9_tear_9 : decode cX9_tear 9 = .ok (.aload_n 0, 1) := by decide +kernel
theorem dX9_tear_10 : decode cX9_tear 10 = .ok (.getfield 190, 3) := by decide +kernel
theorem dX9_tear_13 : decode cX9_tear 13 = .ok (.iadd, 1) := by decide +kernel
theorem dX9_tear_14 : decode cX9_tear 14 = .ok (.istore_n 1, 1) := by decide +kernel
theorem dX9_tear_15 : decode cX9_tear 15 = .ok (.aload_n 0, 1) := by decide +kernel
theorem dX9_tear_16 : decode cX9_tear 16 = .ok (.iconst 0, 1) := by decide +kernel
theorem dX9_tear_17 : decode cX9_tear 17 = .ok (.putfield 184, 3) := by decide +kernel
theorem dX9_tear_20 : decode cX9_tear 20 = .ok (.aload_n 0, 1) := by decide +kernel
theorem dX9_tear_21 : decode cX9_tear 21 = .ok (.iconst 0, 1) := by decide +kernel
theorem dX9_tear_22 : decode cX9_tear 22 = .ok (.putfield 187, 3) := by decide +kernel
theorem dX9_tear_25 : decode cX9_tear 25 = .ok (.aload_n 0, 1) := by decide +kernel
theorem dX9_tear_26 : decode cX9_tear 26 = .ok (.iconst 0, 1) := by decide +kernel
theorem dX9_tear_27 : decode cX9_tear 27 = .ok (.putfield 190, 3) := by decide +kernel
theorem dX9_tear_30 : decode cX9_tear 30 = .ok (.iload_n 1, 1) := by decide +kernel
theorem dX9_tear_31 : decode cX9_tear 31 = .ok (.ireturn, 1) := by decide +kernel
theorem dX9_judge_0 : decode cX9_judge 0 = .ok (.iconst 0, 1) := by decide +kernel
theorem dX9_judge_1 : decode cX9_judge 1 = .ok (.istore_n 1, 1) := by decide +kernel
theorem dX9_judge_2 : decode cX9_judge 2 = .ok (.iload_n 1, 1) := by decide +kernel
theorem dX9_judge_3 : decode cX9_judge 3 = .ok (.aload_n 0, 1) := by decide +kernel
theorem dX9_judge_4 : decode cX9_judge 4 = .ok (.getfield 190, 3) := by decide +kernel
theorem dX9_judge_7 : decode cX9_judge 7 = .ok (.if_icmp .ge 41, 3) := by decide +kernel
theorem dX9_judge_10 : decode cX9_judge 10 = .ok (.aload_n 0, 1) := by decide +kernel
theorem dX9_judge_11 : decode cX9_judge 11 = .ok (.getfield 77, 3) := by decide +kernel
theorem dX9_judge_14 : decode cX9_judge 14 = .ok (.iload_n 1, 1) := by decide +kernel
theorem dX9_judge_15 : decode cX9_judge 15 = .ok (.iaload, 1) := by decide +kernel
theorem dX9_judge_16 : decode cX9_judge 16 = .ok (.aload_n 0, 1) := by decide +kernel
theorem dX9_judge_17 : decode cX9_judge 17 = .ok (.getfield 29, 3) := by decide +kernel
theorem dX9_judge_20 : decode cX9_judge 20 = .ok (.iconst 1, 1) := by decide +kernel
theorem dX9_judge_21 : decode cX9_judge 21 = .ok (.iaload, 1) := by decide +kernel
theorem dX9_judge_22 : decode cX9_judge 22 = .ok (.if_icmp .ne 18, 3) := by decide +kernel
theorem dX9_judge_25 : decode cX9_judge 25 = .ok (.aload_n 0, 1) := by decide +kernel
theorem dX9_judge_26 : decode cX9_judge 26 = .ok (.getfield 80, 3) := by decide +kernel
theorem dX9_judge_29 : decode cX9_judge 29 = .ok (.iload_n 1, 1) := by decide +kernel
theorem dX9_judge_30 : decode cX9_judge 30 = .ok (.iaload, 1) := by decide +kernel
theorem dX9_judge_31 : decode cX9_judge 31 = .ok (.aload_n 0, 1) := by decide +kernel
theorem dX9_judge_32 : decode cX9_judge 32 = .ok (.getfield 29, 3) := by decide +kernel
theorem dX9_judge_35 : decode cX9_judge 35 = .ok (.iconst 2, 1) := by decide +kernel
theorem dX9_judge_36 : decode cX9_judge 36 = .ok (.iaload, 1) := by decide +kernel
theorem dX9_judge_37 : decode cX9_judge 37 = .ok (.if_icmp .eq 5, 3) := by decide +kernel
theorem dX9_judge_40 : decode cX9_judge 40 = .ok (.iload_n 1, 1) := by decide +kernel
theorem dX9_judge_41 : decode cX9_judge 41 = .ok (.ireturn, 1) := by decide +kernel
theorem dX9_judge_42 : decode cX9_judge 42 = .ok (.iinc 1 1, 3) := by decide +kernel
theorem dX9_judge_45 : decode cX9_judge 45 = .ok (.goto (-43), 3) := by decide +kernel
theorem dX9_judge_48 : decode cX9_judge 48 = .ok (.iconst (-1), 1) := by decide +kernel
theorem dX9_judge_49 : decode cX9_judge 49 = .ok (.ireturn, 1) := by decide +kernel
theorem dX9_seed_0 : decode cX9_seed 0 = .ok (.iload_n 1, 1) := by decide +kernel
theorem dX9_seed_1 : decode cX9_seed 1 = .ok (.ifCond .ge 6, 3) := by decide +kernel
theorem dX9_seed_4 : decode cX9_seed 4 = .ok (.ldc 100, 2) := by decide +kernel
theorem dX9_seed_6 : decode cX9_seed 6 = .ok (.ireturn, 1) := by decide +kernel
theorem dX9_seed_7 : decode cX9_seed 7 = .ok (.aload_n 0, 1) := by decide +kernel
theorem dX9_seed_8 : decode cX9_seed 8 = .ok (.getfield 241, 3) := by decide +kernel
theorem dX9_seed_11 : decode cX9_seed 11 = .ok (.istore_n 2, 1) := by decide +kernel
theorem dX9_seed_12 : decode cX9_seed 12 = .ok (.aload_n 0, 1) := by decide +kernel
theorem dX9_seed_13 : decode cX9_seed 13 = .ok (.iload_n 1, 1) := by decide +kernel
theorem dX9_seed_14 : decode cX9_seed 14 = .ok (.putfield 241, 3) := by decide +kernel
theorem dX9_seed_17 : decode cX9_seed 17 = .ok (.iload_n 2, 1) := by decide +kernel
theorem dX9_seed_18 : decode cX9_seed 18 = .ok (.ireturn, 1) := by decide +kernel
set_option maxRecDepth 20000 in
theorem ggX9_keep_X9_in : GoodIn wsX9_keep wsX9_in := goodIn_r _ [10] (by decide +kernel) (by decide +kernel)
set_option maxRecDepth 20000 in
theorem gX9_keep_X9_in : GoodIn wsX9_keep (va_wsS RX9 96 yX9_in wsX9_in) := goodIn_app (goodIn_of _ (by decide +kernel)) ggX9_keep_X9_in
theorem dX9_keep_0 : decode cX9_keep 0 = .ok (.iload_n 1, 1) := by decide +kernel
theorem dX9_keep_1 : decode cX9_keep 1 = .ok (.i2l, 1) := by decide +kernel
theorem dX9_keep_2 : decode cX9_keep 2 = .ok (.lconst 0, 1) := by decide +kernel
theorem dX9_keep_3 : decode cX9_keep 3 = .ok (.lconst 1, 1) := by decide +kernel
theorem dX9_keep_4 : decode cX9_keep 4 = .ok (.invokestatic 96, 3) := by decide +kernel
theorem dX9_keep_7 : decode cX9_keep 7 = .ok (.ifCond .ne 6, 3) := by decide +kernel
theorem dX9_keep_10 : decode cX9_keep 10 = .ok (.ldc 199, 2) := by decide +kernel
theorem dX9_keep_12 : decode cX9_keep 12 = .ok (.ireturn, 1) := by decide +kernel
theorem dX9_keep_13 : decode cX9_keep 13 = .ok (.iconst 0, 1) := by decide +kernel
theorem dX9_keep_14 : decode cX9_keep 14 = .ok (.istore_n 2, 1) := by decide +kernel
theorem dX9_keep_15 : decode cX9_keep 15 = .ok (.iload_n 2, 1) := by decide +kernel
theorem dX9_keep_16 : decode cX9_keep 16 = .ok (.bipush 12, 2) := by decide +kernel
theorem dX9_keep_18 : decode cX9_keep 18 = .ok (.if_icmp .ge 26, 3) := by decide +kernel
theorem dX9_keep_21 : decode cX9_keep 21 = .ok (.aload_n 0, 1) := by decide +kernel
theorem dX9_keep_22 : decode cX9_keep 22 = .ok (.getfield 83, 3) := by decide +kernel
theorem dX9_keep_25 : decode cX9_keep 25 = .ok (.bipush 13, 2) := by decide +kernel
theorem dX9_keep_27 : decode cX9_keep 27 = .ok (.iload_n 1, 1) := by decide +kernel
theorem dX9_keep_28 : decode cX9_keep 28 = .ok (.imul, 1) := by decide +kernel
theorem dX9_keep_29 : decode cX9_keep 29 = .ok (.iload_n 2, 1) := by decide +kernel
theorem dX9_keep_30 : decode cX9_keep 30 = .ok (.iadd, 1) := by decide +kernel
theorem dX9_keep_31 : decode cX9_keep 31 = .ok (.aload_n 0, 1) := by decide +kernel
theorem dX9_keep_32 : decode cX9_keep 32 = .ok (.getfield 29, 3) := by decide +kernel
theorem dX9_keep_35 : decode cX9_keep 35 = .ok (.iload_n 2, 1) := by decide +kernel
theorem dX9_keep_36 : decode cX9_keep 36 = .ok (.iaload, 1) := by decide +kernel
theorem dX9_keep_37 : decode cX9_keep 37 = .ok (.iastore, 1) := by decide +kernel
theorem dX9_keep_38 : decode cX9_keep 38 = .ok (.iinc 2 1, 3) := by decide +kernel
theorem dX9_keep_41 : decode cX9_keep 41 = .ok (.goto (-26), 3) := by decide +kernel
theorem dX9_keep_44 : decode cX9_keep 44 = .ok (.aload_n 0, 1) := by decide +kernel
theorem dX9_keep_45 : decode cX9_keep 45 = .ok (.getfield 83, 3) := by decide +kernel
theorem dX9_keep_48 : decode cX9_keep 48 = .ok (.bipush 13, 2) := by decide +kernel
theorem dX9_keep_50 : decode cX9_keep 50 = .ok (.iload_n 1, 1) := by decide +kernel
theorem dX9_keep_51 : decode cX9_keep 51 = .ok (.imul, 1) := by decide +kernel
theorem dX9_keep_52 : decode cX9_keep 52 = .ok (.bipush 12, 2) := by decide +kernel
theorem dX9_keep_54 : decode cX9_keep 54 = .ok (.iadd, 1) := by decide +kernel
theorem dX9_keep_55 : decode cX9_keep 55 = .ok (.aload_n 0, 1) := by decide +kernel
theorem dX9_keep_56 : decode cX9_keep 56 = .ok (.getfield 241, 3) := by decide +kernel
theorem dX9_keep_59 : decode cX9_keep 59 = .ok (.iastore, 1) := by decide +kernel
theorem dX9_keep_60 : decode cX9_keep 60 = .ok (.aload_n 0, 1) := by decide +kernel
theorem dX9_keep_61 : decode cX9_keep 61 = .ok (.getfield 86, 3) := by decide +kernel
theorem dX9_keep_64 : decode cX9_keep 64 = .ok (.iload_n 1, 1) := by decide +kernel
theorem dX9_keep_65 : decode cX9_keep 65 = .ok (.iconst 1, 1) := by decide +kernel
theorem dX9_keep_66 : decode cX9_keep 66 = .ok (.bastore, 1) := by decide +kernel
theorem dX9_keep_67 : decode cX9_keep 67 = .ok (.aload_n 0, 1) := by decide +kernel
theorem dX9_keep_68 : decode cX9_keep 68 = .ok (.iconst 0, 1) := by decide +kernel
theorem dX9_keep_69 : decode cX9_keep 69 = .ok (.putfield 193, 3) := by decide +kernel
theorem dX9_keep_72 : decode cX9_keep 72 = .ok (.iconst 1, 1) := by decide +kernel
theorem dX9_keep_73 : decode cX9_keep 73 = .ok (.ireturn, 1) := by decide +kernel
set_option maxRecDepth 20000 in
theorem ggX9_goBack_X9_in : GoodIn wsX9_goBack wsX9_in := goodIn_r _ [11] (by decide +kernel) (by decide +kernel)
set_option maxRecDepth 20000 in
theorem gX9_goBack_X9_in : GoodIn wsX9_goBack (va_wsS RX9 96 yX9_in wsX9_in) := goodIn_app (goodIn_of _ (by decide +kernel)) ggX9_goBack_X9_in
theorem dX9_goBack_0 : decode cX9_goBack 0 = .ok (.iload_n 1, 1) := by decide +kernel
theorem dX9_goBack_1 : decode cX9_goBack 1 = .ok (.i2l, 1) := by decide +kernel
theorem dX9_goBack_2 : decode cX9_goBack 2 = .ok (.lconst 0, 1) := by decide +kernel
theorem dX9_goBack_3 : decode cX9_goBack 3 = .ok (.lconst 1, 1) := by decide +kernel
theorem dX9_goBack_4 : decode cX9_goBack 4 = .ok (.invokestatic 96, 3) := by decide +kernel
theorem dX9_goBack_7 : decode cX9_goBack 7 = .ok (.ifCond .ne 6, 3) := by decide +kernel
theorem dX9_goBack_10 : decode cX9_goBack 10 = .ok (.ldc 199, 2) := by decide +kernel
theorem dX9_goBack_12 : decode cX9_goBack 12 = .ok (.ireturn, 1) := by decide +kernel
theorem dX9_goBack_13 : decode cX9_goBack 13 = .ok (.aload_n 0, 1) := by decide +kernel
theorem dX9_goBack_14 : decode cX9_goBack 14 = .ok (.getfield 86, 3) := by decide +kernel
theorem dX9_goBack_17 : decode cX9_goBack 17 = .ok (.iload_n 1, 1) := by decide +kernel
theorem dX9_goBack_18 : decode cX9_goBack 18 = .ok (.baload, 1) := by decide +kernel
theorem dX9_goBack_19 : decode cX9_goBack 19 = .ok (.ifCond .ne 6, 3) := by decide +kernel
theorem dX9_goBack_22 : decode cX9_goBack 22 = .ok (.ldc 223, 2) := by decide +kernel
theorem dX9_goBack_24 : decode cX9_goBack 24 = .ok (.ireturn, 1) := by decide +kernel
theorem dX9_goBack_25 : decode cX9_goBack 25 = .ok (.iconst 0, 1) := by decide +kernel
theorem dX9_goBack_26 : decode cX9_goBack 26 = .ok (.istore_n 2, 1) := by decide +kernel
theorem dX9_goBack_27 : decode cX9_goBack 27 = .ok (.iload_n 2, 1) := by decide +kernel
theorem dX9_goBack_28 : decode cX9_goBack 28 = .ok (.bipush 12, 2) := by decide +kernel
theorem dX9_goBack_30 : decode cX9_goBack 30 = .ok (.if_icmp .ge 26, 3) := by decide +kernel
theorem dX9_goBack_33 : decode cX9_goBack 33 = .ok (.aload_n 0, 1) := by decide +kernel
theorem dX9_goBack_34 : decode cX9_goBack 34 = .ok (.getfield 29, 3) := by decide +kernel
theorem dX9_goBack_37 : decode cX9_goBack 37 = .ok (.iload_n 2, 1) := by decide +kernel
theorem dX9_goBack_38 : decode cX9_goBack 38 = .ok (.aload_n 0, 1) := by decide +kernel
theorem dX9_goBack_39 : decode cX9_goBack 39 = .ok (.getfield 83, 3) := by decide +kernel
theorem dX9_goBack_42 : decode cX9_goBack 42 = .ok (.bipush 13, 2) := by decide +kernel
theorem dX9_goBack_44 : decode cX9_goBack 44 = .ok (.iload_n 1, 1) := by decide +kernel
theorem dX9_goBack_45 : decode cX9_goBack 45 = .ok (.imul, 1) := by decide +kernel
theorem dX9_goBack_46 : decode cX9_goBack 46 = .ok (.iload_n 2, 1) := by decide +kernel
theorem dX9_goBack_47 : decode cX9_goBack 47 = .ok (.iadd, 1) := by decide +kernel
theorem dX9_goBack_48 : decode cX9_goBack 48 = .ok (.iaload, 1) := by decide +kernel
theorem dX9_goBack_49 : decode cX9_goBack 49 = .ok (.iastore, 1) := by decide +kernel
theorem dX9_goBack_50 : decode cX9_goBack 50 = .ok (.iinc 2 1, 3) := by decide +kernel
theorem dX9_goBack_53 : decode cX9_goBack 53 = .ok (.goto (-26), 3) := by decide +kernel
theorem dX9_goBack_56 : decode cX9_goBack 56 = .ok (.aload_n 0, 1) := by decide +kernel
theorem dX9_goBack_57 : decode cX9_goBack 57 = .ok (.aload_n 0, 1) := by decide +kernel
theorem dX9_goBack_58 : decode cX9_goBack 58 = .ok (.getfield 83, 3) := by decide +kernel
theorem dX9_goBack_61 : decode cX9_goBack 61 = .ok (.bipush 13, 2) := by decide +kernel
theorem dX9_goBack_63 : decode cX9_goBack 63 = .ok (.iload_n 1, 1) := by decide +kernel
theorem dX9_goBack_64 : decode cX9_goBack 64 = .ok (.imul, 1) := by decide +kernel
theorem dX9_goBack_65 : decode cX9_goBack 65 = .ok (.bipush 12, 2) := by decide +kernel
theorem dX9_goBack_67 : decode cX9_goBack 67 = .ok (.iadd, 1) := by decide +kernel
theorem dX9_goBack_68 : decode cX9_goBack 68 = .ok (.iaload, 1) := by decide +kernel
theorem dX9_goBack_69 : decode cX9_goBack 69 = .ok (.putfield 241, 3) := by decide +kernel
theorem dX9_goBack_72 : decode cX9_goBack 72 = .ok (.aload_n 0, 1) := by decide +kernel
theorem dX9_goBack_73 : decode cX9_goBack 73 = .ok (.iconst 0, 1) := by decide +kernel
theorem dX9_goBack_74 : decode cX9_goBack 74 = .ok (.putfield 193, 3) := by decide +kernel
theorem dX9_goBack_77 : decode cX9_goBack 77 = .ok (.iconst 1, 1) := by decide +kernel
theorem dX9_goBack_78 : decode cX9_goBack 78 = .ok (.ireturn, 1) := by decide +kernel
theorem dJ9_abs_0f7a4_0 : decode cJ9_abs_0f7a4 0 = .ok (.iload_n 0, 1) := by decide +kernel
theorem dJ9_abs_0f7a4_1 : decode cJ9_abs_0f7a4 1 = .ok (.ifCond .ge 8, 3) := by decide +kernel
theorem dJ9_abs_0f7a4_4 : decode cJ9_abs_0f7a4 4 = .ok (.iload_n 0, 1) := by decide +kernel
theorem dJ9_abs_0f7a4_5 : decode cJ9_abs_0f7a4 5 = .ok (.ineg, 1) := by decide +kernel
theorem dJ9_abs_0f7a4_6 : decode cJ9_abs_0f7a4 6 = .ok (.goto 4, 3) := by decide +kernel
theorem dJ9_abs_0f7a4_9 : decode cJ9_abs_0f7a4 9 = .ok (.iload_n 0, 1) := by decide +kernel
theorem dJ9_abs_0f7a4_10 : decode cJ9_abs_0f7a4 10 = .ok (.ireturn, 1) := by decide +kernel
theorem dJ9_max_7cf53_0 : decode cJ9_max_7cf53 0 = .ok (.iload_n 0, 1) := by decide +kernel
theorem dJ9_max_7cf53_1 : decode cJ9_max_7cf53 1 = .ok (.iload_n 1, 1) := by decide +kernel
theorem dJ9_max_7cf53_2 : decode cJ9_max_7cf53 2 = .ok (.if_icmp .lt 7, 3) := by decide +kernel
theorem dJ9_max_7cf53_5 : decode cJ9_max_7cf53 5 = .ok (.iload_n 0, 1) := by decide +kernel
theorem dJ9_max_7cf53_6 : decode cJ9_max_7cf53 6 = .ok (.goto 4, 3) := by decide +kernel
theorem dJ9_max_7cf53_9 : decode cJ9_max_7cf53 9 = .ok (.iload_n 1, 1) := by decide +kernel
theorem dJ9_max_7cf53_10 : decode cJ9_max_7cf53 10 = .ok (.ireturn, 1) := by decide +kernel
theorem dJ9_min_7cf53_0 : decode cJ9_min_7cf53 0 = .ok (.iload_n 0, 1) := by decide +kernel
theorem dJ9_min_7cf53_1 : decode cJ9_min_7cf53 1 = .ok (.iload_n 1, 1) := by decide +kernel
theorem dJ9_min_7cf53_2 : decode cJ9_min_7cf53 2 = .ok (.if_icmp .gt 7, 3) := by decide +kernel
theorem dJ9_min_7cf53_5 : decode cJ9_min_7cf53 5 = .ok (.iload_n 0, 1) := by decide +kernel
theorem dJ9_min_7cf53_6 : decode cJ9_min_7cf53 6 = .ok (.goto 4, 3) := by decide +kernel
theorem dJ9_min_7cf53_9 : decode cJ9_min_7cf53 9 = .ok (.iload_n 1, 1) := by decide +kernel
theorem dJ9_min_7cf53_10 : decode cJ9_min_7cf53 10 = .ok (.ireturn, 1) := by decide +kernel
abbrev vwCl : List vw_C := [(RX0, TX0, 1), (RX1, TX1, 3), (RX2, TX2, 3), (RX3, TX3, 12), (RX4, TX4, 12), (RX5, TX5, 9), (RX6, TX6, 8), (RX7, TX7, 6), (RX8, TX8, 10), (RX9, TX9, 47)]
