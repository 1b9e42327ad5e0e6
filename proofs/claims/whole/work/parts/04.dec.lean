theorem dX0_init_1 : decode cX0_init 1 = .ok (.invokespecial 1, 3) := by decide +kernel
theorem dX0_init_4 : decode cX0_init 4 = .ok (.return_, 1) := by decide +kernel
theorem dX0_drawOf_0 : decode cX0_drawOf 0 = .ok (.aload_n 0, 1) := by decide +kernel
theorem dX0_drawOf_1 : decode cX0_drawOf 1 = .ok (.aload_n 0, 1) := by decide +kernel
theorem dX0_drawOf_2 : decode cX0_drawOf 2 = .ok (.getfield 7, 3) := by decide +kernel
theorem dX0_drawOf_5 : decode cX0_drawOf 5 = .ok (.i2l, 1) := by decide +kernel
theorem dX0_drawOf_6 : decode cX0_drawOf 6 = .ok (.ldc2_w 13, 3) := by decide +kernel
theorem dX0_drawOf_9 : decode cX0_drawOf 9 = .ok (.lmul, 1) := by decide +kernel
theorem dX0_drawOf_10 : decode cX0_drawOf 10 = .ok (.ldc2_w 15, 3) := by decide +kernel
theorem dX0_drawOf_13 : decode cX0_drawOf 13 = .ok (.ladd, 1) := by decide +kernel
theorem dX0_drawOf_14 : decode cX0_drawOf 14 = .ok (.ldc2_w 17, 3) := by decide +kernel
theorem dX0_drawOf_17 : decode cX0_drawOf 17 = .ok (.lrem, 1) := by decide +kernel
theorem dX0_drawOf_18 : decode cX0_drawOf 18 = .ok (.l2i, 1) := by decide +kernel
theorem dX0_drawOf_19 : decode cX0_drawOf 19 = .ok (.putfield 7, 3) := by decide +kernel
theorem dX0_drawOf_22 : decode cX0_drawOf 22 = .ok (.iload_n 1, 1) := by decide +kernel
theorem dX0_drawOf_23 : decode cX0_drawOf 23 = .ok (.ifCond .le 15, 3) := by decide +kernel
theorem dX0_drawOf_26 : decode cX0_drawOf 26 = .ok (.aload_n 0, 1) := by decide +kernel
theorem dX0_drawOf_27 : decode cX0_drawOf 27 = .ok (.getfield 7, 3) := by decide +kernel
theorem dX0_drawOf_30 : decode cX0_drawOf 30 = .ok (.ldc 19, 2) := by decide +kernel
theorem dX0_drawOf_32 : decode cX0_drawOf 32 = .ok (.idiv, 1) := by decide +kernel
theorem dX0_drawOf_33 : decode cX0_drawOf 33 = .ok (.iload_n 1, 1) := by decide +kernel
theorem dX0_drawOf_34 : decode cX0_drawOf 34 = .ok (.irem, 1) := by decide +kernel
theorem dX0_drawOf_35 : decode cX0_drawOf 35 = .ok (.goto 4, 3) := by decide +kernel
theorem dX0_drawOf_38 : decode cX0_drawOf 38 = .ok (.iconst 0, 1) := by decide +kernel
theorem dX0_drawOf_39 : decode cX0_drawOf 39 = .ok (.ireturn, 1) := by decide +kernel
set_option maxRecDepth 20000 in
theorem ggX1_init_X4_init : GoodIn wsX1_init wsX4_init := goodIn_r _ [10, 11, 2, 3] (by decide +kernel) (by decide +kernel)
set_option maxRecDepth 20000 in
theorem gX1_init_X4_init : GoodIn wsX1_init (wsX4_init) := ggX1_init_X4_init
theorem dX1_init_0 : decode cX1_init 0 = .ok (.aload_n 0, 1) := by decide +kernel
theorem dX1_init_1 : decode cX1_init 1 = .ok (.invokespecial 1, 3) := by decide +kernel
theorem dX1_init_4 : decode cX1_init 4 = .ok (.aload_n 0, 1) := by decide +kernel
theorem dX1_init_5 : decode cX1_init 5 = .ok (.bipush 20, 2) := by decide +kernel
theorem dX1_init_7 : decode cX1_init 7 = .ok (.anewarray 9, 3) := by decide +kernel
theorem dX1_init_10 : decode cX1_init 10 = .ok (.putfield 11, 3) := by decide +kernel
theorem dX1_init_13 : decode cX1_init 13 = .ok (.iconst 0, 1) := by decide +kernel
theorem dX1_init_14 : decode cX1_init 14 = .ok (.istore_n 1, 1) := by decide +kernel
theorem dX1_init_15 : decode cX1_init 15 = .ok (.iload_n 1, 1) := by decide +kernel
theorem dX1_init_16 : decode cX1_init 16 = .ok (.aload_n 0, 1) := by decide +kernel
theorem dX1_init_17 : decode cX1_init 17 = .ok (.getfield 11, 3) := by decide +kernel
theorem dX1_init_20 : decode cX1_init 20 = .ok (.arraylength, 1) := by decide +kernel
theorem dX1_init_21 : decode cX1_init 21 = .ok (.if_icmp .ge 22, 3) := by decide +kernel
theorem dX1_init_24 : decode cX1_init 24 = .ok (.aload_n 0, 1) := by decide +kernel
theorem dX1_init_25 : decode cX1_init 25 = .ok (.getfield 11, 3) := by decide +kernel
theorem dX1_init_28 : decode cX1_init 28 = .ok (.iload_n 1, 1) := by decide +kernel
theorem dX1_init_29 : decode cX1_init 29 = .ok (.new 9, 3) := by decide +kernel
theorem dX1_init_32 : decode cX1_init 32 = .ok (.dup, 1) := by decide +kernel
theorem dX1_init_33 : decode cX1_init 33 = .ok (.invokespecial 15, 3) := by decide +kernel
theorem dX1_init_36 : decode cX1_init 36 = .ok (.aastore, 1) := by decide +kernel
theorem dX1_init_37 : decode cX1_init 37 = .ok (.iinc 1 1, 3) := by decide +kernel
theorem dX1_init_40 : decode cX1_init 40 = .ok (.goto (-25), 3) := by decide +kernel
theorem dX1_init_43 : decode cX1_init 43 = .ok (.return_, 1) := by decide +kernel
theorem dX1_clear_0 : decode cX1_clear 0 = .ok (.aload_n 0, 1) := by decide +kernel
theorem dX1_clear_1 : decode cX1_clear 1 = .ok (.iconst 0, 1) := by decide +kernel
theorem dX1_clear_2 : decode cX1_clear 2 = .ok (.putfield 16, 3) := by decide +kernel
theorem dX1_clear_5 : decode cX1_clear 5 = .ok (.return_, 1) := by decide +kernel
set_option maxRecDepth 20000 in
theorem ggX1_push_X1_slotAt : GoodIn wsX1_push wsX1_slotAt := goodIn_r _ [11, 12, 30, 31, 32] (by decide +kernel) (by decide +kernel)
set_option maxRecDepth 20000 in
theorem gX1_push_X1_slotAt : GoodIn wsX1_push (wsV RX1 23 RX1 yX1_slotAt wsX1_slotAt) := goodIn_app (goodIn_of _ (by decide +kernel)) ggX1_push_X1_slotAt
set_option maxRecDepth 20000 in
theorem ggX1_push_X4_copyFrom : GoodIn wsX1_push wsX4_copyFrom := goodIn_r _ [17, 18, 19, 20, 21, 22, 23, 24, 25, 26, 27, 28, 29, 33, 34, 35, 36, 37, 38, 39, 40, 41, 42, 43, 44] (by decide +kernel) (by decide +kernel)
set_option maxRecDepth 20000 in
theorem gX1_push_X4_copyFrom : GoodIn wsX1_push (wsV RX1 27 RX4 yX4_copyFrom wsX4_copyFrom) := goodIn_app (goodIn_of _ (by decide +kernel)) ggX1_push_X4_copyFrom
theorem dX1_push_0 : decode cX1_push 0 = .ok (.aload_n 0, 1) := by decide +kernel
theorem dX1_push_1 : decode cX1_push 1 = .ok (.aload_n 0, 1) := by decide +kernel
theorem dX1_push_2 : decode cX1_push 2 = .ok (.getfield 20, 3) := by decide +kernel
theorem dX1_push_5 : decode cX1_push 5 = .ok (.invokevirtual 23, 3) := by decide +kernel
theorem dX1_push_8 : decode cX1_push 8 = .ok (.astore_n 2, 1) := by decide +kernel
theorem dX1_push_9 : decode cX1_push 9 = .ok (.aload_n 2, 1) := by decide +kernel
theorem dX1_push_10 : decode cX1_push 10 = .ok (.ifnonnull 4, 3) := by decide +kernel
theorem dX1_push_13 : decode cX1_push 13 = .ok (.return_, 1) := by decide +kernel
theorem dX1_push_14 : decode cX1_push 14 = .ok (.aload_n 2, 1) := by decide +kernel
theorem dX1_push_15 : decode cX1_push 15 = .ok (.aload_n 1, 1) := by decide +kernel
theorem dX1_push_16 : decode cX1_push 16 = .ok (.invokevirtual 27, 3) := by decide +kernel
theorem dX1_push_19 : decode cX1_push 19 = .ok (.aload_n 0, 1) := by decide +kernel
theorem dX1_push_20 : decode cX1_push 20 = .ok (.aload_n 0, 1) := by decide +kernel
theorem dX1_push_21 : decode cX1_push 21 = .ok (.getfield 20, 3) := by decide +kernel
theorem dX1_push_24 : decode cX1_push 24 = .ok (.iconst 1, 1) := by decide +kernel
theorem dX1_push_25 : decode cX1_push 25 = .ok (.iadd, 1) := by decide +kernel
theorem dX1_push_26 : decode cX1_push 26 = .ok (.bipush 20, 2) := by decide +kernel
theorem dX1_push_28 : decode cX1_push 28 = .ok (.irem, 1) := by decide +kernel
theorem dX1_push_29 : decode cX1_push 29 = .ok (.putfield 20, 3) := by decide +kernel
theorem dX1_push_32 : decode cX1_push 32 = .ok (.aload_n 0, 1) := by decide +kernel
theorem dX1_push_33 : decode cX1_push 33 = .ok (.aload_n 0, 1) := by decide +kernel
theorem dX1_push_34 : decode cX1_push 34 = .ok (.getfield 16, 3) := by decide +kernel
theorem dX1_push_37 : decode cX1_push 37 = .ok (.iconst 1, 1) := by decide +kernel
theorem dX1_push_38 : decode cX1_push 38 = .ok (.iadd, 1) := by decide +kernel
theorem dX1_push_39 : decode cX1_push 39 = .ok (.bipush 20, 2) := by decide +kernel
theorem dX1_push_41 : decode cX1_push 41 = .ok (.invokestatic 31, 3) := by decide +kernel
theorem dX1_push_44 : decode cX1_push 44 = .ok (.putfield 16, 3) := by decide +kernel
theorem dX1_push_47 : decode cX1_push 47 = .ok (.return_, 1) := by decide +kernel
set_option maxRecDepth 20000 in
theorem ggX1_popInto_X1_slotAt : GoodIn wsX1_popInto wsX1_slotAt := goodIn_r _ [7, 8, 26, 27, 28] (by decide +kernel) (by decide +kernel)
set_option maxRecDepth 20000 in
theorem gX1_popInto_X1_slotAt : GoodIn wsX1_popInto (wsV RX1 23 RX1 yX1_slotAt wsX1_slotAt) := goodIn_app (goodIn_of _ (by decide +kernel)) ggX1_popInto_X1_slotAt
set_option maxRecDepth 20000 in
theorem ggX1_popInto_X4_copyFrom : GoodIn wsX1_popInto wsX4_copyFrom := goodIn_r _ [13, 14, 15, 16, 17, 18, 19, 20, 21, 22, 23, 24, 25, 29, 30, 31, 32, 33, 34, 35, 36, 37, 38, 39, 40] (by decide +kernel) (by decide +kernel)
set_option maxRecDepth 20000 in
theorem gX1_popInto_X4_copyFrom : GoodIn wsX1_popInto (wsV RX1 27 RX4 yX4_copyFrom wsX4_copyFrom) := goodIn_app (goodIn_of _ (by decide +kernel)) ggX1_popInto_X4_copyFrom
theorem dX1_popInto_0 : decode cX1_popInto 0 = .ok (.aload_n 0, 1) := by decide +kernel
theorem dX1_popInto_1 : decode cX1_popInto 1 = .ok (.getfield 20, 3) := by decide +kernel
theorem dX1_popInto_4 : decode cX1_popInto 4 = .ok (.bipush 20, 2) := by decide +kernel
theorem dX1_popInto_6 : decode cX1_popInto 6 = .ok (.iadd, 1) := by decide +kernel
theorem dX1_popInto_7 : decode cX1_popInto 7 = .ok (.iconst 1, 1) := by decide +kernel
theorem dX1_popInto_8 : decode cX1_popInto 8 = .ok (.isub, 1) := by decide +kernel
theorem dX1_popInto_9 : decode cX1_popInto 9 = .ok (.bipush 20, 2) := by decide +kernel
theorem dX1_popInto_11 : decode cX1_popInto 11 = .ok (.irem, 1) := by decide +kernel
theorem dX1_popInto_12 : decode cX1_popInto 12 = .ok (.istore_n 2, 1) := by decide +kernel
theorem dX1_popInto_13 : decode cX1_popInto 13 = .ok (.aload_n 0, 1) := by decide +kernel
theorem dX1_popInto_14 : decode cX1_popInto 14 = .ok (.iload_n 2, 1) := by decide +kernel
theorem dX1_popInto_15 : decode cX1_popInto 15 = .ok (.invokevirtual 23, 3) := by decide +kernel
theorem dX1_popInto_18 : decode cX1_popInto 18 = .ok (.astore_n 3, 1) := by decide +kernel
theorem dX1_popInto_19 : decode cX1_popInto 19 = .ok (.aload_n 0, 1) := by decide +kernel
theorem dX1_popInto_20 : decode cX1_popInto 20 = .ok (.getfield 16, 3) := by decide +kernel
theorem dX1_popInto_23 : decode cX1_popInto 23 = .ok (.iconst 1, 1) := by decide +kernel
theorem dX1_popInto_24 : decode cX1_popInto 24 = .ok (.if_icmp .lt 7, 3) := by decide +kernel
theorem dX1_popInto_27 : decode cX1_popInto 27 = .ok (.aload_n 3, 1) := by decide +kernel
theorem dX1_popInto_28 : decode cX1_popInto 28 = .ok (.ifnonnull 5, 3) := by decide +kernel
theorem dX1_popInto_31 : decode cX1_popInto 31 = .ok (.iconst 0, 1) := by decide +kernel
theorem dX1_popInto_32 : decode cX1_popInto 32 = .ok (.ireturn, 1) := by decide +kernel
theorem dX1_popInto_33 : decode cX1_popInto 33 = .ok (.aload_n 1, 1) := by decide +kernel
theorem dX1_popInto_34 : decode cX1_popInto 34 = .ok (.aload_n 3, 1) := by decide +kernel
theorem dX1_popInto_35 : decode cX1_popInto 35 = .ok (.invokevirtual 27, 3) := by decide +kernel
theorem dX1_popInto_38 : decode cX1_popInto 38 = .ok (.aload_n 0, 1) := by decide +kernel
theorem dX1_popInto_39 : decode cX1_popInto 39 = .ok (.iload_n 2, 1) := by decide +kernel
theorem dX1_popInto_40 : decode cX1_popInto 40 = .ok (.putfield 20, 3) := by decide +kernel
theorem dX1_popInto_43 : decode cX1_popInto 43 = .ok (.aload_n 0, 1) := by decide +kernel
theorem dX1_popInto_44 : decode cX1_popInto 44 = .ok (.dup, 1) := by decide +kernel
theorem dX1_popInto_45 : decode cX1_popInto 45 = .ok (.getfield 16, 3) := by decide +kernel
theorem dX1_popInto_48 : decode cX1_popInto 48 = .ok (.iconst 1, 1) := by decide +kernel
theorem dX1_popInto_49 : decode cX1_popInto 49 = .ok (.isub, 1) := by decide +kernel
theorem dX1_popInto_50 : decode cX1_popInto 50 = .ok (.putfield 16, 3) := by decide +kernel
theorem dX1_popInto_53 : decode cX1_popInto 53 = .ok (.iconst 1, 1) := by decide +kernel
theorem dX1_popInto_54 : decode cX1_popInto 54 = .ok (.ireturn, 1) := by decide +kernel
theorem dX1_slotAt_0 : decode cX1_slotAt 0 = .ok (.iload_n 1, 1) := by decide +kernel
theorem dX1_slotAt_1 : decode cX1_slotAt 1 = .ok (.ifCond .lt 21, 3) := by decide +kernel
theorem dX1_slotAt_4 : decode cX1_slotAt 4 = .ok (.iload_n 1, 1) := by decide +kernel
theorem dX1_slotAt_5 : decode cX1_slotAt 5 = .ok (.aload_n 0, 1) := by decide +kernel
theorem dX1_slotAt_6 : decode cX1_slotAt 6 = .ok (.getfield 11, 3) := by decide +kernel
theorem dX1_slotAt_9 : decode cX1_slotAt 9 = .ok (.arraylength, 1) := by decide +kernel
theorem dX1_slotAt_10 : decode cX1_slotAt 10 = .ok (.if_icmp .ge 12, 3) := by decide +kernel
theorem dX1_slotAt_13 : decode cX1_slotAt 13 = .ok (.aload_n 0, 1) := by decide +kernel
theorem dX1_slotAt_14 : decode cX1_slotAt 14 = .ok (.getfield 11, 3) := by decide +kernel
theorem dX1_slotAt_17 : decode cX1_slotAt 17 = .ok (.iload_n 1, 1) := by decide +kernel
theorem dX1_slotAt_18 : decode cX1_slotAt 18 = .ok (.aaload, 1) := by decide +kernel
theorem dX1_slotAt_19 : decode cX1_slotAt 19 = .ok (.goto 4, 3) := by decide +kernel
theorem dX1_slotAt_22 : decode cX1_slotAt 22 = .ok (.aconst_null, 1) := by decide +kernel
theorem dX1_slotAt_23 : decode cX1_slotAt 23 = .ok (.areturn, 1) := by decide +kernel
set_option maxRecDepth 20000 in
theorem ggX2_init_X4_init : GoodIn wsX2_init wsX4_init := goodIn_r _ [10, 11, 2, 3] (by decide +kernel) (by decide +kernel)
set_option maxRecDepth 20000 in
theorem gX2_init_X4_init : GoodIn wsX2_init (wsX4_init) := ggX2_init_X4_init
theorem dX2_init_0 : decode cX2_init 0 = .ok (.aload_n 0, 1) := by decide +kernel
theorem dX2_init_1 : decode cX2_init 1 = .ok (.invokespecial 1, 3) := by decide +kernel
theorem dX2_init_4 : decode cX2_init 4 = .ok (.aload_n 0, 1) := by decide +kernel
theorem dX2_init_5 : decode cX2_init 5 = .ok (.new 7, 3) := by decide +kernel
theorem dX2_init_8 : decode cX2_init 8 = .ok (.dup, 1) := by decide +kernel
theorem dX2_init_9 : decode cX2_init 9 = .ok (.invokespecial 9, 3) := by decide +kernel
theorem dX2_init_12 : decode cX2_init 12 = .ok (.putfield 10, 3) := by decide +kernel
theorem dX2_init_15 : decode cX2_init 15 = .ok (.return_, 1) := by decide +kernel
set_option maxRecDepth 20000 in
theorem ggX3_init_X3_clear : GoodIn wsX3_init wsX3_clear := goodIn_r _ [12, 13, 14, 15, 16, 17, 18, 19, 20, 21, 22, 23, 11, 24, 5, 25, 26, 27, 28, 29, 30, 31, 32, 33, 34, 35, 36, 37] (by decide +kernel) (by decide +kernel)
set_option maxRecDepth 20000 in
theorem gX3_init_X3_clear : GoodIn wsX3_init (wsV RX3 21 RX3 yX3_clear wsX3_clear) := goodIn_app (goodIn_of _ (by decide +kernel)) ggX3_init_X3_clear
theorem dX3_init_0 : decode cX3_init 0 = .ok (.aload_n 0, 1) := by decide +kernel
theorem dX3_init_1 : decode cX3_init 1 = .ok (.invokespecial 3, 3) := by decide +kernel
theorem dX3_init_4 : decode cX3_init 4 = .ok (.aload_n 0, 1) := by decide +kernel
theorem dX3_init_5 : decode cX3_init 5 = .ok (.bipush 9, 2) := by decide +kernel
theorem dX3_init_7 : decode cX3_init 7 = .ok (.newarray .int, 2) := by decide +kernel
theorem dX3_init_9 : decode cX3_init 9 = .ok (.putfield 11, 3) := by decide +kernel
theorem dX3_init_12 : decode cX3_init 12 = .ok (.aload_n 0, 1) := by decide +kernel
theorem dX3_init_13 : decode cX3_init 13 = .ok (.bipush 6, 2) := by decide +kernel
theorem dX3_init_15 : decode cX3_init 15 = .ok (.newarray .int, 2) := by decide +kernel
theorem dX3_init_17 : decode cX3_init 17 = .ok (.putfield 15, 3) := by decide +kernel
theorem dX3_init_20 : decode cX3_init 20 = .ok (.aload_n 0, 1) := by decide +kernel
theorem dX3_init_21 : decode cX3_init 21 = .ok (.bipush 6, 2) := by decide +kernel
theorem dX3_init_23 : decode cX3_init 23 = .ok (.newarray .int, 2) := by decide +kernel
theorem dX3_init_25 : decode cX3_init 25 = .ok (.putfield 18, 3) := by decide +kernel
theorem dX3_init_28 : decode cX3_init 28 = .ok (.aload_n 0, 1) := by decide +kernel
theorem dX3_init_29 : decode cX3_init 29 = .ok (.invokevirtual 21, 3) := by decide +kernel
theorem dX3_init_32 : decode cX3_init 32 = .ok (.return_, 1) := by decide +kernel
set_option maxRecDepth 20000 in
theorem ggX3_clear_X3_setWorm : GoodIn wsX3_clear wsX3_setWorm := goodIn_r _ [13, 14, 15, 16, 17, 18, 19, 20, 21, 22, 23, 24, 25, 26, 27] (by decide +kernel) (by decide +kernel)
set_option maxRecDepth 20000 in
theorem gX3_clear_X3_setWorm : GoodIn wsX3_clear (wsV RX3 38 RX3 yX3_setWorm wsX3_setWorm) := goodIn_app (goodIn_of _ (by decide +kernel)) ggX3_clear_X3_setWorm
theorem dX3_clear_0 : decode cX3_clear 0 = .ok (.aload_n 0, 1) := by decide +kernel
theorem dX3_clear_1 : decode cX3_clear 1 = .ok (.iconst 0, 1) := by decide +kernel
theorem dX3_clear_2 : decode cX3_clear 2 = .ok (.putfield 24, 3) := by decide +kernel
theorem dX3_clear_5 : decode cX3_clear 5 = .ok (.aload_n 0, 1) := by decide +kernel
theorem dX3_clear_6 : decode cX3_clear 6 = .ok (.iconst 0, 1) := by decide +kernel
theorem dX3_clear_7 : decode cX3_clear 7 = .ok (.putfield 28, 3) := by decide +kernel
theorem dX3_clear_10 : decode cX3_clear 10 = .ok (.aload_n 0, 1) := by decide +kernel
theorem dX3_clear_11 : decode cX3_clear 11 = .ok (.iconst 0, 1) := by decide +kernel
theorem dX3_clear_12 : decode cX3_clear 12 = .ok (.putfield 32, 3) := by decide +kernel
theorem dX3_clear_15 : decode cX3_clear 15 = .ok (.aload_n 0, 1) := by decide +kernel
theorem dX3_clear_16 : decode cX3_clear 16 = .ok (.iconst 0, 1) := by decide +kernel
theorem dX3_clear_17 : decode cX3_clear 17 = .ok (.putfield 35, 3) := by decide +kernel
theorem dX3_clear_20 : decode cX3_clear 20 = .ok (.aload_n 0, 1) := by decide +kernel
theorem dX3_clear_21 : decode cX3_clear 21 = .ok (.iconst 0, 1) := by decide +kernel
theorem dX3_clear_22 : decode cX3_clear 22 = .ok (.iconst 0, 1) := by decide +kernel
theorem dX3_clear_23 : decode cX3_clear 23 = .ok (.invokevirtual 38, 3) := by decide +kernel
theorem dX3_clear_26 : decode cX3_clear 26 = .ok (.aload_n 0, 1) := by decide +kernel
theorem dX3_clear_27 : decode cX3_clear 27 = .ok (.iconst (-1), 1) := by decide +kernel
theorem dX3_clear_28 : decode cX3_clear 28 = .ok (.putfield 42, 3) := by decide +kernel
theorem dX3_clear_31 : decode cX3_clear 31 = .ok (.aload_n 0, 1) := by decide +kernel
theorem dX3_clear_32 : decode cX3_clear 32 = .ok (.iconst 0, 1) := by decide +kernel
theorem dX3_clear_33 : decode cX3_clear 33 = .ok (.putfield 45, 3) := by decide +kernel
theorem dX3_clear_36 : decode cX3_clear 36 = .ok (.aload_n 0, 1) := by decide +kernel
theorem dX3_clear_37 : decode cX3_clear 37 = .ok (.iconst 1, 1) := by decide +kernel
theorem dX3_clear_38 : decode cX3_clear 38 = .ok (.putfield 48, 3) := by decide +kernel
theorem dX3_clear_41 : decode cX3_clear 41 = .ok (.aload_n 0, 1) := by decide +kernel
theorem dX3_clear_42 : decode cX3_clear 42 = .ok (.iconst 0, 1) := by decide +kernel
theorem dX3_clear_43 : decode cX3_clear 43 = .ok (.putfield 51, 3) := by decide +kernel
theorem dX3_clear_46 : decode cX3_clear 46 = .ok (.return_, 1) := by decide +kernel
set_option maxRecDepth 20000 in
theorem ggX3_copyFrom_X3_wormAt : GoodIn wsX3_copyFrom wsX3_wormAt := goodIn_r _ [17, 10, 26, 27, 28, 29, 30, 31, 32, 33, 34, 35, 36, 37] (by decide +kernel) (by decide +kernel)
set_option maxRecDepth 20000 in
theorem gX3_copyFrom_X3_wormAt : GoodIn wsX3_copyFrom (wsV RX3 57 RX3 yX3_wormAt wsX3_wormAt) := goodIn_app (goodIn_of _ (by decide +kernel)) ggX3_copyFrom_X3_wormAt
set_option maxRecDepth 20000 in
theorem ggX3_copyFrom_X3_hairsOf : GoodIn wsX3_copyFrom wsX3_hairsOf := goodIn_r _ [21, 11, 26, 27, 28, 29, 30, 31, 32, 33, 34, 35, 36, 37] (by decide +kernel) (by decide +kernel)
set_option maxRecDepth 20000 in
theorem gX3_copyFrom_X3_hairsOf : GoodIn wsX3_copyFrom (wsV RX3 61 RX3 yX3_hairsOf wsX3_hairsOf) := goodIn_app (goodIn_of _ (by decide +kernel)) ggX3_copyFrom_X3_hairsOf
set_option maxRecDepth 20000 in
theorem ggX3_copyFrom_X3_lightOf : GoodIn wsX3_copyFrom wsX3_lightOf := goodIn_r _ [25, 12, 26, 27, 28, 29, 30, 31, 32, 33, 34, 35, 36, 37] (by decide +kernel) (by decide +kernel)
set_option maxRecDepth 20000 in
theorem gX3_copyFrom_X3_lightOf : GoodIn wsX3_copyFrom (wsV RX3 64 RX3 yX3_lightOf wsX3_lightOf) := goodIn_app (goodIn_of _ (by decide +kernel)) ggX3_copyFrom_X3_lightOf
theorem dX3_copyFrom_0 : decode cX3_copyFrom 0 = .ok (.aload_n 0, 1) := by decide +kernel
theorem dX3_copyFrom_1 : decode cX3_copyFrom 1 = .ok (.aload_n 1, 1) := by decide +kernel
theorem dX3_copyFrom_2 : decode cX3_copyFrom 2 = .ok (.getfield 24, 3) := by decide +kernel
theorem dX3_copyFrom_5 : decode cX3_copyFrom 5 = .ok (.putfield 24, 3) := by decide +kernel
theorem dX3_copyFrom_8 : decode cX3_copyFrom 8 = .ok (.aload_n 0, 1) := by decide +kernel
theorem dX3_copyFrom_9 : decode cX3_copyFrom 9 = .ok (.aload_n 1, 1) := by decide +kernel
theorem dX3_copyFrom_10 : decode cX3_copyFrom 10 = .ok (.getfield 28, 3) := by decide +kernel
theorem dX3_copyFrom_13 : decode cX3_copyFrom 13 = .ok (.putfield 28, 3) := by decide +kernel
theorem dX3_copyFrom_16 : decode cX3_copyFrom 16 = .ok (.aload_n 0, 1) := by decide +kernel
theorem dX3_copyFrom_17 : decode cX3_copyFrom 17 = .ok (.aload_n 1, 1) := by decide +kernel
theorem dX3_copyFrom_18 : decode cX3_copyFrom 18 = .ok (.getfield 32, 3) := by decide +kernel
theorem dX3_copyFrom_21 : decode cX3_copyFrom 21 = .ok (.putfield 32, 3) := by decide +kernel
theorem dX3_copyFrom_24 : decode cX3_copyFrom 24 = .ok (.aload_n 0, 1) := by decide +kernel
theorem dX3_copyFrom_25 : decode cX3_copyFrom 25 = .ok (.aload_n 1, 1) := by decide +kernel
theorem dX3_copyFrom_26 : decode cX3_copyFrom 26 = .ok (.getfield 35, 3) := by decide +kernel
theorem dX3_copyFrom_29 : decode cX3_copyFrom 29 = .ok (.putfield 35, 3) := by decide +kernel
theorem dX3_copyFrom_32 : decode cX3_copyFrom 32 = .ok (.aload_n 0, 1) := by decide +kernel
theorem dX3_copyFrom_33 : decode cX3_copyFrom 33 = .ok (.aload_n 1, 1) := by decide +kernel
theorem dX3_copyFrom_34 : decode cX3_copyFrom 34 = .ok (.getfield 54, 3) := by decide +kernel
theorem dX3_copyFrom_37 : decode cX3_copyFrom 37 = .ok (.putfield 54, 3) := by decide +kernel
theorem dX3_copyFrom_40 : decode cX3_copyFrom 40 = .ok (.aload_n 0, 1) := by decide +kernel
theorem dX3_copyFrom_41 : decode cX3_copyFrom 41 = .ok (.aload_n 1, 1) := by decide +kernel
theorem dX3_copyFrom_42 : decode cX3_copyFrom 42 = .ok (.getfield 42, 3) := by decide +kernel
theorem dX3_copyFrom_45 : decode cX3_copyFrom 45 = .ok (.putfield 42, 3) := by decide +kernel
theorem dX3_copyFrom_48 : decode cX3_copyFrom 48 = .ok (.aload_n 0, 1) := by decide +kernel
theorem dX3_copyFrom_49 : decode cX3_copyFrom 49 = .ok (.aload_n 1, 1) := by decide +kernel
theorem dX3_copyFrom_50 : decode cX3_copyFrom 50 = .ok (.getfield 45, 3) := by decide +kernel
theorem dX3_copyFrom_53 : decode cX3_copyFrom 53 = .ok (.putfield 45, 3) := by decide +kernel
theorem dX3_copyFrom_56 : decode cX3_copyFrom 56 = .ok (.aload_n 0, 1) := by decide +kernel
theorem dX3_copyFrom_57 : decode cX3_copyFrom 57 = .ok (.aload_n 1, 1) := by decide +kernel
theorem dX3_copyFrom_58 : decode cX3_copyFrom 58 = .ok (.getfield 48, 3) := by decide +kernel
theorem dX3_copyFrom_61 : decode cX3_copyFrom 61 = .ok (.putfield 48, 3) := by decide +kernel
theorem dX3_copyFrom_64 : decode cX3_copyFrom 64 = .ok (.aload_n 0, 1) := by decide +kernel
theorem dX3_copyFrom_65 : decode cX3_copyFrom 65 = .ok (.aload_n 1, 1) := by decide +kernel
theorem dX3_copyFrom_66 : decode cX3_copyFrom 66 = .ok (.getfield 51, 3) := by decide +kernel
theorem dX3_copyFrom_69 : decode cX3_copyFrom 69 = .ok (.putfield 51, 3) := by decide +kernel
theorem dX3_copyFrom_72 : decode cX3_copyFrom 72 = .ok (.iconst 0, 1) := by decide +kernel
theorem dX3_copyFrom_73 : decode cX3_copyFrom 73 = .ok (.istore_n 2, 1) := by decide +kernel
theorem dX3_copyFrom_74 : decode cX3_copyFrom 74 = .ok (.iload_n 2, 1) := by decide +kernel
theorem dX3_copyFrom_75 : decode cX3_copyFrom 75 = .ok (.aload_n 0, 1) := by decide +kernel
theorem dX3_copyFrom_76 : decode cX3_copyFrom 76 = .ok (.getfield 11, 3) := by decide +kernel
theorem dX3_copyFrom_79 : decode cX3_copyFrom 79 = .ok (.arraylength, 1) := by decide +kernel
theorem dX3_copyFrom_80 : decode cX3_copyFrom 80 = .ok (.if_icmp .ge 20, 3) := by decide +kernel
theorem dX3_copyFrom_83 : decode cX3_copyFrom 83 = .ok (.aload_n 0, 1) := by decide +kernel
theorem dX3_copyFrom_84 : decode cX3_copyFrom 84 = .ok (.getfield 11, 3) := by decide +kernel
theorem dX3_copyFrom_87 : decode cX3_copyFrom 87 = .ok (.iload_n 2, 1) := by decide +kernel
theorem dX3_copyFrom_88 : decode cX3_copyFrom 88 = .ok (.aload_n 1, 1) := by decide +kernel
theorem dX3_copyFrom_89 : decode cX3_copyFrom 89 = .ok (.iload_n 2, 1) := by decide +kernel
theorem dX3_copyFrom_90 : decode cX3_copyFrom 90 = .ok (.invokevirtual 57, 3) := by decide +kernel
theorem dX3_copyFrom_93 : decode cX3_copyFrom 93 = .ok (.iastore, 1) := by decide +kernel
theorem dX3_copyFrom_94 : decode cX3_copyFrom 94 = .ok (.iinc 2 1, 3) := by decide +kernel
theorem dX3_copyFrom_97 : decode cX3_copyFrom 97 = .ok (.goto (-23), 3) := by decide +kernel
theorem dX3_copyFrom_100 : decode cX3_copyFrom 100 = .ok (.iconst 0, 1) := by decide +kernel
theorem dX3_copyFrom_101 : decode cX3_copyFrom 101 = .ok (.istore_n 2, 1) := by decide +kernel
theorem dX3_copyFrom_102 : decode cX3_copyFrom 102 = .ok (.iload_n 2, 1) := by decide +kernel
theorem dX3_copyFrom_103 : decode cX3_copyFrom 103 = .ok (.aload_n 0, 1) := by decide +kernel
theorem dX3_copyFrom_104 : decode cX3_copyFrom 104 = .ok (.getfield 15, 3) := by decide +kernel
theorem dX3_copyFrom_107 : decode cX3_copyFrom 107 = .ok (.arraylength, 1) := by decide +kernel
theorem dX3_copyFrom_108 : decode cX3_copyFrom 108 = .ok (.if_icmp .ge 40, 3) := by decide +kernel
theorem dX3_copyFrom_111 : decode cX3_copyFrom 111 = .ok (.iload_n 2, 1) := by decide +kernel
theorem dX3_copyFrom_112 : decode cX3_copyFrom 112 = .ok (.aload_n 0, 1) := by decide +kernel
theorem dX3_copyFrom_113 : decode cX3_copyFrom 113 = .ok (.getfield 18, 3) := by decide +kernel
theorem dX3_copyFrom_116 : decode cX3_copyFrom 116 = .ok (.arraylength, 1) := by decide +kernel
theorem dX3_copyFrom_117 : decode cX3_copyFrom 117 = .ok (.if_icmp .ge 31, 3) := by decide +kernel
theorem dX3_copyFrom_120 : decode cX3_copyFrom 120 = .ok (.aload_n 0, 1) := by decide +kernel
theorem dX3_copyFrom_121 : decode cX3_copyFrom 121 = .ok (.getfield 15, 3) := by decide +kernel
theorem dX3_copyFrom_124 : decode cX3_copyFrom 124 = .ok (.iload_n 2, 1) := by decide +kernel
theorem dX3_copyFrom_125 : decode cX3_copyFrom 125 = .ok (.aload_n 1, 1) := by decide +kernel
theorem dX3_copyFrom_126 : decode cX3_copyFrom 126 = .ok (.iload_n 2, 1) := by decide +kernel
theorem dX3_copyFrom_127 : decode cX3_copyFrom 127 = .ok (.invokevirtual 61, 3) := by decide +kernel
theorem dX3_copyFrom_130 : decode cX3_copyFrom 130 = .ok (.iastore, 1) := by decide +kernel
theorem dX3_copyFrom_131 : decode cX3_copyFrom 131 = .ok (.aload_n 0, 1) := by decide +kernel
theorem dX3_copyFrom_132 : decode cX3_copyFrom 132 = .ok (.getfield 18, 3) := by decide +kernel
theorem dX3_copyFrom_135 : decode cX3_copyFrom 135 = .ok (.iload_n 2, 1) := by decide +kernel
theorem dX3_copyFrom_136 : decode cX3_copyFrom 136 = .ok (.aload_n 1, 1) := by decide +kernel
theorem dX3_copyFrom_137 : decode cX3_copyFrom 137 = .ok (.iload_n 2, 1) := by decide +kernel
theorem dX3_copyFrom_138 : decode cX3_copyFrom 138 = .ok (.invokevirtual 64, 3) := by decide +kernel
theorem dX3_copyFrom_141 : decode cX3_copyFrom 141 = .ok (.iastore, 1) := by decide +kernel
theorem dX3_copyFrom_142 : decode cX3_copyFrom 142 = .ok (.iinc 2 1, 3) := by decide +kernel
theorem dX3_copyFrom_145 : decode cX3_copyFrom 145 = .ok (.goto (-43), 3) := by decide +kernel
theorem dX3_copyFrom_148 : decode cX3_copyFrom 148 = .ok (.return_, 1) := by decide +kernel
theorem dX3_setWorm_0 : decode cX3_setWorm 0 = .ok (.iload_n 1, 1) := by decide +kernel
theorem dX3_setWorm_1 : decode cX3_setWorm 1 = .ok (.ifCond .lt 26, 3) := by decide +kernel
theorem dX3_setWorm_4 : decode cX3_setWorm 4 = .ok (.iload_n 1, 1) := by decide +kernel
theorem dX3_setWorm_5 : decode cX3_setWorm 5 = .ok (.aload_n 0, 1) := by decide +kernel
theorem dX3_setWorm_6 : decode cX3_setWorm 6 = .ok (.getfield 11, 3) := by decide +kernel
theorem dX3_setWorm_9 : decode cX3_setWorm 9 = .ok (.arraylength, 1) := by decide +kernel
theorem dX3_setWorm_10 : decode cX3_setWorm 10 = .ok (.if_icmp .ge 17, 3) := by decide +kernel
theorem dX3_setWorm_13 : decode cX3_setWorm 13 = .ok (.aload_n 0, 1) := by decide +kernel
theorem dX3_setWorm_14 : decode cX3_setWorm 14 = .ok (.getfield 11, 3) := by decide +kernel
theorem dX3_setWorm_17 : decode cX3_setWorm 17 = .ok (.iload_n 1, 1) := by decide +kernel
theorem dX3_setWorm_18 : decode cX3_setWorm 18 = .ok (.iload_n 2, 1) := by decide +kernel
theorem dX3_setWorm_19 : decode cX3_setWorm 19 = .ok (.iastore, 1) := by decide +kernel
theorem dX3_setWorm_20 : decode cX3_setWorm 20 = .ok (.aload_n 0, 1) := by decide +kernel
theorem dX3_setWorm_21 : decode cX3_setWorm 21 = .ok (.iload_n 1, 1) := by decide +kernel
theorem dX3_setWorm_22 : decode cX3_setWorm 22 = .ok (.iconst 1, 1) := by decide +kernel
theorem dX3_setWorm_23 : decode cX3_setWorm 23 = .ok (.iadd, 1) := by decide +kernel
theorem dX3_setWorm_24 : decode cX3_setWorm 24 = .ok (.putfield 54, 3) := by decide +kernel
theorem dX3_setWorm_27 : decode cX3_setWorm 27 = .ok (.return_, 1) := by decide +kernel
theorem dX3_wormAt_0 : decode cX3_wormAt 0 = .ok (.iload_n 1, 1) := by decide +kernel
theorem dX3_wormAt_1 : decode cX3_wormAt 1 = .ok (.ifCond .lt 21, 3) := by decide +kernel
theorem dX3_wormAt_4 : decode cX3_wormAt 4 = .ok (.iload_n 1, 1) := by decide +kernel
theorem dX3_wormAt_5 : decode cX3_wormAt 5 = .ok (.aload_n 0, 1) := by decide +kernel
theorem dX3_wormAt_6 : decode cX3_wormAt 6 = .ok (.getfield 11, 3) := by decide +kernel
theorem dX3_wormAt_9 : decode cX3_wormAt 9 = .ok (.arraylength, 1) := by decide +kernel
theorem dX3_wormAt_10 : decode cX3_wormAt 10 = .ok (.if_icmp .ge 12, 3) := by decide +kernel
theorem dX3_wormAt_13 : decode cX3_wormAt 13 = .ok (.aload_n 0, 1) := by decide +kernel
theorem dX3_wormAt_14 : decode cX3_wormAt 14 = .ok (.getfield 11, 3) := by decide +kernel
theorem dX3_wormAt_17 : decode cX3_wormAt 17 = .ok (.iload_n 1, 1) := by decide +kernel
theorem dX3_wormAt_18 : decode cX3_wormAt 18 = .ok (.iaload, 1) := by decide +kernel
theorem dX3_wormAt_19 : decode cX3_wormAt 19 = .ok (.goto 4, 3) := by decide +kernel
theorem dX3_wormAt_22 : decode cX3_wormAt 22 = .ok (.iconst 0, 1) := by decide +kernel
theorem dX3_wormAt_23 : decode cX3_wormAt 23 = .ok (.ireturn, 1) := by decide +kernel
theorem dX3_addStar_0 : decode cX3_addStar 0 = .ok (.aload_n 0, 1) := by decide +kernel
theorem dX3_addStar_1 : decode cX3_addStar 1 = .ok (.getfield 51, 3) := by decide +kernel
theorem dX3_addStar_4 : decode cX3_addStar 4 = .ok (.ifCond .lt 57, 3) := by decide +kernel
theorem dX3_addStar_7 : decode cX3_addStar 7 = .ok (.aload_n 0, 1) := by decide +kernel
theorem dX3_addStar_8 : decode cX3_addStar 8 = .ok (.getfield 51, 3) := by decide +kernel
theorem dX3_addStar_11 : decode cX3_addStar 11 = .ok (.aload_n 0, 1) := by decide +kernel
theorem dX3_addStar_12 : decode cX3_addStar 12 = .ok (.getfield 15, 3) := by decide +kernel
theorem dX3_addStar_15 : decode cX3_addStar 15 = .ok (.arraylength, 1) := by decide +kernel
theorem dX3_addStar_16 : decode cX3_addStar 16 = .ok (.if_icmp .ge 45, 3) := by decide +kernel
theorem dX3_addStar_19 : decode cX3_addStar 19 = .ok (.aload_n 0, 1) := by decide +kernel
theorem dX3_addStar_20 : decode cX3_addStar 20 = .ok (.getfield 51, 3) := by decide +kernel
theorem dX3_addStar_23 : decode cX3_addStar 23 = .ok (.aload_n 0, 1) := by decide +kernel
theorem dX3_addStar_24 : decode cX3_addStar 24 = .ok (.getfield 18, 3) := by decide +kernel
theorem dX3_addStar_27 : decode cX3_addStar 27 = .ok (.arraylength, 1) := by decide +kernel
theorem dX3_addStar_28 : decode cX3_addStar 28 = .ok (.if_icmp .ge 33, 3) := by decide +kernel
theorem dX3_addStar_31 : decode cX3_addStar 31 = .ok (.aload_n 0, 1) := by decide +kernel
theorem dX3_addStar_32 : decode cX3_addStar 32 = .ok (.getfield 15, 3) := by decide +kernel
theorem dX3_addStar_35 : decode cX3_addStar 35 = .ok (.aload_n 0, 1) := by decide +kernel
theorem dX3_addStar_36 : decode cX3_addStar 36 = .ok (.getfield 51, 3) := by decide +kernel
theorem dX3_addStar_39 : decode cX3_addStar 39 = .ok (.iload_n 1, 1) := by decide +kernel
theorem dX3_addStar_40 : decode cX3_addStar 40 = .ok (.iastore, 1) := by decide +kernel
theorem dX3_addStar_41 : decode cX3_addStar 41 = .ok (.aload_n 0, 1) := by decide +kernel
theorem dX3_addStar_42 : decode cX3_addStar 42 = .ok (.getfield 18, 3) := by decide +kernel
theorem dX3_addStar_45 : decode cX3_addStar 45 = .ok (.aload_n 0, 1) := by decide +kernel
theorem dX3_addStar_46 : decode cX3_addStar 46 = .ok (.getfield 51, 3) := by decide +kernel
theorem dX3_addStar_49 : decode cX3_addStar 49 = .ok (.iload_n 2, 1) := by decide +kernel
theorem dX3_addStar_50 : decode cX3_addStar 50 = .ok (.iastore, 1) := by decide +kernel
theorem dX3_addStar_51 : decode cX3_addStar 51 = .ok (.aload_n 0, 1) := by decide +kernel
theorem dX3_addStar_52 : decode cX3_addStar 52 = .ok (.dup, 1) := by decide +kernel
theorem dX3_addStar_53 : decode cX3_addStar 53 = .ok (.getfield 51, 3) := by decide +kernel
theorem dX3_addStar_56 : decode cX3_addStar 56 = .ok (.iconst 1, 1) := by decide +kernel
theorem dX3_addStar_57 : decode cX3_addStar 57 = .ok (.iadd, 1) := by decide +kernel
theorem dX3_addStar_58 : decode cX3_addStar 58 = .ok (.putfield 51, 3) := by decide +kernel
theorem dX3_addStar_61 : decode cX3_addStar 61 = .ok (.return_, 1) := by decide +kernel
theorem dX3_hairsOf_0 : decode cX3_hairsOf 0 = .ok (.iload_n 1, 1) := by decide +kernel
theorem dX3_hairsOf_1 : decode cX3_hairsOf 1 = .ok (.ifCond .lt 21, 3) := by decide +kernel
theorem dX3_hairsOf_4 : decode cX3_hairsOf 4 = .ok (.iload_n 1, 1) := by decide +kernel
theorem dX3_hairsOf_5 : decode cX3_hairsOf 5 = .ok (.aload_n 0, 1) := by decide +kernel
theorem dX3_hairsOf_6 : decode cX3_hairsOf 6 = .ok (.getfield 15, 3) := by decide +kernel
theorem dX3_hairsOf_9 : decode cX3_hairsOf 9 = .ok (.arraylength, 1) := by decide +kernel
theorem dX3_hairsOf_10 : decode cX3_hairsOf 10 = .ok (.if_icmp .ge 12, 3) := by decide +kernel
theorem dX3_hairsOf_13 : decode cX3_hairsOf 13 = .ok (.aload_n 0, 1) := by decide +kernel
theorem dX3_hairsOf_14 : decode cX3_hairsOf 14 = .ok (.getfield 15, 3) := by decide +kernel
theorem dX3_hairsOf_17 : decode cX3_hairsOf 17 = .ok (.iload_n 1, 1) := by decide +kernel
theorem dX3_hairsOf_18 : decode cX3_hairsOf 18 = .ok (.iaload, 1) := by decide +kernel
theorem dX3_hairsOf_19 : decode cX3_hairsOf 19 = .ok (.goto 4, 3) := by decide +kernel
theorem dX3_hairsOf_22 : decode cX3_hairsOf 22 = .ok (.iconst 0, 1) := by decide +kernel
theorem dX3_hairsOf_23 : decode cX3_hairsOf 23 = .ok (.ireturn, 1) := by decide +kernel
theorem dX3_lightOf_0 : decode cX3_lightOf 0 = .ok (.iload_n 1, 1) := by decide +kernel
theorem dX3_lightOf_1 : decode cX3_lightOf 1 = .ok (.ifCond .lt 21, 3) := by decide +kernel
theorem dX3_lightOf_4 : decode cX3_lightOf 4 = .ok (.iload_n 1, 1) := by decide +kernel
theorem dX3_lightOf_5 : decode cX3_lightOf 5 = .ok (.aload_n 0, 1) := by decide +kernel
theorem dX3_lightOf_6 : decode cX3_lightOf 6 = .ok (.getfield 18, 3) := by decide +kernel
theorem dX3_lightOf_9 : decode cX3_lightOf 9 = .ok (.arraylength, 1) := by decide +kernel
theorem dX3_lightOf_10 : decode cX3_lightOf 10 = .ok (.if_icmp .ge 12, 3) := by decide +kernel
theorem dX3_lightOf_13 : decode cX3_lightOf 13 = .ok (.aload_n 0, 1) := by decide +kernel
theorem dX3_lightOf_14 : decode cX3_lightOf 14 = .ok (.getfield 18, 3) := by decide +kernel
theorem dX3_lightOf_17 : decode cX3_lightOf 17 = .ok (.iload_n 1, 1) := by decide +kernel
theorem dX3_lightOf_18 : decode cX3_lightOf 18 = .ok (.iaload, 1) := by decide +kernel
theorem dX3_lightOf_19 : decode cX3_lightOf 19 = .ok (.goto 4, 3) := by decide +kernel
theorem dX3_lightOf_22 : decode cX3_lightOf 22 = .ok (.iconst 0, 1) := by decide +kernel
theorem dX3_lightOf_23 : decode cX3_lightOf 23 = .ok (.ireturn, 1) := by decide +kernel
theorem dX3_jumpAt_0 : decode cX3_jumpAt 0 = .ok (.iload_n 1, 1) := by decide +kernel
theorem dX3_jumpAt_1 : decode cX3_jumpAt 1 = .ok (.aload_n 0, 1) := by decide +kernel
theorem dX3_jumpAt_2 : decode cX3_jumpAt 2 = .ok (.getfield 42, 3) := by decide +kernel
theorem dX3_jumpAt_5 : decode cX3_jumpAt 5 = .ok (.if_icmp .ne 10, 3) := by decide +kernel
theorem dX3_jumpAt_8 : decode cX3_jumpAt 8 = .ok (.aload_n 0, 1) := by decide +kernel
theorem dX3_jumpAt_9 : decode cX3_jumpAt 9 = .ok (.getfield 45, 3) := by decide +kernel
theorem dX3_jumpAt_12 : decode cX3_jumpAt 12 = .ok (.goto 4, 3) := by decide +kernel
theorem dX3_jumpAt_15 : decode cX3_jumpAt 15 = .ok (.iconst 0, 1) := by decide +kernel
theorem dX3_jumpAt_16 : decode cX3_jumpAt 16 = .ok (.ireturn, 1) := by decide +kernel
set_option maxRecDepth 20000 in
theorem ggX3_eastwardAt_X3_wormAt : GoodIn wsX3_eastwardAt wsX3_wormAt := goodIn_r _ [7, 8, 15, 16, 17, 18, 19, 20, 21, 22, 23, 24, 25, 26] (by decide +kernel) (by decide +kernel)
set_option maxRecDepth 20000 in
theorem gX3_eastwardAt_X3_wormAt : GoodIn wsX3_eastwardAt (wsV RX3 57 RX3 yX3_wormAt wsX3_wormAt) := goodIn_app (goodIn_of _ (by decide +kernel)) ggX3_eastwardAt_X3_wormAt
set_option maxRecDepth 20000 in
theorem ggX3_eastwardAt_X3_jumpAt : GoodIn wsX3_eastwardAt wsX3_jumpAt := goodIn_r _ [12, 13, 14, 15, 16, 17, 18, 19, 20, 21, 22, 23, 24, 25, 26] (by decide +kernel) (by decide +kernel)
set_option maxRecDepth 20000 in
theorem gX3_eastwardAt_X3_jumpAt : GoodIn wsX3_eastwardAt (wsV RX3 67 RX3 yX3_jumpAt wsX3_jumpAt) := goodIn_app (goodIn_of _ (by decide +kernel)) ggX3_eastwardAt_X3_jumpAt
theorem dX3_eastwardAt_0 : decode cX3_eastwardAt 0 = .ok (.aload_n 0, 1) := by decide +kernel
theorem dX3_eastwardAt_1 : decode cX3_eastwardAt 1 = .ok (.getfield 54, 3) := by decide +kernel
theorem dX3_eastwardAt_4 : decode cX3_eastwardAt 4 = .ok (.ifCond .le 12, 3) := by decide +kernel
theorem dX3_eastwardAt_7 : decode cX3_eastwardAt 7 = .ok (.iload_n 1, 1) := by decide +kernel
theorem dX3_eastwardAt_8 : decode cX3_eastwardAt 8 = .ok (.aload_n 0, 1) := by decide +kernel
theorem dX3_eastwardAt_9 : decode cX3_eastwardAt 9 = .ok (.getfield 54, 3) := by decide +kernel
theorem dX3_eastwardAt_12 : decode cX3_eastwardAt 12 = .ok (.irem, 1) := by decide +kernel
theorem dX3_eastwardAt_13 : decode cX3_eastwardAt 13 = .ok (.goto 4, 3) := by decide +kernel
theorem dX3_eastwardAt_16 : decode cX3_eastwardAt 16 = .ok (.iconst 0, 1) := by decide +kernel
theorem dX3_eastwardAt_17 : decode cX3_eastwardAt 17 = .ok (.istore_n 2, 1) := by decide +kernel
theorem dX3_eastwardAt_18 : decode cX3_eastwardAt 18 = .ok (.aload_n 0, 1) := by decide +kernel
theorem dX3_eastwardAt_19 : decode cX3_eastwardAt 19 = .ok (.getfield 28, 3) := by decide +kernel
theorem dX3_eastwardAt_22 : decode cX3_eastwardAt 22 = .ok (.aload_n 0, 1) := by decide +kernel
theorem dX3_eastwardAt_23 : decode cX3_eastwardAt 23 = .ok (.iload_n 2, 1) := by decide +kernel
theorem dX3_eastwardAt_24 : decode cX3_eastwardAt 24 = .ok (.invokevirtual 57, 3) := by decide +kernel
theorem dX3_eastwardAt_27 : decode cX3_eastwardAt 27 = .ok (.iadd, 1) := by decide +kernel
theorem dX3_eastwardAt_28 : decode cX3_eastwardAt 28 = .ok (.aload_n 0, 1) := by decide +kernel
theorem dX3_eastwardAt_29 : decode cX3_eastwardAt 29 = .ok (.iload_n 1, 1) := by decide +kernel
theorem dX3_eastwardAt_30 : decode cX3_eastwardAt 30 = .ok (.invokevirtual 67, 3) := by decide +kernel
theorem dX3_eastwardAt_33 : decode cX3_eastwardAt 33 = .ok (.iadd, 1) := by decide +kernel
theorem dX3_eastwardAt_34 : decode cX3_eastwardAt 34 = .ok (.ireturn, 1) := by decide +kernel
theorem dX3_pressesAgainst_0 : decode cX3_pressesAgainst 0 = .ok (.aload_n 0, 1) := by decide +kernel
theorem dX3_pressesAgainst_1 : decode cX3_pressesAgainst 1 = .ok (.getfield 48, 3) := by decide +kernel
theorem dX3_pressesAgainst_4 : decode cX3_pressesAgainst 4 = .ok (.iconst 1, 1) := by decide +kernel
theorem dX3_pressesAgainst_5 : decode cX3_pressesAgainst 5 = .ok (.if_icmp .lt 11, 3) := by decide +kernel
theorem dX3_pressesAgainst_8 : decode cX3_pressesAgainst 8 = .ok (.iload_n 1, 1) := by decide +kernel
theorem dX3_pressesAgainst_9 : decode cX3_pressesAgainst 9 = .ok (.invokestatic 70, 3) := by decide +kernel
theorem dX3_pressesAgainst_12 : decode cX3_pressesAgainst 12 = .ok (.iload_n 2, 1) := by decide +kernel
theorem dX3_pressesAgainst_13 : decode cX3_pressesAgainst 13 = .ok (.if_icmp .gt 5, 3) := by decide +kernel
theorem dX3_pressesAgainst_16 : decode cX3_pressesAgainst 16 = .ok (.iconst 0, 1) := by decide +kernel
theorem dX3_pressesAgainst_17 : decode cX3_pressesAgainst 17 = .ok (.ireturn, 1) := by decide +kernel
theorem dX3_pressesAgainst_18 : decode cX3_pressesAgainst 18 = .ok (.iload_n 1, 1) := by decide +kernel
theorem dX3_pressesAgainst_19 : decode cX3_pressesAgainst 19 = .ok (.iload_n 3, 1) := by decide +kernel
theorem dX3_pressesAgainst_20 : decode cX3_pressesAgainst 20 = .ok (.imul, 1) := by decide +kernel
theorem dX3_pressesAgainst_21 : decode cX3_pressesAgainst 21 = .ok (.bipush 10, 2) := by decide +kernel
theorem dX3_pressesAgainst_23 : decode cX3_pressesAgainst 23 = .ok (.idiv, 1) := by decide +kernel
theorem dX3_pressesAgainst_24 : decode cX3_pressesAgainst 24 = .ok (.aload_n 0, 1) := by decide +kernel
theorem dX3_pressesAgainst_25 : decode cX3_pressesAgainst 25 = .ok (.getfield 48, 3) := by decide +kernel
theorem dX3_pressesAgainst_28 : decode cX3_pressesAgainst 28 = .ok (.idiv, 1) := by decide +kernel
theorem dX3_pressesAgainst_29 : decode cX3_pressesAgainst 29 = .ok (.ineg, 1) := by decide +kernel
theorem dX3_pressesAgainst_30 : decode cX3_pressesAgainst 30 = .ok (.ireturn, 1) := by decide +kernel
set_option maxRecDepth 20000 in
theorem ggX3_starToGuideBy_X3_lightOf : GoodIn wsX3_starToGuideBy wsX3_lightOf := goodIn_r _ [6, 7, 17, 18, 19, 20, 21, 22, 23, 24, 25, 26, 27, 28] (by decide +kernel) (by decide +kernel)
set_option maxRecDepth 20000 in
theorem gX3_starToGuideBy_X3_lightOf : GoodIn wsX3_starToGuideBy (wsV RX3 64 RX3 yX3_lightOf wsX3_lightOf) := goodIn_app (goodIn_of _ (by decide +kernel)) ggX3_starToGuideBy_X3_lightOf
set_option maxRecDepth 20000 in
theorem ggX3_starToGuideBy_X3_isBetterStar : GoodIn wsX3_starToGuideBy wsX3_isBetterStar := goodIn_r _ [11, 12, 13, 14, 5, 15, 16, 2, 3, 4, 6, 7, 17, 18, 19, 20, 21, 22, 23, 24, 25, 26, 27, 28] (by decide +kernel) (by decide +kernel)
set_option maxRecDepth 20000 in
theorem gX3_starToGuideBy_X3_isBetterStar : GoodIn wsX3_starToGuideBy (wsV RX3 75 RX3 yX3_isBetterStar wsX3_isBetterStar) := goodIn_app (goodIn_of _ (by decide +kernel)) ggX3_starToGuideBy_X3_isBetterStar
theorem dX3_starToGuideBy_0 : decode cX3_starToGuideBy 0 = .ok (.iconst (-1), 1) := by decide +kernel
theorem dX3_starToGuideBy_1 : decode cX3_starToGuideBy 1 = .ok (.istore_n 2, 1) := by decide +kernel
theorem dX3_starToGuideBy_2 : decode cX3_starToGuideBy 2 = .ok (.iconst 0, 1) := by decide +kernel
theorem dX3_starToGuideBy_3 : decode cX3_starToGuideBy 3 = .ok (.istore_n 3, 1) := by decide +kernel
theorem dX3_starToGuideBy_4 : decode cX3_starToGuideBy 4 = .ok (.iload_n 3, 1) := by decide +kernel
theorem dX3_starToGuideBy_5 : decode cX3_starToGuideBy 5 = .ok (.aload_n 0, 1) := by decide +kernel
theorem dX3_starToGuideBy_6 : decode cX3_starToGuideBy 6 = .ok (.getfield 51, 3) := by decide +kernel
theorem dX3_starToGuideBy_9 : decode cX3_starToGuideBy 9 = .ok (.if_icmp .ge 34, 3) := by decide +kernel
theorem dX3_starToGuideBy_12 : decode cX3_starToGuideBy 12 = .ok (.aload_n 0, 1) := by decide +kernel
theorem dX3_starToGuideBy_13 : decode cX3_starToGuideBy 13 = .ok (.iload_n 3, 1) := by decide +kernel
theorem dX3_starToGuideBy_14 : decode cX3_starToGuideBy 14 = .ok (.invokevirtual 64, 3) := by decide +kernel
theorem dX3_starToGuideBy_17 : decode cX3_starToGuideBy 17 = .ok (.iload_n 1, 1) := by decide +kernel
theorem dX3_starToGuideBy_18 : decode cX3_starToGuideBy 18 = .ok (.if_icmp .lt 19, 3) := by decide +kernel
theorem dX3_starToGuideBy_21 : decode cX3_starToGuideBy 21 = .ok (.iload_n 2, 1) := by decide +kernel
theorem dX3_starToGuideBy_22 : decode cX3_starToGuideBy 22 = .ok (.iconst (-1), 1) := by decide +kernel
theorem dX3_starToGuideBy_23 : decode cX3_starToGuideBy 23 = .ok (.if_icmp .eq 12, 3) := by decide +kernel
theorem dX3_starToGuideBy_26 : decode cX3_starToGuideBy 26 = .ok (.aload_n 0, 1) := by decide +kernel
theorem dX3_starToGuideBy_27 : decode cX3_starToGuideBy 27 = .ok (.iload_n 3, 1) := by decide +kernel
theorem dX3_starToGuideBy_28 : decode cX3_starToGuideBy 28 = .ok (.iload_n 2, 1) := by decide +kernel
theorem dX3_starToGuideBy_29 : decode cX3_starToGuideBy 29 = .ok (.invokevirtual 75, 3) := by decide +kernel
theorem dX3_starToGuideBy_32 : decode cX3_starToGuideBy 32 = .ok (.ifCond .eq 5, 3) := by decide +kernel
theorem dX3_starToGuideBy_35 : decode cX3_starToGuideBy 35 = .ok (.iload_n 3, 1) := by decide +kernel
theorem dX3_starToGuideBy_36 : decode cX3_starToGuideBy 36 = .ok (.istore_n 2, 1) := by decide +kernel
theorem dX3_starToGuideBy_37 : decode cX3_starToGuideBy 37 = .ok (.iinc 3 1, 3) := by decide +kernel
theorem dX3_starToGuideBy_40 : decode cX3_starToGuideBy 40 = .ok (.goto (-36), 3) := by decide +kernel
theorem dX3_starToGuideBy_43 : decode cX3_starToGuideBy 43 = .ok (.iload_n 2, 1) := by decide +kernel
theorem dX3_starToGuideBy_44 : decode cX3_starToGuideBy 44 = .ok (.ireturn, 1) := by decide +kernel
set_option maxRecDepth 20000 in
theorem ggX3_isBetterStar_X3_hairsOf : GoodIn wsX3_isBetterStar wsX3_hairsOf := goodIn_r _ [5, 6, 12, 13, 14, 15, 16, 17, 18, 19, 20, 21, 22, 23] (by decide +kernel) (by decide +kernel)
set_option maxRecDepth 20000 in
theorem gX3_isBetterStar_X3_hairsOf : GoodIn wsX3_isBetterStar (wsV RX3 61 RX3 yX3_hairsOf wsX3_hairsOf) := goodIn_app (goodIn_of _ (by decide +kernel)) ggX3_isBetterStar_X3_hairsOf
set_option maxRecDepth 20000 in
theorem ggX3_isBetterStar_X3_lightOf : GoodIn wsX3_isBetterStar wsX3_lightOf := goodIn_r _ [10, 11, 12, 13, 14, 15, 16, 17, 18, 19, 20, 21, 22, 23] (by decide +kernel) (by decide +kernel)
set_option maxRecDepth 20000 in
theorem gX3_isBetterStar_X3_lightOf : GoodIn wsX3_isBetterStar (wsV RX3 64 RX3 yX3_lightOf wsX3_lightOf) := goodIn_app (goodIn_of _ (by decide +kernel)) ggX3_isBetterStar_X3_lightOf
theorem dX3_isBetterStar_0 : decode cX3_isBetterStar 0 = .ok (.aload_n 0, 1) := by decide +kernel
theorem dX3_isBetterStar_1 : decode cX3_isBetterStar 1 = .ok (.iload_n 1, 1) := by decide +kernel
theorem dX3_isBetterStar_2 : decode cX3_isBetterStar 2 = .ok (.invokevirtual 61, 3) := by decide +kernel
theorem dX3_isBetterStar_5 : decode cX3_isBetterStar 5 = .ok (.aload_n 0, 1) := by decide +kernel
theorem dX3_isBetterStar_6 : decode cX3_isBetterStar 6 = .ok (.iload_n 2, 1) := by decide +kernel
theorem dX3_isBetterStar_7 : decode cX3_isBetterStar 7 = .ok (.invokevirtual 61, 3) := by decide +kernel
theorem dX3_isBetterStar_10 : decode cX3_isBetterStar 10 = .ok (.if_icmp .eq 22, 3) := by decide +kernel
theorem dX3_isBetterStar_13 : decode cX3_isBetterStar 13 = .ok (.aload_n 0, 1) := by decide +kernel
theorem dX3_isBetterStar_14 : decode cX3_isBetterStar 14 = .ok (.iload_n 1, 1) := by decide +kernel
theorem dX3_isBetterStar_15 : decode cX3_isBetterStar 15 = .ok (.invokevirtual 61, 3) := by decide +kernel
theorem dX3_isBetterStar_18 : decode cX3_isBetterStar 18 = .ok (.aload_n 0, 1) := by decide +kernel
theorem dX3_isBetterStar_19 : decode cX3_isBetterStar 19 = .ok (.iload_n 2, 1) := by decide +kernel
theorem dX3_isBetterStar_20 : decode cX3_isBetterStar 20 = .ok (.invokevirtual 61, 3) := by decide +kernel
theorem dX3_isBetterStar_23 : decode cX3_isBetterStar 23 = .ok (.if_icmp .ge 7, 3) := by decide +kernel
theorem dX3_isBetterStar_26 : decode cX3_isBetterStar 26 = .ok (.iconst 1, 1) := by decide +kernel
theorem dX3_isBetterStar_27 : decode cX3_isBetterStar 27 = .ok (.goto 4, 3) := by decide +kernel
theorem dX3_isBetterStar_30 : decode cX3_isBetterStar 30 = .ok (.iconst 0, 1) := by decide +kernel
theorem dX3_isBetterStar_31 : decode cX3_isBetterStar 31 = .ok (.ireturn, 1) := by decide +kernel
theorem dX3_isBetterStar_32 : decode cX3_isBetterStar 32 = .ok (.aload_n 0, 1) := by decide +kernel
theorem dX3_isBetterStar_33 : decode cX3_isBetterStar 33 = .ok (.iload_n 1, 1) := by decide +kernel
theorem dX3_isBetterStar_34 : decode cX3_isBetterStar 34 = .ok (.invokevirtual 64, 3) := by decide +kernel
theorem dX3_isBetterStar_37 : decode cX3_isBetterStar 37 = .ok (.aload_n 0, 1) := by decide +kernel
theorem dX3_isBetterStar_38 : decode cX3_isBetterStar 38 = .ok (.iload_n 2, 1) := by decide +kernel
theorem dX3_isBetterStar_39 : decode cX3_isBetterStar 39 = .ok (.invokevirtual 64, 3) := by decide +kernel
theorem dX3_isBetterStar_42 : decode cX3_isBetterStar 42 = .ok (.if_icmp .le 7, 3) := by decide +kernel
theorem dX3_isBetterStar_45 : decode cX3_isBetterStar 45 = .ok (.iconst 1, 1) := by decide +kernel
theorem dX3_isBetterStar_46 : decode cX3_isBetterStar 46 = .ok (.goto 4, 3) := by decide +kernel
theorem dX3_isBetterStar_49 : decode cX3_isBetterStar 49 = .ok (.iconst 0, 1) := by decide +kernel
theorem dX3_isBetterStar_50 : decode cX3_isBetterStar 50 = .ok (.ireturn, 1) := by decide +kernel
theorem dX4_init_0 : decode cX4_init 0 = .ok (.aload_n 0, 1) := by decide +kernel
theorem dX4_init_1 : decode cX4_init 1 = .ok (.invokespecial 1, 3) := by decide +kernel
theorem dX4_init_4 : decode cX4_init 4 = .ok (.return_, 1) := by decide +kernel
theorem dX4_copyFrom_0 : decode cX4_copyFrom 0 = .ok (.aload_n 0, 1) := by decide +kernel
theorem dX4_copyFrom_1 : decode cX4_copyFrom 1 = .ok (.aload_n 1, 1) := by decide +kernel
theorem dX4_copyFrom_2 : decode cX4_copyFrom 2 = .ok (.getfield 7, 3) := by decide +kernel
theorem dX4_copyFrom_5 : decode cX4_copyFrom 5 = .ok (.putfield 7, 3) := by decide +kernel
theorem dX4_copyFrom_8 : decode cX4_copyFrom 8 = .ok (.aload_n 0, 1) := by decide +kernel
theorem dX4_copyFrom_9 : decode cX4_copyFrom 9 = .ok (.aload_n 1, 1) := by decide +kernel
theorem dX4_copyFrom_10 : decode cX4_copyFrom 10 = .ok (.getfield 13, 3) := by decide +kernel
theorem dX4_copyFrom_13 : decode cX4_copyFrom 13 = .ok (.putfield 13, 3) := by decide +kernel
theorem dX4_copyFrom_16 : decode cX4_copyFrom 16 = .ok (.aload_n 0, 1) := by decide +kernel
theorem dX4_copyFrom_17 : decode cX4_copyFrom 17 = .ok (.aload_n 1, 1) := by decide +kernel
theorem dX4_copyFrom_18 : decode cX4_copyFrom 18 = .ok (.getfield 16, 3) := by decide +kernel
theorem dX4_copyFrom_21 : decode cX4_copyFrom 21 = .ok (.putfield 16, 3) := by decide +kernel
theorem dX4_copyFrom_24 : decode cX4_copyFrom 24 = .ok (.aload_n 0, 1) := by decide +kernel
theorem dX4_copyFrom_25 : decode cX4_copyFrom 25 = .ok (.aload_n 1, 1) := by decide +kernel
theorem dX4_copyFrom_26 : decode cX4_copyFrom 26 = .ok (.getfield 19, 3) := by decide +kernel
theorem dX4_copyFrom_29 : decode cX4_copyFrom 29 = .ok (.putfield 19, 3) := by decide +kernel
theorem dX4_copyFrom_32 : decode cX4_copyFrom 32 = .ok (.aload_n 0, 1) := by decide +kernel
theorem dX4_copyFrom_33 : decode cX4_copyFrom 33 = .ok (.aload_n 1, 1) := by decide +kernel
theorem dX4_copyFrom_34 : decode cX4_copyFrom 34 = .ok (.getfield 23, 3) := by decide +kernel
theorem dX4_copyFrom_37 : decode cX4_copyFrom 37 = .ok (.putfield 23, 3) := by decide +kernel
theorem dX4_copyFrom_40 : decode cX4_copyFrom 40 = .ok (.aload_n 0, 1) := by decide +kernel
theorem dX4_copyFrom_41 : decode cX4_copyFrom 41 = .ok (.aload_n 1, 1) := by decide +kernel
theorem dX4_copyFrom_42 : decode cX4_copyFrom 42 = .ok (.getfield 26, 3) := by decide +kernel
theorem dX4_copyFrom_45 : decode cX4_copyFrom 45 = .ok (.putfield 26, 3) := by decide +kernel
theorem dX4_copyFrom_48 : decode cX4_copyFrom 48 = .ok (.aload_n 0, 1) := by decide +kernel
theorem dX4_copyFrom_49 : decode cX4_copyFrom 49 = .ok (.aload_n 1, 1) := by decide +kernel
theorem dX4_copyFrom_50 : decode cX4_copyFrom 50 = .ok (.getfield 29, 3) := by decide +kernel
theorem dX4_copyFrom_53 : decode cX4_copyFrom 53 = .ok (.putfield 29, 3) := by decide +kernel
theorem dX4_copyFrom_56 : decode cX4_copyFrom 56 = .ok (.aload_n 0, 1) := by decide +kernel
theorem dX4_copyFrom_57 : decode cX4_copyFrom 57 = .ok (.aload_n 1, 1) := by decide +kernel
theorem dX4_copyFrom_58 : decode cX4_copyFrom 58 = .ok (.getfield 32, 3) := by decide +kernel
theorem dX4_copyFrom_61 : decode cX4_copyFrom 61 = .ok (.putfield 32, 3) := by decide +kernel
theorem dX4_copyFrom_64 : decode cX4_copyFrom 64 = .ok (.aload_n 0, 1) := by decide +kernel
theorem dX4_copyFrom_65 : decode cX4_copyFrom 65 = .ok (.aload_n 1, 1) := by decide +kernel
theorem dX4_copyFrom_66 : decode cX4_copyFrom 66 = .ok (.getfield 35, 3) := by decide +kernel
theorem dX4_copyFrom_69 : decode cX4_copyFrom 69 = .ok (.putfield 35, 3) := by decide +kernel
theorem dX4_copyFrom_72 : decode cX4_copyFrom 72 = .ok (.aload_n 0, 1) := by decide +kernel
theorem dX4_copyFrom_73 : decode cX4_copyFrom 73 = .ok (.aload_n 1, 1) := by decide +kernel
theorem dX4_copyFrom_74 : decode cX4_copyFrom 74 = .ok (.getfield 38, 3) := by decide +kernel
theorem dX4_copyFrom_77 : decode cX4_copyFrom 77 = .ok (.putfield 38, 3) := by decide +kernel
theorem dX4_copyFrom_80 : decode cX4_copyFrom 80 = .ok (.aload_n 0, 1) := by decide +kernel
theorem dX4_copyFrom_81 : decode cX4_copyFrom 81 = .ok (.aload_n 1, 1) := by decide +kernel
theorem dX4_copyFrom_82 : decode cX4_copyFrom 82 = .ok (.getfield 41, 3) := by decide +kernel
theorem dX4_copyFrom_85 : decode cX4_copyFrom 85 = .ok (.putfield 41, 3) := by decide +kernel
theorem dX4_copyFrom_88 : decode cX4_copyFrom 88 = .ok (.aload_n 0, 1) := by decide +kernel
theorem dX4_copyFrom_89 : decode cX4_copyFrom 89 = .ok (.aload_n 1, 1) := by decide +kernel
theorem dX4_copyFrom_90 : decode cX4_copyFrom 90 = .ok (.getfield 44, 3) := by decide +kernel
theorem dX4_copyFrom_93 : decode cX4_copyFrom 93 = .ok (.putfield 44, 3) := by decide +kernel
theorem dX4_copyFrom_96 : decode cX4_copyFrom 96 = .ok (.return_, 1) := by decide +kernel
theorem dX4_takeFreshPlate_0 : decode cX4_takeFreshPlate 0 = .ok (.aload_n 0, 1) := by decide +kernel
theorem dX4_takeFreshPlate_1 : decode cX4_takeFreshPlate 1 = .ok (.iconst 0, 1) := by decide +kernel
theorem dX4_takeFreshPlate_2 : decode cX4_takeFreshPlate 2 = .ok (.putfield 13, 3) := by decide +kernel
theorem dX4_takeFreshPlate_5 : decode cX4_takeFreshPlate 5 = .ok (.aload_n 0, 1) := by decide +kernel
theorem dX4_takeFreshPlate_6 : decode cX4_takeFreshPlate 6 = .ok (.iconst 0, 1) := by decide +kernel
theorem dX4_takeFreshPlate_7 : decode cX4_takeFreshPlate 7 = .ok (.putfield 16, 3) := by decide +kernel
theorem dX4_takeFreshPlate_10 : decode cX4_takeFreshPlate 10 = .ok (.aload_n 0, 1) := by decide +kernel
theorem dX4_takeFreshPlate_11 : decode cX4_takeFreshPlate 11 = .ok (.iconst 0, 1) := by decide +kernel
theorem dX4_takeFreshPlate_12 : decode cX4_takeFreshPlate 12 = .ok (.putfield 19, 3) := by decide +kernel
theorem dX4_takeFreshPlate_15 : decode cX4_takeFreshPlate 15 = .ok (.aload_n 0, 1) := by decide +kernel
theorem dX4_takeFreshPlate_16 : decode cX4_takeFreshPlate 16 = .ok (.iconst 0, 1) := by decide +kernel
theorem dX4_takeFreshPlate_17 : decode cX4_takeFreshPlate 17 = .ok (.putfield 23, 3) := by decide +kernel
theorem dX4_takeFreshPlate_20 : decode cX4_takeFreshPlate 20 = .ok (.aload_n 0, 1) := by decide +kernel
theorem dX4_takeFreshPlate_21 : decode cX4_takeFreshPlate 21 = .ok (.iconst 0, 1) := by decide +kernel
theorem dX4_takeFreshPlate_22 : decode cX4_takeFreshPlate 22 = .ok (.putfield 26, 3) := by decide +kernel
theorem dX4_takeFreshPlate_25 : decode cX4_takeFreshPlate 25 = .ok (.aload_n 0, 1) := by decide +kernel
theorem dX4_takeFreshPlate_26 : decode cX4_takeFreshPlate 26 = .ok (.iconst 0, 1) := by decide +kernel
theorem dX4_takeFreshPlate_27 : decode cX4_takeFreshPlate 27 = .ok (.putfield 29, 3) := by decide +kernel
theorem dX4_takeFreshPlate_30 : decode cX4_takeFreshPlate 30 = .ok (.aload_n 0, 1) := by decide +kernel
theorem dX4_takeFreshPlate_31 : decode cX4_takeFreshPlate 31 = .ok (.iconst 0, 1) := by decide +kernel
theorem dX4_takeFreshPlate_32 : decode cX4_takeFreshPlate 32 = .ok (.putfield 32, 3) := by decide +kernel
theorem dX4_takeFreshPlate_35 : decode cX4_takeFreshPlate 35 = .ok (.return_, 1) := by decide +kernel
set_option maxRecDepth 20000 in
theorem ggX4_passMany_X4_passOne : GoodIn wsX4_passMany wsX4_passOne := goodIn_r _ [6, 7, 8, 9, 10, 11, 12, 13, 14, 15, 16, 17, 18, 1, 19, 20, 21, 22, 23, 24, 25, 26, 27, 28, 29, 30, 31, 32, 33, 34, 35, 36, 37, 38, 39, 40, 5, 41, 42, 43, 44, 45, 46, 47, 48, 49, 50, 51, 52, 53, 54, 55, 56, 57, 58, 59, 60, 61, 62, 63, 64, 65, 66, 67, 68, 69, 70, 71, 72, 73, 74, 75, 76] (by decide +kernel) (by decide +kernel)
set_option maxRecDepth 20000 in
theorem gX4_passMany_X4_passOne : GoodIn wsX4_passMany (wsV RX4 47 RX4 yX4_passOne wsX4_passOne) := goodIn_app (goodIn_of _ (by decide +kernel)) ggX4_passMany_X4_passOne
theorem dX4_passMany_0 : decode cX4_passMany 0 = .ok (.iconst 0, 1) := by decide +kernel
theorem dX4_passMany_1 : decode cX4_passMany 1 = .ok (.istore_n 3, 1) := by decide +kernel
theorem dX4_passMany_2 : decode cX4_passMany 2 = .ok (.iload_n 3, 1) := by decide +kernel
theorem dX4_passMany_3 : decode cX4_passMany 3 = .ok (.iload_n 2, 1) := by decide +kernel
theorem dX4_passMany_4 : decode cX4_passMany 4 = .ok (.if_icmp .ge 21, 3) := by decide +kernel
theorem dX4_passMany_7 : decode cX4_passMany 7 = .ok (.aload_n 0, 1) := by decide +kernel
theorem dX4_passMany_8 : decode cX4_passMany 8 = .ok (.getfield 19, 3) := by decide +kernel
theorem dX4_passMany_11 : decode cX4_passMany 11 = .ok (.ifCond .ne 14, 3) := by decide +kernel
theorem dX4_passMany_14 : decode cX4_passMany 14 = .ok (.aload_n 0, 1) := by decide +kernel
theorem dX4_passMany_15 : decode cX4_passMany 15 = .ok (.aload_n 1, 1) := by decide +kernel
theorem dX4_passMany_16 : decode cX4_passMany 16 = .ok (.invokevirtual 47, 3) := by decide +kernel
theorem dX4_passMany_19 : decode cX4_passMany 19 = .ok (.iinc 3 1, 3) := by decide +kernel
theorem dX4_passMany_22 : decode cX4_passMany 22 = .ok (.goto (-20), 3) := by decide +kernel
theorem dX4_passMany_25 : decode cX4_passMany 25 = .ok (.return_, 1) := by decide +kernel
set_option maxRecDepth 20000 in
theorem ggX4_passOne_X3_eastwardAt : GoodIn wsX4_passOne wsX3_eastwardAt := goodIn_r _ [19, 20, 21, 22, 23, 24, 18, 25, 26, 27, 28, 29, 30, 31, 32, 61, 62, 63, 64, 65, 66, 67, 68, 69, 70, 71, 72] (by decide +kernel) (by decide +kernel)
set_option maxRecDepth 20000 in
theorem gX4_passOne_X3_eastwardAt : GoodIn wsX4_passOne (wsV RX4 56 RX3 yX3_eastwardAt wsX3_eastwardAt) := goodIn_app (goodIn_of _ (by decide +kernel)) ggX4_passOne_X3_eastwardAt
set_option maxRecDepth 20000 in
theorem ggX4_passOne_X4_gather : GoodIn wsX4_passOne wsX4_gather := goodIn_r _ [37, 38, 1, 39, 40, 41, 10, 42, 43, 44, 45, 46, 5, 47, 48, 49, 50, 51, 52, 53, 54, 55, 56, 57, 58, 59, 60] (by decide +kernel) (by decide +kernel)
set_option maxRecDepth 20000 in
theorem gX4_passOne_X4_gather : GoodIn wsX4_passOne (wsV RX4 71 RX4 yX4_gather wsX4_gather) := goodIn_app (goodIn_of _ (by decide +kernel)) ggX4_passOne_X4_gather
theorem dX4_passOne_0 : decode cX4_passOne 0 = .ok (.aload_n 0, 1) := by decide +kernel
theorem dX4_passOne_1 : decode cX4_passOne 1 = .ok (.dup, 1) := by decide +kernel
theorem dX4_passOne_2 : decode cX4_passOne 2 = .ok (.getfield 13, 3) := by decide +kernel
theorem dX4_passOne_5 : decode cX4_passOne 5 = .ok (.aload_n 0, 1) := by decide +kernel
theorem dX4_passOne_6 : decode cX4_passOne 6 = .ok (.getfield 26, 3) := by decide +kernel
theorem dX4_passOne_9 : decode cX4_passOne 9 = .ok (.aload_n 1, 1) := by decide +kernel
theorem dX4_passOne_10 : decode cX4_passOne 10 = .ok (.getfield 51, 3) := by decide +kernel
theorem dX4_passOne_13 : decode cX4_passOne 13 = .ok (.imul, 1) := by decide +kernel
theorem dX4_passOne_14 : decode cX4_passOne 14 = .ok (.aload_n 1, 1) := by decide +kernel
theorem dX4_passOne_15 : decode cX4_passOne 15 = .ok (.aload_n 0, 1) := by decide +kernel
theorem dX4_passOne_16 : decode cX4_passOne 16 = .ok (.getfield 7, 3) := by decide +kernel
theorem dX4_passOne_19 : decode cX4_passOne 19 = .ok (.invokevirtual 56, 3) := by decide +kernel
theorem dX4_passOne_22 : decode cX4_passOne 22 = .ok (.iadd, 1) := by decide +kernel
theorem dX4_passOne_23 : decode cX4_passOne 23 = .ok (.iadd, 1) := by decide +kernel
theorem dX4_passOne_24 : decode cX4_passOne 24 = .ok (.putfield 13, 3) := by decide +kernel
theorem dX4_passOne_27 : decode cX4_passOne 27 = .ok (.aload_n 0, 1) := by decide +kernel
theorem dX4_passOne_28 : decode cX4_passOne 28 = .ok (.dup, 1) := by decide +kernel
theorem dX4_passOne_29 : decode cX4_passOne 29 = .ok (.getfield 16, 3) := by decide +kernel
theorem dX4_passOne_32 : decode cX4_passOne 32 = .ok (.aload_n 0, 1) := by decide +kernel
theorem dX4_passOne_33 : decode cX4_passOne 33 = .ok (.getfield 29, 3) := by decide +kernel
theorem dX4_passOne_36 : decode cX4_passOne 36 = .ok (.aload_n 1, 1) := by decide +kernel
theorem dX4_passOne_37 : decode cX4_passOne 37 = .ok (.getfield 51, 3) := by decide +kernel
theorem dX4_passOne_40 : decode cX4_passOne 40 = .ok (.imul, 1) := by decide +kernel
theorem dX4_passOne_41 : decode cX4_passOne 41 = .ok (.aload_n 1, 1) := by decide +kernel
theorem dX4_passOne_42 : decode cX4_passOne 42 = .ok (.getfield 60, 3) := by decide +kernel
theorem dX4_passOne_45 : decode cX4_passOne 45 = .ok (.iadd, 1) := by decide +kernel
theorem dX4_passOne_46 : decode cX4_passOne 46 = .ok (.iadd, 1) := by decide +kernel
theorem dX4_passOne_47 : decode cX4_passOne 47 = .ok (.putfield 16, 3) := by decide +kernel
theorem dX4_passOne_50 : decode cX4_passOne 50 = .ok (.aload_n 0, 1) := by decide +kernel
theorem dX4_passOne_51 : decode cX4_passOne 51 = .ok (.iconst 0, 1) := by decide +kernel
theorem dX4_passOne_52 : decode cX4_passOne 52 = .ok (.putfield 26, 3) := by decide +kernel
theorem dX4_passOne_55 : decode cX4_passOne 55 = .ok (.aload_n 0, 1) := by decide +kernel
theorem dX4_passOne_56 : decode cX4_passOne 56 = .ok (.iconst 0, 1) := by decide +kernel
theorem dX4_passOne_57 : decode cX4_passOne 57 = .ok (.putfield 29, 3) := by decide +kernel
theorem dX4_passOne_60 : decode cX4_passOne 60 = .ok (.aload_n 0, 1) := by decide +kernel
theorem dX4_passOne_61 : decode cX4_passOne 61 = .ok (.dup, 1) := by decide +kernel
theorem dX4_passOne_62 : decode cX4_passOne 62 = .ok (.getfield 7, 3) := by decide +kernel
theorem dX4_passOne_65 : decode cX4_passOne 65 = .ok (.iconst 1, 1) := by decide +kernel
theorem dX4_passOne_66 : decode cX4_passOne 66 = .ok (.iadd, 1) := by decide +kernel
theorem dX4_passOne_67 : decode cX4_passOne 67 = .ok (.putfield 7, 3) := by decide +kernel
theorem dX4_passOne_70 : decode cX4_passOne 70 = .ok (.aload_n 0, 1) := by decide +kernel
theorem dX4_passOne_71 : decode cX4_passOne 71 = .ok (.aload_n 0, 1) := by decide +kernel
theorem dX4_passOne_72 : decode cX4_passOne 72 = .ok (.getfield 13, 3) := by decide +kernel
theorem dX4_passOne_75 : decode cX4_passOne 75 = .ok (.invokestatic 63, 3) := by decide +kernel
theorem dX4_passOne_78 : decode cX4_passOne 78 = .ok (.aload_n 1, 1) := by decide +kernel
theorem dX4_passOne_79 : decode cX4_passOne 79 = .ok (.getfield 68, 3) := by decide +kernel
theorem dX4_passOne_82 : decode cX4_passOne 82 = .ok (.if_icmp .gt 17, 3) := by decide +kernel
theorem dX4_passOne_85 : decode cX4_passOne 85 = .ok (.aload_n 0, 1) := by decide +kernel
theorem dX4_passOne_86 : decode cX4_passOne 86 = .ok (.getfield 16, 3) := by decide +kernel
theorem dX4_passOne_89 : decode cX4_passOne 89 = .ok (.invokestatic 63, 3) := by decide +kernel
theorem dX4_passOne_92 : decode cX4_passOne 92 = .ok (.aload_n 1, 1) := by decide +kernel
theorem dX4_passOne_93 : decode cX4_passOne 93 = .ok (.getfield 68, 3) := by decide +kernel
theorem dX4_passOne_96 : decode cX4_passOne 96 = .ok (.if_icmp .le 7, 3) := by decide +kernel
theorem dX4_passOne_99 : decode cX4_passOne 99 = .ok (.iconst 1, 1) := by decide +kernel
theorem dX4_passOne_100 : decode cX4_passOne 100 = .ok (.goto 4, 3) := by decide +kernel
theorem dX4_passOne_103 : decode cX4_passOne 103 = .ok (.iconst 0, 1) := by decide +kernel
theorem dX4_passOne_104 : decode cX4_passOne 104 = .ok (.putfield 19, 3) := by decide +kernel
theorem dX4_passOne_107 : decode cX4_passOne 107 = .ok (.aload_n 0, 1) := by decide +kernel
theorem dX4_passOne_108 : decode cX4_passOne 108 = .ok (.getfield 19, 3) := by decide +kernel
theorem dX4_passOne_111 : decode cX4_passOne 111 = .ok (.ifCond .ne 14, 3) := by decide +kernel
theorem dX4_passOne_114 : decode cX4_passOne 114 = .ok (.aload_n 0, 1) := by decide +kernel
theorem dX4_passOne_115 : decode cX4_passOne 115 = .ok (.getfield 23, 3) := by decide +kernel
theorem dX4_passOne_118 : decode cX4_passOne 118 = .ok (.ifCond .ne 7, 3) := by decide +kernel
theorem dX4_passOne_121 : decode cX4_passOne 121 = .ok (.aload_n 0, 1) := by decide +kernel
theorem dX4_passOne_122 : decode cX4_passOne 122 = .ok (.invokevirtual 71, 3) := by decide +kernel
theorem dX4_passOne_125 : decode cX4_passOne 125 = .ok (.return_, 1) := by decide +kernel
set_option maxRecDepth 20000 in
theorem ggX4_passByRule_X3_pressesAgainst : GoodIn wsX4_passByRule wsX3_pressesAgainst := goodIn_r _ [9, 10, 11, 12, 13, 14, 71, 72, 73, 74, 75, 76, 77, 78, 79, 80, 81, 82] (by decide +kernel) (by decide +kernel)
set_option maxRecDepth 20000 in
theorem gX4_passByRule_X3_pressesAgainst : GoodIn wsX4_passByRule (wsV RX4 74 RX3 yX3_pressesAgainst wsX3_pressesAgainst) := goodIn_app (goodIn_of _ (by decide +kernel)) ggX4_passByRule_X3_pressesAgainst
set_option maxRecDepth 20000 in
theorem ggX4_passByRule_X4_passOne : GoodIn wsX4_passByRule wsX4_passOne := goodIn_r _ [19, 1, 2, 20, 21, 3, 4, 22, 23, 12, 13, 14, 24, 25, 26, 27, 28, 29, 8, 30, 31, 32, 33, 34, 35, 36, 37, 38, 39, 40, 41, 42, 43, 44, 45, 46, 18, 47, 48, 49, 50, 51, 52, 53, 54, 55, 56, 57, 58, 59, 60, 61, 62, 63, 64, 65, 66, 67, 68, 69, 70, 71, 72, 73, 74, 75, 76, 77, 78, 79, 80, 81, 82] (by decide +kernel) (by decide +kernel)
set_option maxRecDepth 20000 in
theorem gX4_passByRule_X4_passOne : GoodIn wsX4_passByRule (wsV RX4 47 RX4 yX4_passOne wsX4_passOne) := goodIn_app (goodIn_of _ (by decide +kernel)) ggX4_passByRule_X4_passOne
theorem dX4_passByRule_0 : decode cX4_passByRule 0 = .ok (.aload_n 0, 1) := by decide +kernel
theorem dX4_passByRule_1 : decode cX4_passByRule 1 = .ok (.aload_n 1, 1) := by decide +kernel
theorem dX4_passByRule_2 : decode cX4_passByRule 2 = .ok (.aload_n 0, 1) := by decide +kernel
theorem dX4_passByRule_3 : decode cX4_passByRule 3 = .ok (.getfield 13, 3) := by decide +kernel
theorem dX4_passByRule_6 : decode cX4_passByRule 6 = .ok (.iload_n 2, 1) := by decide +kernel
theorem dX4_passByRule_7 : decode cX4_passByRule 7 = .ok (.iload_n 3, 1) := by decide +kernel
theorem dX4_passByRule_8 : decode cX4_passByRule 8 = .ok (.invokevirtual 74, 3) := by decide +kernel
theorem dX4_passByRule_11 : decode cX4_passByRule 11 = .ok (.putfield 26, 3) := by decide +kernel
theorem dX4_passByRule_14 : decode cX4_passByRule 14 = .ok (.aload_n 0, 1) := by decide +kernel
theorem dX4_passByRule_15 : decode cX4_passByRule 15 = .ok (.aload_n 1, 1) := by decide +kernel
theorem dX4_passByRule_16 : decode cX4_passByRule 16 = .ok (.aload_n 0, 1) := by decide +kernel
theorem dX4_passByRule_17 : decode cX4_passByRule 17 = .ok (.getfield 16, 3) := by decide +kernel
theorem dX4_passByRule_20 : decode cX4_passByRule 20 = .ok (.iload_n 2, 1) := by decide +kernel
theorem dX4_passByRule_21 : decode cX4_passByRule 21 = .ok (.iload_n 3, 1) := by decide +kernel
theorem dX4_passByRule_22 : decode cX4_passByRule 22 = .ok (.invokevirtual 74, 3) := by decide +kernel
theorem dX4_passByRule_25 : decode cX4_passByRule 25 = .ok (.putfield 29, 3) := by decide +kernel
theorem dX4_passByRule_28 : decode cX4_passByRule 28 = .ok (.aload_n 0, 1) := by decide +kernel
theorem dX4_passByRule_29 : decode cX4_passByRule 29 = .ok (.getfield 26, 3) := by decide +kernel
theorem dX4_passByRule_32 : decode cX4_passByRule 32 = .ok (.ifCond .ne 10, 3) := by decide +kernel
theorem dX4_passByRule_35 : decode cX4_passByRule 35 = .ok (.aload_n 0, 1) := by decide +kernel
theorem dX4_passByRule_36 : decode cX4_passByRule 36 = .ok (.getfield 29, 3) := by decide +kernel
theorem dX4_passByRule_39 : decode cX4_passByRule 39 = .ok (.ifCond .eq 7, 3) := by decide +kernel
theorem dX4_passByRule_42 : decode cX4_passByRule 42 = .ok (.iconst 1, 1) := by decide +kernel
theorem dX4_passByRule_43 : decode cX4_passByRule 43 = .ok (.goto 4, 3) := by decide +kernel
theorem dX4_passByRule_46 : decode cX4_passByRule 46 = .ok (.iconst 0, 1) := by decide +kernel
theorem dX4_passByRule_47 : decode cX4_passByRule 47 = .ok (.istore 4, 2) := by decide +kernel
theorem dX4_passByRule_49 : decode cX4_passByRule 49 = .ok (.aload_n 0, 1) := by decide +kernel
theorem dX4_passByRule_50 : decode cX4_passByRule 50 = .ok (.aload_n 1, 1) := by decide +kernel
theorem dX4_passByRule_51 : decode cX4_passByRule 51 = .ok (.invokevirtual 47, 3) := by decide +kernel
theorem dX4_passByRule_54 : decode cX4_passByRule 54 = .ok (.iload 4, 2) := by decide +kernel
theorem dX4_passByRule_56 : decode cX4_passByRule 56 = .ok (.ireturn, 1) := by decide +kernel
theorem dX4_gather_0 : decode cX4_gather 0 = .ok (.aload_n 0, 1) := by decide +kernel
theorem dX4_gather_1 : decode cX4_gather 1 = .ok (.getfield 32, 3) := by decide +kernel
theorem dX4_gather_4 : decode cX4_gather 4 = .ok (.ifCond .ne 7, 3) := by decide +kernel
theorem dX4_gather_7 : decode cX4_gather 7 = .ok (.iconst 1, 1) := by decide +kernel
theorem dX4_gather_8 : decode cX4_gather 8 = .ok (.goto 4, 3) := by decide +kernel
theorem dX4_gather_11 : decode cX4_gather 11 = .ok (.iconst 0, 1) := by decide +kernel
theorem dX4_gather_12 : decode cX4_gather 12 = .ok (.istore_n 1, 1) := by decide +kernel
theorem dX4_gather_13 : decode cX4_gather 13 = .ok (.aload_n 0, 1) := by decide +kernel
theorem dX4_gather_14 : decode cX4_gather 14 = .ok (.iload_n 1, 1) := by decide +kernel
theorem dX4_gather_15 : decode cX4_gather 15 = .ok (.ifCond .eq 10, 3) := by decide +kernel
theorem dX4_gather_18 : decode cX4_gather 18 = .ok (.aload_n 0, 1) := by decide +kernel
theorem dX4_gather_19 : decode cX4_gather 19 = .ok (.getfield 13, 3) := by decide +kernel
theorem dX4_gather_22 : decode cX4_gather 22 = .ok (.goto 14, 3) := by decide +kernel
theorem dX4_gather_25 : decode cX4_gather 25 = .ok (.aload_n 0, 1) := by decide +kernel
theorem dX4_gather_26 : decode cX4_gather 26 = .ok (.getfield 35, 3) := by decide +kernel
theorem dX4_gather_29 : decode cX4_gather 29 = .ok (.aload_n 0, 1) := by decide +kernel
theorem dX4_gather_30 : decode cX4_gather 30 = .ok (.getfield 13, 3) := by decide +kernel
theorem dX4_gather_33 : decode cX4_gather 33 = .ok (.invokestatic 78, 3) := by decide +kernel
theorem dX4_gather_36 : decode cX4_gather 36 = .ok (.putfield 35, 3) := by decide +kernel
theorem dX4_gather_39 : decode cX4_gather 39 = .ok (.aload_n 0, 1) := by decide +kernel
theorem dX4_gather_40 : decode cX4_gather 40 = .ok (.iload_n 1, 1) := by decide +kernel
theorem dX4_gather_41 : decode cX4_gather 41 = .ok (.ifCond .eq 10, 3) := by decide +kernel
theorem dX4_gather_44 : decode cX4_gather 44 = .ok (.aload_n 0, 1) := by decide +kernel
theorem dX4_gather_45 : decode cX4_gather 45 = .ok (.getfield 13, 3) := by decide +kernel
theorem dX4_gather_48 : decode cX4_gather 48 = .ok (.goto 14, 3) := by decide +kernel
theorem dX4_gather_51 : decode cX4_gather 51 = .ok (.aload_n 0, 1) := by decide +kernel
theorem dX4_gather_52 : decode cX4_gather 52 = .ok (.getfield 38, 3) := by decide +kernel
theorem dX4_gather_55 : decode cX4_gather 55 = .ok (.aload_n 0, 1) := by decide +kernel
theorem dX4_gather_56 : decode cX4_gather 56 = .ok (.getfield 13, 3) := by decide +kernel
theorem dX4_gather_59 : decode cX4_gather 59 = .ok (.invokestatic 82, 3) := by decide +kernel
theorem dX4_gather_62 : decode cX4_gather 62 = .ok (.putfield 38, 3) := by decide +kernel
theorem dX4_gather_65 : decode cX4_gather 65 = .ok (.aload_n 0, 1) := by decide +kernel
theorem dX4_gather_66 : decode cX4_gather 66 = .ok (.iload_n 1, 1) := by decide +kernel
theorem dX4_gather_67 : decode cX4_gather 67 = .ok (.ifCond .eq 10, 3) := by decide +kernel
theorem dX4_gather_70 : decode cX4_gather 70 = .ok (.aload_n 0, 1) := by decide +kernel
theorem dX4_gather_71 : decode cX4_gather 71 = .ok (.getfield 16, 3) := by decide +kernel
theorem dX4_gather_74 : decode cX4_gather 74 = .ok (.goto 14, 3) := by decide +kernel
theorem dX4_gather_77 : decode cX4_gather 77 = .ok (.aload_n 0, 1) := by decide +kernel
theorem dX4_gather_78 : decode cX4_gather 78 = .ok (.getfield 41, 3) := by decide +kernel
theorem dX4_gather_81 : decode cX4_gather 81 = .ok (.aload_n 0, 1) := by decide +kernel
theorem dX4_gather_82 : decode cX4_gather 82 = .ok (.getfield 16, 3) := by decide +kernel
theorem dX4_gather_85 : decode cX4_gather 85 = .ok (.invokestatic 78, 3) := by decide +kernel
theorem dX4_gather_88 : decode cX4_gather 88 = .ok (.putfield 41, 3) := by decide +kernel
theorem dX4_gather_91 : decode cX4_gather 91 = .ok (.aload_n 0, 1) := by decide +kernel
theorem dX4_gather_92 : decode cX4_gather 92 = .ok (.iload_n 1, 1) := by decide +kernel
theorem dX4_gather_93 : decode cX4_gather 93 = .ok (.ifCond .eq 10, 3) := by decide +kernel
theorem dX4_gather_96 : decode cX4_gather 96 = .ok (.aload_n 0, 1) := by decide +kernel
theorem dX4_gather_97 : decode cX4_gather 97 = .ok (.getfield 16, 3) := by decide +kernel
theorem dX4_gather_100 : decode cX4_gather 100 = .ok (.goto 14, 3) := by decide +kernel
theorem dX4_gather_103 : decode cX4_gather 103 = .ok (.aload_n 0, 1) := by decide +kernel
theorem dX4_gather_104 : decode cX4_gather 104 = .ok (.getfield 44, 3) := by decide +kernel
theorem dX4_gather_107 : decode cX4_gather 107 = .ok (.aload_n 0, 1) := by decide +kernel
theorem dX4_gather_108 : decode cX4_gather 108 = .ok (.getfield 16, 3) := by decide +kernel
theorem dX4_gather_111 : decode cX4_gather 111 = .ok (.invokestatic 82, 3) := by decide +kernel
theorem dX4_gather_114 : decode cX4_gather 114 = .ok (.putfield 44, 3) := by decide +kernel
theorem dX4_gather_117 : decode cX4_gather 117 = .ok (.aload_n 0, 1) := by decide +kernel
theorem dX4_gather_118 : decode cX4_gather 118 = .ok (.dup, 1) := by decide +kernel
theorem dX4_gather_119 : decode cX4_gather 119 = .ok (.getfield 32, 3) := by decide +kernel
theorem dX4_gather_122 : decode cX4_gather 122 = .ok (.iconst 1, 1) := by decide +kernel
theorem dX4_gather_123 : decode cX4_gather 123 = .ok (.iadd, 1) := by decide +kernel
theorem dX4_gather_124 : decode cX4_gather 124 = .ok (.putfield 32, 3) := by decide +kernel
theorem dX4_gather_127 : decode cX4_gather 127 = .ok (.return_, 1) := by decide +kernel
theorem dX4_tailLength_0 : decode cX4_tailLength 0 = .ok (.aload_n 0, 1) := by decide +kernel
theorem dX4_tailLength_1 : decode cX4_tailLength 1 = .ok (.getfield 32, 3) := by decide +kernel
theorem dX4_tailLength_4 : decode cX4_tailLength 4 = .ok (.ifCond .ne 7, 3) := by decide +kernel
theorem dX4_tailLength_7 : decode cX4_tailLength 7 = .ok (.iconst 0, 1) := by decide +kernel
theorem dX4_tailLength_8 : decode cX4_tailLength 8 = .ok (.goto 24, 3) := by decide +kernel
theorem dX4_tailLength_11 : decode cX4_tailLength 11 = .ok (.aload_n 0, 1) := by decide +kernel
theorem dX4_tailLength_12 : decode cX4_tailLength 12 = .ok (.getfield 38, 3) := by decide +kernel
theorem dX4_tailLength_15 : decode cX4_tailLength 15 = .ok (.aload_n 0, 1) := by decide +kernel
theorem dX4_tailLength_16 : decode cX4_tailLength 16 = .ok (.getfield 35, 3) := by decide +kernel
theorem dX4_tailLength_19 : decode cX4_tailLength 19 = .ok (.isub, 1) := by decide +kernel
theorem dX4_tailLength_20 : decode cX4_tailLength 20 = .ok (.aload_n 0, 1) := by decide +kernel
theorem dX4_tailLength_21 : decode cX4_tailLength 21 = .ok (.getfield 44, 3) := by decide +kernel
theorem dX4_tailLength_24 : decode cX4_tailLength 24 = .ok (.aload_n 0, 1) := by decide +kernel
theorem dX4_tailLength_25 : decode cX4_tailLength 25 = .ok (.getfield 41, 3) := by decide +kernel
theorem dX4_tailLength_28 : decode cX4_tailLength 28 = .ok (.isub, 1) := by decide +kernel
theorem dX4_tailLength_29 : decode cX4_tailLength 29 = .ok (.invokestatic 82, 3) := by decide +kernel
theorem dX4_tailLength_32 : decode cX4_tailLength 32 = .ok (.ireturn, 1) := by decide +kernel
theorem dX5_init_0 : decode cX5_init 0 = .ok (.aload_n 0, 1) := by decide +kernel
theorem dX5_init_1 : decode cX5_init 1 = .ok (.invokespecial 3, 3) := by decide +kernel
theorem dX5_init_4 : decode cX5_init 4 = .ok (.aload_n 0, 1) := by decide +kernel
theorem dX5_init_5 : decode cX5_init 5 = .ok (.bipush 10, 2) := by decide +kernel
theorem dX5_init_7 : decode cX5_init 7 = .ok (.newarray .int, 2) := by decide +kernel
theorem dX5_init_9 : decode cX5_init 9 = .ok (.putfield 11, 3) := by decide +kernel
theorem dX5_init_12 : decode cX5_init 12 = .ok (.aload_n 0, 1) := by decide +kernel
theorem dX5_init_13 : decode cX5_init 13 = .ok (.bipush 10, 2) := by decide +kernel
theorem dX5_init_15 : decode cX5_init 15 = .ok (.newarray .int, 2) := by decide +kernel
theorem dX5_init_17 : decode cX5_init 17 = .ok (.putfield 15, 3) := by decide +kernel
theorem dX5_init_20 : decode cX5_init 20 = .ok (.aload_n 0, 1) := by decide +kernel
theorem dX5_init_21 : decode cX5_init 21 = .ok (.bipush 6, 2) := by decide +kernel
theorem dX5_init_23 : decode cX5_init 23 = .ok (.newarray .int, 2) := by decide +kernel
theorem dX5_init_25 : decode cX5_init 25 = .ok (.putfield 18, 3) := by decide +kernel
theorem dX5_init_28 : decode cX5_init 28 = .ok (.aload_n 0, 1) := by decide +kernel
theorem dX5_init_29 : decode cX5_init 29 = .ok (.bipush 6, 2) := by decide +kernel
theorem dX5_init_31 : decode cX5_init 31 = .ok (.newarray .int, 2) := by decide +kernel
theorem dX5_init_33 : decode cX5_init 33 = .ok (.putfield 21, 3) := by decide +kernel
theorem dX5_init_36 : decode cX5_init 36 = .ok (.aload_n 0, 1) := by decide +kernel
theorem dX5_init_37 : decode cX5_init 37 = .ok (.bipush 15, 2) := by decide +kernel
theorem dX5_init_39 : decode cX5_init 39 = .ok (.newarray .int, 2) := by decide +kernel
theorem dX5_init_41 : decode cX5_init 41 = .ok (.putfield 24, 3) := by decide +kernel
theorem dX5_init_44 : decode cX5_init 44 = .ok (.aload_n 0, 1) := by decide +kernel
theorem dX5_init_45 : decode cX5_init 45 = .ok (.bipush 15, 2) := by decide +kernel
theorem dX5_init_47 : decode cX5_init 47 = .ok (.newarray .int, 2) := by decide +kernel
theorem dX5_init_49 : decode cX5_init 49 = .ok (.putfield 27, 3) := by decide +kernel
theorem dX5_init_52 : decode cX5_init 52 = .ok (.return_, 1) := by decide +kernel
theorem dX5_clear_0 : decode cX5_clear 0 = .ok (.aload_n 0, 1) := by decide +kernel
theorem dX5_clear_1 : decode cX5_clear 1 = .ok (.iconst 0, 1) := by decide +kernel
theorem dX5_clear_2 : decode cX5_clear 2 = .ok (.putfield 30, 3) := by decide +kernel
theorem dX5_clear_5 : decode cX5_clear 5 = .ok (.aload_n 0, 1) := by decide +kernel
theorem dX5_clear_6 : decode cX5_clear 6 = .ok (.iconst 0, 1) := by decide +kernel
theorem dX5_clear_7 : decode cX5_clear 7 = .ok (.putfield 34, 3) := by decide +kernel
theorem dX5_clear_10 : decode cX5_clear 10 = .ok (.aload_n 0, 1) := by decide +kernel
theorem dX5_clear_11 : decode cX5_clear 11 = .ok (.iconst 0, 1) := by decide +kernel
theorem dX5_clear_12 : decode cX5_clear 12 = .ok (.putfield 37, 3) := by decide +kernel
theorem dX5_clear_15 : decode cX5_clear 15 = .ok (.return_, 1) := by decide +kernel
set_option maxRecDepth 20000 in
theorem ggX5_addSeen_X5_putPair : GoodIn wsX5_addSeen wsX5_putPair := goodIn_r _ [7] (by decide +kernel) (by decide +kernel)
set_option maxRecDepth 20000 in
theorem gX5_addSeen_X5_putPair : GoodIn wsX5_addSeen (va_wsS RX5 40 yX5_putPair wsX5_putPair) := goodIn_app (goodIn_of _ (by decide +kernel)) ggX5_addSeen_X5_putPair
theorem dX5_addSeen_0 : decode cX5_addSeen 0 = .ok (.aload_n 0, 1) := by decide +kernel
theorem dX5_addSeen_1 : decode cX5_addSeen 1 = .ok (.getfield 11, 3) := by decide +kernel
theorem dX5_addSeen_4 : decode cX5_addSeen 4 = .ok (.aload_n 0, 1) := by decide +kernel
theorem dX5_addSeen_5 : decode cX5_addSeen 5 = .ok (.getfield 15, 3) := by decide +kernel
theorem dX5_addSeen_8 : decode cX5_addSeen 8 = .ok (.aload_n 0, 1) := by decide +kernel
theorem dX5_addSeen_9 : decode cX5_addSeen 9 = .ok (.getfield 30, 3) := by decide +kernel
theorem dX5_addSeen_12 : decode cX5_addSeen 12 = .ok (.iload_n 1, 1) := by decide +kernel
theorem dX5_addSeen_13 : decode cX5_addSeen 13 = .ok (.iload_n 2, 1) := by decide +kernel
theorem dX5_addSeen_14 : decode cX5_addSeen 14 = .ok (.invokestatic 40, 3) := by decide +kernel
theorem dX5_addSeen_17 : decode cX5_addSeen 17 = .ok (.istore_n 3, 1) := by decide +kernel
theorem dX5_addSeen_18 : decode cX5_addSeen 18 = .ok (.aload_n 0, 1) := by decide +kernel
theorem dX5_addSeen_19 : decode cX5_addSeen 19 = .ok (.dup, 1) := by decide +kernel
theorem dX5_addSeen_20 : decode cX5_addSeen 20 = .ok (.getfield 30, 3) := by decide +kernel
theorem dX5_addSeen_23 : decode cX5_addSeen 23 = .ok (.iload_n 3, 1) := by decide +kernel
theorem dX5_addSeen_24 : decode cX5_addSeen 24 = .ok (.ifCond .eq 7, 3) := by decide +kernel
theorem dX5_addSeen_27 : decode cX5_addSeen 27 = .ok (.iconst 1, 1) := by decide +kernel
theorem dX5_addSeen_28 : decode cX5_addSeen 28 = .ok (.goto 4, 3) := by decide +kernel
theorem dX5_addSeen_31 : decode cX5_addSeen 31 = .ok (.iconst 0, 1) := by decide +kernel
theorem dX5_addSeen_32 : decode cX5_addSeen 32 = .ok (.iadd, 1) := by decide +kernel
theorem dX5_addSeen_33 : decode cX5_addSeen 33 = .ok (.putfield 30, 3) := by decide +kernel
theorem dX5_addSeen_36 : decode cX5_addSeen 36 = .ok (.iload_n 3, 1) := by decide +kernel
theorem dX5_addSeen_37 : decode cX5_addSeen 37 = .ok (.ireturn, 1) := by decide +kernel
set_option maxRecDepth 20000 in
theorem ggX5_addTail_X5_putPair : GoodIn wsX5_addTail wsX5_putPair := goodIn_r _ [7] (by decide +kernel) (by decide +kernel)
set_option maxRecDepth 20000 in
theorem gX5_addTail_X5_putPair : GoodIn wsX5_addTail (va_wsS RX5 40 yX5_putPair wsX5_putPair) := goodIn_app (goodIn_of _ (by decide +kernel)) ggX5_addTail_X5_putPair
theorem dX5_addTail_0 : decode cX5_addTail 0 = .ok (.aload_n 0, 1) := by decide +kernel
theorem dX5_addTail_1 : decode cX5_addTail 1 = .ok (.getfield 18, 3) := by decide +kernel
theorem dX5_addTail_4 : decode cX5_addTail 4 = .ok (.aload_n 0, 1) := by decide +kernel
theorem dX5_addTail_5 : decode cX5_addTail 5 = .ok (.getfield 21, 3) := by decide +kernel
theorem dX5_addTail_8 : decode cX5_addTail 8 = .ok (.aload_n 0, 1) := by decide +kernel
theorem dX5_addTail_9 : decode cX5_addTail 9 = .ok (.getfield 34, 3) := by decide +kernel
theorem dX5_addTail_12 : decode cX5_addTail 12 = .ok (.iload_n 1, 1) := by decide +kernel
theorem dX5_addTail_13 : decode cX5_addTail 13 = .ok (.iload_n 2, 1) := by decide +kernel
theorem dX5_addTail_14 : decode cX5_addTail 14 = .ok (.invokestatic 40, 3) := by decide +kernel
theorem dX5_addTail_17 : decode cX5_addTail 17 = .ok (.istore_n 3, 1) := by decide +kernel
theorem dX5_addTail_18 : decode cX5_addTail 18 = .ok (.aload_n 0, 1) := by decide +kernel
theorem dX5_addTail_19 : decode cX5_addTail 19 = .ok (.dup, 1) := by decide +kernel
theorem dX5_addTail_20 : decode cX5_addTail 20 = .ok (.getfield 34, 3) := by decide +kernel
theorem dX5_addTail_23 : decode cX5_addTail 23 = .ok (.iload_n 3, 1) := by decide +kernel
theorem dX5_addTail_24 : decode cX5_addTail 24 = .ok (.ifCond .eq 7, 3) := by decide +kernel
theorem dX5_addTail_27 : decode cX5_addTail 27 = .ok (.iconst 1, 1) := by decide +kernel
theorem dX5_addTail_28 : decode cX5_addTail 28 = .ok (.goto 4, 3) := by decide +kernel
theorem dX5_addTail_31 : decode cX5_addTail 31 = .ok (.iconst 0, 1) := by decide +kernel
theorem dX5_addTail_32 : decode cX5_addTail 32 = .ok (.iadd, 1) := by decide +kernel
theorem dX5_addTail_33 : decode cX5_addTail 33 = .ok (.putfield 34, 3) := by decide +kernel
theorem dX5_addTail_36 : decode cX5_addTail 36 = .ok (.iload_n 3, 1) := by decide +kernel
theorem dX5_addTail_37 : decode cX5_addTail 37 = .ok (.ireturn, 1) := by decide +kernel
set_option maxRecDepth 20000 in
theorem ggX5_addToBook_X5_putPair : GoodIn wsX5_addToBook wsX5_putPair := goodIn_r _ [7] (by decide +kernel) (by decide +kernel)
set_option maxRecDepth 20000 in
theorem gX5_addToBook_X5_putPair : GoodIn wsX5_addToBook (va_wsS RX5 40 yX5_putPair wsX5_putPair) := goodIn_app (goodIn_of _ (by decide +kernel)) ggX5_addToBook_X5_putPair
theorem dX5_addToBook_0 : decode cX5_addToBook 0 = .ok (.aload_n 0, 1) := by decide +kernel
theorem dX5_addToBook_1 : decode cX5_addToBook 1 = .ok (.getfield 24, 3) := by decide +kernel
theorem dX5_addToBook_4 : decode cX5_addToBook 4 = .ok (.aload_n 0, 1) := by decide +kernel
theorem dX5_addToBook_5 : decode cX5_addToBook 5 = .ok (.getfield 27, 3) := by decide +kernel
theorem dX5_addToBook_8 : decode cX5_addToBook 8 = .ok (.aload_n 0, 1) := by decide +kernel
theorem dX5_addToBook_9 : decode cX5_addToBook 9 = .ok (.getfield 37, 3) := by decide +kernel
theorem dX5_addToBook_12 : decode cX5_addToBook 12 = .ok (.iload_n 1, 1) := by decide +kernel
theorem dX5_addToBook_13 : decode cX5_addToBook 13 = .ok (.iload_n 2, 1) := by decide +kernel
theorem dX5_addToBook_14 : decode cX5_addToBook 14 = .ok (.invokestatic 40, 3) := by decide +kernel
theorem dX5_addToBook_17 : decode cX5_addToBook 17 = .ok (.istore_n 3, 1) := by decide +kernel
theorem dX5_addToBook_18 : decode cX5_addToBook 18 = .ok (.aload_n 0, 1) := by decide +kernel
theorem dX5_addToBook_19 : decode cX5_addToBook 19 = .ok (.dup, 1) := by decide +kernel
theorem dX5_addToBook_20 : decode cX5_addToBook 20 = .ok (.getfield 37, 3) := by decide +kernel
theorem dX5_addToBook_23 : decode cX5_addToBook 23 = .ok (.iload_n 3, 1) := by decide +kernel
theorem dX5_addToBook_24 : decode cX5_addToBook 24 = .ok (.ifCond .eq 7, 3) := by decide +kernel
theorem dX5_addToBook_27 : decode cX5_addToBook 27 = .ok (.iconst 1, 1) := by decide +kernel
theorem dX5_addToBook_28 : decode cX5_addToBook 28 = .ok (.goto 4, 3) := by decide +kernel
theorem dX5_addToBook_31 : decode cX5_addToBook 31 = .ok (.iconst 0, 1) := by decide +kernel
theorem dX5_addToBook_32 : decode cX5_addToBook 32 = .ok (.iadd, 1) := by decide +kernel
theorem dX5_addToBook_33 : decode cX5_addToBook 33 = .ok (.putfield 37, 3) := by decide +kernel
theorem dX5_addToBook_36 : decode cX5_addToBook 36 = .ok (.iload_n 3, 1) := by decide +kernel
theorem dX5_addToBook_37 : decode cX5_addToBook 37 = .ok (.ireturn, 1) := by decide +kernel
set_option maxRecDepth 20000 in
theorem ggX5_isWormFit_X5_entryAt : GoodIn wsX5_isWormFit wsX5_entryAt := goodIn_r _ [8] (by decide +kernel) (by decide +kernel)
set_option maxRecDepth 20000 in
theorem gX5_isWormFit_X5_entryAt : GoodIn wsX5_isWormFit (va_wsS RX5 44 yX5_entryAt wsX5_entryAt) := goodIn_app (goodIn_of _ (by decide +kernel)) ggX5_isWormFit_X5_entryAt
set_option maxRecDepth 20000 in
theorem ggX5_isWormFit_X5_placeOf : GoodIn wsX5_isWormFit wsX5_placeOf := goodIn_r _ [11] (by decide +kernel) (by decide +kernel)
set_option maxRecDepth 20000 in
theorem gX5_isWormFit_X5_placeOf : GoodIn wsX5_isWormFit (va_wsS RX5 48 yX5_placeOf wsX5_placeOf) := goodIn_app (goodIn_of _ (by decide +kernel)) ggX5_isWormFit_X5_placeOf
set_option maxRecDepth 20000 in
theorem ggX5_isWormFit_X3_jumpAt : GoodIn wsX5_isWormFit wsX3_jumpAt := goodIn_r _ [16, 17, 18, 28, 29, 30, 31, 32, 33, 34, 35, 36, 37, 38, 39] (by decide +kernel) (by decide +kernel)
set_option maxRecDepth 20000 in
theorem gX5_isWormFit_X3_jumpAt : GoodIn wsX5_isWormFit (wsV RX5 57 RX3 yX3_jumpAt wsX3_jumpAt) := goodIn_app (goodIn_of _ (by decide +kernel)) ggX5_isWormFit_X3_jumpAt
theorem dX5_isWormFit_0 : decode cX5_isWormFit 0 = .ok (.iconst 0, 1) := by decide +kernel
theorem dX5_isWormFit_1 : decode cX5_isWormFit 1 = .ok (.istore 5, 2) := by decide +kernel
theorem dX5_isWormFit_3 : decode cX5_isWormFit 3 = .ok (.iload 5, 2) := by decide +kernel
theorem dX5_isWormFit_5 : decode cX5_isWormFit 5 = .ok (.aload_n 0, 1) := by decide +kernel
theorem dX5_isWormFit_6 : decode cX5_isWormFit 6 = .ok (.getfield 30, 3) := by decide +kernel
theorem dX5_isWormFit_9 : decode cX5_isWormFit 9 = .ok (.if_icmp .ge 58, 3) := by decide +kernel
theorem dX5_isWormFit_12 : decode cX5_isWormFit 12 = .ok (.aload_n 0, 1) := by decide +kernel
theorem dX5_isWormFit_13 : decode cX5_isWormFit 13 = .ok (.getfield 11, 3) := by decide +kernel
theorem dX5_isWormFit_16 : decode cX5_isWormFit 16 = .ok (.iload 5, 2) := by decide +kernel
theorem dX5_isWormFit_18 : decode cX5_isWormFit 18 = .ok (.invokestatic 44, 3) := by decide +kernel
theorem dX5_isWormFit_21 : decode cX5_isWormFit 21 = .ok (.istore 6, 2) := by decide +kernel
theorem dX5_isWormFit_23 : decode cX5_isWormFit 23 = .ok (.iload 6, 2) := by decide +kernel
theorem dX5_isWormFit_25 : decode cX5_isWormFit 25 = .ok (.iload_n 2, 1) := by decide +kernel
theorem dX5_isWormFit_26 : decode cX5_isWormFit 26 = .ok (.invokestatic 48, 3) := by decide +kernel
theorem dX5_isWormFit_29 : decode cX5_isWormFit 29 = .ok (.iload_n 3, 1) := by decide +kernel
theorem dX5_isWormFit_30 : decode cX5_isWormFit 30 = .ok (.if_icmp .ne 31, 3) := by decide +kernel
theorem dX5_isWormFit_33 : decode cX5_isWormFit 33 = .ok (.aload_n 0, 1) := by decide +kernel
theorem dX5_isWormFit_34 : decode cX5_isWormFit 34 = .ok (.getfield 15, 3) := by decide +kernel
theorem dX5_isWormFit_37 : decode cX5_isWormFit 37 = .ok (.iload 5, 2) := by decide +kernel
theorem dX5_isWormFit_39 : decode cX5_isWormFit 39 = .ok (.invokestatic 44, 3) := by decide +kernel
theorem dX5_isWormFit_42 : decode cX5_isWormFit 42 = .ok (.aload_n 1, 1) := by decide +kernel
theorem dX5_isWormFit_43 : decode cX5_isWormFit 43 = .ok (.getfield 52, 3) := by decide +kernel
theorem dX5_isWormFit_46 : decode cX5_isWormFit 46 = .ok (.iload 4, 2) := by decide +kernel
theorem dX5_isWormFit_48 : decode cX5_isWormFit 48 = .ok (.iadd, 1) := by decide +kernel
theorem dX5_isWormFit_49 : decode cX5_isWormFit 49 = .ok (.aload_n 1, 1) := by decide +kernel
theorem dX5_isWormFit_50 : decode cX5_isWormFit 50 = .ok (.iload 6, 2) := by decide +kernel
theorem dX5_isWormFit_52 : decode cX5_isWormFit 52 = .ok (.invokevirtual 57, 3) := by decide +kernel
theorem dX5_isWormFit_55 : decode cX5_isWormFit 55 = .ok (.iadd, 1) := by decide +kernel
theorem dX5_isWormFit_56 : decode cX5_isWormFit 56 = .ok (.if_icmp .eq 5, 3) := by decide +kernel
theorem dX5_isWormFit_59 : decode cX5_isWormFit 59 = .ok (.iconst 0, 1) := by decide +kernel
theorem dX5_isWormFit_60 : decode cX5_isWormFit 60 = .ok (.ireturn, 1) := by decide +kernel
theorem dX5_isWormFit_61 : decode cX5_isWormFit 61 = .ok (.iinc 5 1, 3) := by decide +kernel
theorem dX5_isWormFit_64 : decode cX5_isWormFit 64 = .ok (.goto (-61), 3) := by decide +kernel
theorem dX5_isWormFit_67 : decode cX5_isWormFit 67 = .ok (.iconst 1, 1) := by decide +kernel
theorem dX5_isWormFit_68 : decode cX5_isWormFit 68 = .ok (.ireturn, 1) := by decide +kernel
set_option maxRecDepth 20000 in
theorem ggX5_isPeriod_X5_isWormFit : GoodIn wsX5_isPeriod wsX5_isWormFit := goodIn_r _ [5, 6, 7, 8, 9, 10, 11, 4, 12, 13, 14, 15, 16, 17, 18, 19, 20, 21, 22, 23, 24, 25, 26, 27, 28, 29, 30, 31, 32, 33, 34, 35, 36, 37, 38, 39, 40, 41, 42, 43] (by decide +kernel) (by decide +kernel)
set_option maxRecDepth 20000 in
theorem gX5_isPeriod_X5_isWormFit : GoodIn wsX5_isPeriod (wsV RX5 61 RX5 yX5_isWormFit wsX5_isWormFit) := goodIn_app (goodIn_of _ (by decide +kernel)) ggX5_isPeriod_X5_isWormFit
theorem dX5_isPeriod_0 : decode cX5_isPeriod 0 = .ok (.iconst 0, 1) := by decide +kernel
theorem dX5_isPeriod_1 : decode cX5_isPeriod 1 = .ok (.istore_n 3, 1) := by decide +kernel
theorem dX5_isPeriod_2 : decode cX5_isPeriod 2 = .ok (.iload_n 3, 1) := by decide +kernel
theorem dX5_isPeriod_3 : decode cX5_isPeriod 3 = .ok (.iload_n 2, 1) := by decide +kernel
theorem dX5_isPeriod_4 : decode cX5_isPeriod 4 = .ok (.if_icmp .ge 52, 3) := by decide +kernel
theorem dX5_isPeriod_7 : decode cX5_isPeriod 7 = .ok (.iconst 0, 1) := by decide +kernel
theorem dX5_isPeriod_8 : decode cX5_isPeriod 8 = .ok (.istore 4, 2) := by decide +kernel
theorem dX5_isPeriod_10 : decode cX5_isPeriod 10 = .ok (.bipush (-9), 2) := by decide +kernel
theorem dX5_isPeriod_12 : decode cX5_isPeriod 12 = .ok (.istore 5, 2) := by decide +kernel
theorem dX5_isPeriod_14 : decode cX5_isPeriod 14 = .ok (.iload 5, 2) := by decide +kernel
theorem dX5_isPeriod_16 : decode cX5_isPeriod 16 = .ok (.bipush 9, 2) := by decide +kernel
theorem dX5_isPeriod_18 : decode cX5_isPeriod 18 = .ok (.if_icmp .gt 25, 3) := by decide +kernel
theorem dX5_isPeriod_21 : decode cX5_isPeriod 21 = .ok (.iload 4, 2) := by decide +kernel
theorem dX5_isPeriod_23 : decode cX5_isPeriod 23 = .ok (.ifCond .ne 20, 3) := by decide +kernel
theorem dX5_isPeriod_26 : decode cX5_isPeriod 26 = .ok (.aload_n 0, 1) := by decide +kernel
theorem dX5_isPeriod_27 : decode cX5_isPeriod 27 = .ok (.aload_n 1, 1) := by decide +kernel
theorem dX5_isPeriod_28 : decode cX5_isPeriod 28 = .ok (.iload_n 2, 1) := by decide +kernel
theorem dX5_isPeriod_29 : decode cX5_isPeriod 29 = .ok (.iload_n 3, 1) := by decide +kernel
theorem dX5_isPeriod_30 : decode cX5_isPeriod 30 = .ok (.iload 5, 2) := by decide +kernel
theorem dX5_isPeriod_32 : decode cX5_isPeriod 32 = .ok (.invokevirtual 61, 3) := by decide +kernel
theorem dX5_isPeriod_35 : decode cX5_isPeriod 35 = .ok (.istore 4, 2) := by decide +kernel
theorem dX5_isPeriod_37 : decode cX5_isPeriod 37 = .ok (.iinc 5 1, 3) := by decide +kernel
theorem dX5_isPeriod_40 : decode cX5_isPeriod 40 = .ok (.goto (-26), 3) := by decide +kernel
theorem dX5_isPeriod_43 : decode cX5_isPeriod 43 = .ok (.iload 4, 2) := by decide +kernel
theorem dX5_isPeriod_45 : decode cX5_isPeriod 45 = .ok (.ifCond .ne 5, 3) := by decide +kernel
theorem dX5_isPeriod_48 : decode cX5_isPeriod 48 = .ok (.iconst 0, 1) := by decide +kernel
theorem dX5_isPeriod_49 : decode cX5_isPeriod 49 = .ok (.ireturn, 1) := by decide +kernel
theorem dX5_isPeriod_50 : decode cX5_isPeriod 50 = .ok (.iinc 3 1, 3) := by decide +kernel
theorem dX5_isPeriod_53 : decode cX5_isPeriod 53 = .ok (.goto (-51), 3) := by decide +kernel
theorem dX5_isPeriod_56 : decode cX5_isPeriod 56 = .ok (.iconst 1, 1) := by decide +kernel
theorem dX5_isPeriod_57 : decode cX5_isPeriod 57 = .ok (.ireturn, 1) := by decide +kernel
set_option maxRecDepth 20000 in
theorem ggX5_hasSeenPlaceOf_X5_entryAt : GoodIn wsX5_hasSeenPlaceOf wsX5_entryAt := goodIn_r _ [6] (by decide +kernel) (by decide +kernel)
set_option maxRecDepth 20000 in
theorem gX5_hasSeenPlaceOf_X5_entryAt : GoodIn wsX5_hasSeenPlaceOf (va_wsS RX5 44 yX5_entryAt wsX5_entryAt) := goodIn_app (goodIn_of _ (by decide +kernel)) ggX5_hasSeenPlaceOf_X5_entryAt
set_option maxRecDepth 20000 in
theorem ggX5_hasSeenPlaceOf_X5_placeOf : GoodIn wsX5_hasSeenPlaceOf wsX5_placeOf := goodIn_r _ [9] (by decide +kernel) (by decide +kernel)
set_option maxRecDepth 20000 in
theorem gX5_hasSeenPlaceOf_X5_placeOf : GoodIn wsX5_hasSeenPlaceOf (va_wsS RX5 48 yX5_placeOf wsX5_placeOf) := goodIn_app (goodIn_of _ (by decide +kernel)) ggX5_hasSeenPlaceOf_X5_placeOf
theorem dX5_hasSeenPlaceOf_0 : decode cX5_hasSeenPlaceOf 0 = .ok (.iconst 0, 1) := by decide +kernel
theorem dX5_hasSeenPlaceOf_1 : decode cX5_hasSeenPlaceOf 1 = .ok (.istore_n 3, 1) := by decide +kernel
theorem dX5_hasSeenPlaceOf_2 : decode cX5_hasSeenPlaceOf 2 = .ok (.iload_n 3, 1) := by decide +kernel
theorem dX5_hasSeenPlaceOf_3 : decode cX5_hasSeenPlaceOf 3 = .ok (.aload_n 0, 1) := by decide +kernel
theorem dX5_hasSeenPlaceOf_4 : decode cX5_hasSeenPlaceOf 4 = .ok (.getfield 30, 3) := by decide +kernel
theorem dX5_hasSeenPlaceOf_7 : decode cX5_hasSeenPlaceOf 7 = .ok (.if_icmp .ge 31, 3) := by decide +kernel
theorem dX5_hasSeenPlaceOf_10 : decode cX5_hasSeenPlaceOf 10 = .ok (.aload_n 0, 1) := by decide +kernel
theorem dX5_hasSeenPlaceOf_11 : decode cX5_hasSeenPlaceOf 11 = .ok (.getfield 11, 3) := by decide +kernel
theorem dX5_hasSeenPlaceOf_14 : decode cX5_hasSeenPlaceOf 14 = .ok (.iload_n 3, 1) := by decide +kernel
theorem dX5_hasSeenPlaceOf_15 : decode cX5_hasSeenPlaceOf 15 = .ok (.invokestatic 44, 3) := by decide +kernel
theorem dX5_hasSeenPlaceOf_18 : decode cX5_hasSeenPlaceOf 18 = .ok (.iload_n 2, 1) := by decide +kernel
theorem dX5_hasSeenPlaceOf_19 : decode cX5_hasSeenPlaceOf 19 = .ok (.invokestatic 48, 3) := by decide +kernel
theorem dX5_hasSeenPlaceOf_22 : decode cX5_hasSeenPlaceOf 22 = .ok (.iload_n 1, 1) := by decide +kernel
theorem dX5_hasSeenPlaceOf_23 : decode cX5_hasSeenPlaceOf 23 = .ok (.iload_n 2, 1) := by decide +kernel
theorem dX5_hasSeenPlaceOf_24 : decode cX5_hasSeenPlaceOf 24 = .ok (.invokestatic 48, 3) := by decide +kernel
theorem dX5_hasSeenPlaceOf_27 : decode cX5_hasSeenPlaceOf 27 = .ok (.if_icmp .ne 5, 3) := by decide +kernel
theorem dX5_hasSeenPlaceOf_30 : decode cX5_hasSeenPlaceOf 30 = .ok (.iconst 1, 1) := by decide +kernel
theorem dX5_hasSeenPlaceOf_31 : decode cX5_hasSeenPlaceOf 31 = .ok (.ireturn, 1) := by decide +kernel
theorem dX5_hasSeenPlaceOf_32 : decode cX5_hasSeenPlaceOf 32 = .ok (.iinc 3 1, 3) := by decide +kernel
theorem dX5_hasSeenPlaceOf_35 : decode cX5_hasSeenPlaceOf 35 = .ok (.goto (-33), 3) := by decide +kernel
theorem dX5_hasSeenPlaceOf_38 : decode cX5_hasSeenPlaceOf 38 = .ok (.iconst 0, 1) := by decide +kernel
theorem dX5_hasSeenPlaceOf_39 : decode cX5_hasSeenPlaceOf 39 = .ok (.ireturn, 1) := by decide +kernel
set_option maxRecDepth 20000 in
theorem ggX5_isAxisFit_X5_entryAt : GoodIn wsX5_isAxisFit wsX5_entryAt := goodIn_r _ [7] (by decide +kernel) (by decide +kernel)
set_option maxRecDepth 20000 in
theorem gX5_isAxisFit_X5_entryAt : GoodIn wsX5_isAxisFit (va_wsS RX5 44 yX5_entryAt wsX5_entryAt) := goodIn_app (goodIn_of _ (by decide +kernel)) ggX5_isAxisFit_X5_entryAt
theorem dX5_isAxisFit_0 : decode cX5_isAxisFit 0 = .ok (.iconst 0, 1) := by decide +kernel
theorem dX5_isAxisFit_1 : decode cX5_isAxisFit 1 = .ok (.istore_n 2, 1) := by decide +kernel
theorem dX5_isAxisFit_2 : decode cX5_isAxisFit 2 = .ok (.iload_n 2, 1) := by decide +kernel
theorem dX5_isAxisFit_3 : decode cX5_isAxisFit 3 = .ok (.aload_n 0, 1) := by decide +kernel
theorem dX5_isAxisFit_4 : decode cX5_isAxisFit 4 = .ok (.getfield 34, 3) := by decide +kernel
theorem dX5_isAxisFit_7 : decode cX5_isAxisFit 7 = .ok (.if_icmp .ge 32, 3) := by decide +kernel
theorem dX5_isAxisFit_10 : decode cX5_isAxisFit 10 = .ok (.iload_n 1, 1) := by decide +kernel
theorem dX5_isAxisFit_11 : decode cX5_isAxisFit 11 = .ok (.aload_n 0, 1) := by decide +kernel
theorem dX5_isAxisFit_12 : decode cX5_isAxisFit 12 = .ok (.getfield 18, 3) := by decide +kernel
theorem dX5_isAxisFit_15 : decode cX5_isAxisFit 15 = .ok (.iload_n 2, 1) := by decide +kernel
theorem dX5_isAxisFit_16 : decode cX5_isAxisFit 16 = .ok (.invokestatic 44, 3) := by decide +kernel
theorem dX5_isAxisFit_19 : decode cX5_isAxisFit 19 = .ok (.imul, 1) := by decide +kernel
theorem dX5_isAxisFit_20 : decode cX5_isAxisFit 20 = .ok (.aload_n 0, 1) := by decide +kernel
theorem dX5_isAxisFit_21 : decode cX5_isAxisFit 21 = .ok (.getfield 21, 3) := by decide +kernel
theorem dX5_isAxisFit_24 : decode cX5_isAxisFit 24 = .ok (.iload_n 2, 1) := by decide +kernel
theorem dX5_isAxisFit_25 : decode cX5_isAxisFit 25 = .ok (.invokestatic 44, 3) := by decide +kernel
theorem dX5_isAxisFit_28 : decode cX5_isAxisFit 28 = .ok (.if_icmp .eq 5, 3) := by decide +kernel
theorem dX5_isAxisFit_31 : decode cX5_isAxisFit 31 = .ok (.iconst 0, 1) := by decide +kernel
theorem dX5_isAxisFit_32 : decode cX5_isAxisFit 32 = .ok (.ireturn, 1) := by decide +kernel
theorem dX5_isAxisFit_33 : decode cX5_isAxisFit 33 = .ok (.iinc 2 1, 3) := by decide +kernel
theorem dX5_isAxisFit_36 : decode cX5_isAxisFit 36 = .ok (.goto (-34), 3) := by decide +kernel
theorem dX5_isAxisFit_39 : decode cX5_isAxisFit 39 = .ok (.iconst 1, 1) := by decide +kernel
theorem dX5_isAxisFit_40 : decode cX5_isAxisFit 40 = .ok (.ireturn, 1) := by decide +kernel
set_option maxRecDepth 20000 in
theorem ggX5_firstWrong_X5_entryAt : GoodIn wsX5_firstWrong wsX5_entryAt := goodIn_r _ [7] (by decide +kernel) (by decide +kernel)
set_option maxRecDepth 20000 in
theorem gX5_firstWrong_X5_entryAt : GoodIn wsX5_firstWrong (va_wsS RX5 44 yX5_entryAt wsX5_entryAt) := goodIn_app (goodIn_of _ (by decide +kernel)) ggX5_firstWrong_X5_entryAt
theorem dX5_firstWrong_0 : decode cX5_firstWrong 0 = .ok (.iconst 0, 1) := by decide +kernel
theorem dX5_firstWrong_1 : decode cX5_firstWrong 1 = .ok (.istore_n 3, 1) := by decide +kernel
theorem dX5_firstWrong_2 : decode cX5_firstWrong 2 = .ok (.iload_n 3, 1) := by decide +kernel
theorem dX5_firstWrong_3 : decode cX5_firstWrong 3 = .ok (.aload_n 0, 1) := by decide +kernel
theorem dX5_firstWrong_4 : decode cX5_firstWrong 4 = .ok (.getfield 37, 3) := by decide +kernel
theorem dX5_firstWrong_7 : decode cX5_firstWrong 7 = .ok (.if_icmp .ge 35, 3) := by decide +kernel
theorem dX5_firstWrong_10 : decode cX5_firstWrong 10 = .ok (.aload_n 0, 1) := by decide +kernel
theorem dX5_firstWrong_11 : decode cX5_firstWrong 11 = .ok (.getfield 24, 3) := by decide +kernel
theorem dX5_firstWrong_14 : decode cX5_firstWrong 14 = .ok (.iload_n 3, 1) := by decide +kernel
theorem dX5_firstWrong_15 : decode cX5_firstWrong 15 = .ok (.invokestatic 44, 3) := by decide +kernel
theorem dX5_firstWrong_18 : decode cX5_firstWrong 18 = .ok (.iload_n 1, 1) := by decide +kernel
theorem dX5_firstWrong_19 : decode cX5_firstWrong 19 = .ok (.if_icmp .ne 15, 3) := by decide +kernel
theorem dX5_firstWrong_22 : decode cX5_firstWrong 22 = .ok (.aload_n 0, 1) := by decide +kernel
theorem dX5_firstWrong_23 : decode cX5_firstWrong 23 = .ok (.getfield 27, 3) := by decide +kernel
theorem dX5_firstWrong_26 : decode cX5_firstWrong 26 = .ok (.iload_n 3, 1) := by decide +kernel
theorem dX5_firstWrong_27 : decode cX5_firstWrong 27 = .ok (.invokestatic 44, 3) := by decide +kernel
theorem dX5_firstWrong_30 : decode cX5_firstWrong 30 = .ok (.iload_n 2, 1) := by decide +kernel
theorem dX5_firstWrong_31 : decode cX5_firstWrong 31 = .ok (.if_icmp .eq 5, 3) := by decide +kernel
theorem dX5_firstWrong_34 : decode cX5_firstWrong 34 = .ok (.iload_n 3, 1) := by decide +kernel
theorem dX5_firstWrong_35 : decode cX5_firstWrong 35 = .ok (.ireturn, 1) := by decide +kernel
theorem dX5_firstWrong_36 : decode cX5_firstWrong 36 = .ok (.iinc 3 1, 3) := by decide +kernel
theorem dX5_firstWrong_39 : decode cX5_firstWrong 39 = .ok (.goto (-37), 3) := by decide +kernel
theorem dX5_firstWrong_42 : decode cX5_firstWrong 42 = .ok (.iconst (-1), 1) := by decide +kernel
theorem dX5_firstWrong_43 : decode cX5_firstWrong 43 = .ok (.ireturn, 1) := by decide +kernel
theorem dX5_putPair_0 : decode cX5_putPair 0 = .ok (.iload_n 2, 1) := by decide +kernel
theorem dX5_putPair_1 : decode cX5_putPair 1 = .ok (.ifCond .lt 15, 3) := by decide +kernel
theorem dX5_putPair_4 : decode cX5_putPair 4 = .ok (.iload_n 2, 1) := by decide +kernel
theorem dX5_putPair_5 : decode cX5_putPair 5 = .ok (.aload_n 0, 1) := by decide +kernel
theorem dX5_putPair_6 : decode cX5_putPair 6 = .ok (.arraylength, 1) := by decide +kernel
theorem dX5_putPair_7 : decode cX5_putPair 7 = .ok (.if_icmp .ge 9, 3) := by decide +kernel
theorem dX5_putPair_10 : decode cX5_putPair 10 = .ok (.iload_n 2, 1) := by decide +kernel
theorem dX5_putPair_11 : decode cX5_putPair 11 = .ok (.aload_n 1, 1) := by decide +kernel
theorem dX5_putPair_12 : decode cX5_putPair 12 = .ok (.arraylength, 1) := by decide +kernel
theorem dX5_putPair_13 : decode cX5_putPair 13 = .ok (.if_icmp .lt 5, 3) := by decide +kernel
theorem dX5_putPair_16 : decode cX5_putPair 16 = .ok (.iconst 0, 1) := by decide +kernel
theorem dX5_putPair_17 : decode cX5_putPair 17 = .ok (.ireturn, 1) := by decide +kernel
theorem dX5_putPair_18 : decode cX5_putPair 18 = .ok (.aload_n 0, 1) := by decide +kernel
theorem dX5_putPair_19 : decode cX5_putPair 19 = .ok (.iload_n 2, 1) := by decide +kernel
theorem dX5_putPair_20 : decode cX5_putPair 20 = .ok (.iload_n 3, 1) := by decide +kernel
theorem dX5_putPair_21 : decode cX5_putPair 21 = .ok (.iastore, 1) := by decide +kernel
theorem dX5_putPair_22 : decode cX5_putPair 22 = .ok (.aload_n 1, 1) := by decide +kernel
theorem dX5_putPair_23 : decode cX5_putPair 23 = .ok (.iload_n 2, 1) := by decide +kernel
theorem dX5_putPair_24 : decode cX5_putPair 24 = .ok (.iload 4, 2) := by decide +kernel
theorem dX5_putPair_26 : decode cX5_putPair 26 = .ok (.iastore, 1) := by decide +kernel
theorem dX5_putPair_27 : decode cX5_putPair 27 = .ok (.iconst 1, 1) := by decide +kernel
theorem dX5_putPair_28 : decode cX5_putPair 28 = .ok (.ireturn, 1) := by decide +kernel
theorem dX5_entryAt_0 : decode cX5_entryAt 0 = .ok (.iload_n 1, 1) := by decide +kernel
theorem dX5_entryAt_1 : decode cX5_entryAt 1 = .ok (.ifCond .lt 15, 3) := by decide +kernel
theorem dX5_entryAt_4 : decode cX5_entryAt 4 = .ok (.iload_n 1, 1) := by decide +kernel
theorem dX5_entryAt_5 : decode cX5_entryAt 5 = .ok (.aload_n 0, 1) := by decide +kernel
theorem dX5_entryAt_6 : decode cX5_entryAt 6 = .ok (.arraylength, 1) := by decide +kernel
theorem dX5_entryAt_7 : decode cX5_entryAt 7 = .ok (.if_icmp .ge 9, 3) := by decide +kernel
theorem dX5_entryAt_10 : decode cX5_entryAt 10 = .ok (.aload_n 0, 1) := by decide +kernel
theorem dX5_entryAt_11 : decode cX5_entryAt 11 = .ok (.iload_n 1, 1) := by decide +kernel
theorem dX5_entryAt_12 : decode cX5_entryAt 12 = .ok (.iaload, 1) := by decide +kernel
theorem dX5_entryAt_13 : decode cX5_entryAt 13 = .ok (.goto 4, 3) := by decide +kernel
theorem dX5_entryAt_16 : decode cX5_entryAt 16 = .ok (.iconst 0, 1) := by decide +kernel
theorem dX5_entryAt_17 : decode cX5_entryAt 17 = .ok (.ireturn, 1) := by decide +kernel
theorem dX5_placeOf_0 : decode cX5_placeOf 0 = .ok (.iload_n 1, 1) := by decide +kernel
theorem dX5_placeOf_1 : decode cX5_placeOf 1 = .ok (.ifCond .le 9, 3) := by decide +kernel
theorem dX5_placeOf_4 : decode cX5_placeOf 4 = .ok (.iload_n 0, 1) := by decide +kernel
theorem dX5_placeOf_5 : decode cX5_placeOf 5 = .ok (.iload_n 1, 1) := by decide +kernel
theorem dX5_placeOf_6 : decode cX5_placeOf 6 = .ok (.irem, 1) := by decide +kernel
theorem dX5_placeOf_7 : decode cX5_placeOf 7 = .ok (.goto 4, 3) := by decide +kernel
theorem dX5_placeOf_10 : decode cX5_placeOf 10 = .ok (.iconst 0, 1) := by decide +kernel
theorem dX5_placeOf_11 : decode cX5_placeOf 11 = .ok (.ireturn, 1) := by decide +kernel
theorem dX6_init_0 : decode cX6_init 0 = .ok (.aload_n 0, 1) := by decide +kernel
theorem dX6_init_1 : decode cX6_init 1 = .ok (.invokespecial 3, 3) := by decide +kernel
theorem dX6_init_4 : decode cX6_init 4 = .ok (.aload_n 0, 1) := by decide +kernel
theorem dX6_init_5 : decode cX6_init 5 = .ok (.sipush 230, 3) := by decide +kernel
theorem dX6_init_8 : decode cX6_init 8 = .ok (.newarray .int, 2) := by decide +kernel
theorem dX6_init_10 : decode cX6_init 10 = .ok (.putfield 11, 3) := by decide +kernel
theorem dX6_init_13 : decode cX6_init 13 = .ok (.aload_n 0, 1) := by decide +kernel
theorem dX6_init_14 : decode cX6_init 14 = .ok (.iconst (-1), 1) := by decide +kernel
theorem dX6_init_15 : decode cX6_init 15 = .ok (.putfield 15, 3) := by decide +kernel
theorem dX6_init_18 : decode cX6_init 18 = .ok (.return_, 1) := by decide +kernel
theorem dX6_addLetter_0 : decode cX6_addLetter 0 = .ok (.aload_n 0, 1) := by decide +kernel
theorem dX6_addLetter_1 : decode cX6_addLetter 1 = .ok (.getfield 19, 3) := by decide +kernel
theorem dX6_addLetter_4 : decode cX6_addLetter 4 = .ok (.ifCond .lt 15, 3) := by decide +kernel
theorem dX6_addLetter_7 : decode cX6_addLetter 7 = .ok (.aload_n 0, 1) := by decide +kernel
theorem dX6_addLetter_8 : decode cX6_addLetter 8 = .ok (.getfield 19, 3) := by decide +kernel
theorem dX6_addLetter_11 : decode cX6_addLetter 11 = .ok (.aload_n 0, 1) := by decide +kernel
theorem dX6_addLetter_12 : decode cX6_addLetter 12 = .ok (.getfield 11, 3) := by decide +kernel
theorem dX6_addLetter_15 : decode cX6_addLetter 15 = .ok (.arraylength, 1) := by decide +kernel
theorem dX6_addLetter_16 : decode cX6_addLetter 16 = .ok (.if_icmp .lt 5, 3) := by decide +kernel
theorem dX6_addLetter_19 : decode cX6_addLetter 19 = .ok (.iconst 0, 1) := by decide +kernel
theorem dX6_addLetter_20 : decode cX6_addLetter 20 = .ok (.ireturn, 1) := by decide +kernel
theorem dX6_addLetter_21 : decode cX6_addLetter 21 = .ok (.aload_n 0, 1) := by decide +kernel
theorem dX6_addLetter_22 : decode cX6_addLetter 22 = .ok (.getfield 11, 3) := by decide +kernel
theorem dX6_addLetter_25 : decode cX6_addLetter 25 = .ok (.aload_n 0, 1) := by decide +kernel
theorem dX6_addLetter_26 : decode cX6_addLetter 26 = .ok (.getfield 19, 3) := by decide +kernel
theorem dX6_addLetter_29 : decode cX6_addLetter 29 = .ok (.iload_n 1, 1) := by decide +kernel
theorem dX6_addLetter_30 : decode cX6_addLetter 30 = .ok (.iastore, 1) := by decide +kernel
theorem dX6_addLetter_31 : decode cX6_addLetter 31 = .ok (.aload_n 0, 1) := by decide +kernel
theorem dX6_addLetter_32 : decode cX6_addLetter 32 = .ok (.dup, 1) := by decide +kernel
theorem dX6_addLetter_33 : decode cX6_addLetter 33 = .ok (.getfield 19, 3) := by decide +kernel
theorem dX6_addLetter_36 : decode cX6_addLetter 36 = .ok (.iconst 1, 1) := by decide +kernel
theorem dX6_addLetter_37 : decode cX6_addLetter 37 = .ok (.iadd, 1) := by decide +kernel
theorem dX6_addLetter_38 : decode cX6_addLetter 38 = .ok (.putfield 19, 3) := by decide +kernel
theorem dX6_addLetter_41 : decode cX6_addLetter 41 = .ok (.iconst 1, 1) := by decide +kernel
theorem dX6_addLetter_42 : decode cX6_addLetter 42 = .ok (.ireturn, 1) := by decide +kernel
set_option maxRecDepth 20000 in
theorem ggX6_readInto_X3_clear : GoodIn wsX6_readInto wsX3_clear := goodIn_r _ [12, 13, 14, 15, 16, 17, 18, 19, 20, 21, 22, 23, 11, 24, 25, 26, 110, 111, 112, 113, 114, 115, 116, 117, 118, 119, 120, 121] (by decide +kernel) (by decide +kernel)
set_option maxRecDepth 20000 in
theorem gX6_readInto_X3_clear : GoodIn wsX6_readInto (wsV RX6 22 RX3 yX3_clear wsX3_clear) := goodIn_app (goodIn_of _ (by decide +kernel)) ggX6_readInto_X3_clear
set_option maxRecDepth 20000 in
theorem ggX6_readInto_X6_skipBlanks : GoodIn wsX6_readInto wsX6_skipBlanks := goodIn_r _ [31, 1, 32, 33, 34, 30, 35, 7, 36, 102, 103, 104, 105, 106, 107, 108, 109] (by decide +kernel) (by decide +kernel)
set_option maxRecDepth 20000 in
theorem gX6_readInto_X6_skipBlanks : GoodIn wsX6_readInto (wsV RX6 43 RX6 yX6_skipBlanks wsX6_skipBlanks) := goodIn_app (goodIn_of _ (by decide +kernel)) ggX6_readInto_X6_skipBlanks
set_option maxRecDepth 20000 in
theorem ggX6_readInto_X6_readClause : GoodIn wsX6_readInto wsX6_readClause := goodIn_r _ [40, 1, 32, 33, 34, 30, 35, 7, 36, 41, 42, 43, 44, 45, 4, 5, 46, 6, 47, 48, 49, 50, 2, 3, 51, 52, 53, 54, 55, 56, 57, 58, 59, 60, 61, 62, 63, 64, 65, 27, 28, 29, 31, 66, 67, 68, 69, 70, 71, 72, 73, 74, 75, 76, 77, 78, 79, 80, 22, 23, 11, 24, 25, 26, 81, 82, 83, 84, 85, 86, 87, 88, 89, 90, 91, 92, 93, 94, 20, 95, 96, 97, 98, 99, 100, 101, 102, 103, 104, 105, 106, 107, 108, 109, 110, 111, 112, 113, 114, 115, 116, 117, 118, 119, 120, 121] (by decide +kernel) (by decide +kernel)
set_option maxRecDepth 20000 in
theorem gX6_readInto_X6_readClause : GoodIn wsX6_readInto (wsV RX6 46 RX6 yX6_readClause wsX6_readClause) := goodIn_app (goodIn_of _ (by decide +kernel)) ggX6_readInto_X6_readClause
theorem dX6_readInto_0 : decode cX6_readInto 0 = .ok (.aload_n 1, 1) := by decide +kernel
theorem dX6_readInto_1 : decode cX6_readInto 1 = .ok (.invokevirtual 22, 3) := by decide +kernel
theorem dX6_readInto_4 : decode cX6_readInto 4 = .ok (.aload_n 0, 1) := by decide +kernel
theorem dX6_readInto_5 : decode cX6_readInto 5 = .ok (.iconst 0, 1) := by decide +kernel
theorem dX6_readInto_6 : decode cX6_readInto 6 = .ok (.putfield 27, 3) := by decide +kernel
theorem dX6_readInto_9 : decode cX6_readInto 9 = .ok (.aload_n 0, 1) := by decide +kernel
theorem dX6_readInto_10 : decode cX6_readInto 10 = .ok (.iconst 0, 1) := by decide +kernel
theorem dX6_readInto_11 : decode cX6_readInto 11 = .ok (.putfield 30, 3) := by decide +kernel
theorem dX6_readInto_14 : decode cX6_readInto 14 = .ok (.aload_n 0, 1) := by decide +kernel
theorem dX6_readInto_15 : decode cX6_readInto 15 = .ok (.iconst (-1), 1) := by decide +kernel
theorem dX6_readInto_16 : decode cX6_readInto 16 = .ok (.putfield 15, 3) := by decide +kernel
theorem dX6_readInto_19 : decode cX6_readInto 19 = .ok (.aload_n 0, 1) := by decide +kernel
theorem dX6_readInto_20 : decode cX6_readInto 20 = .ok (.iconst 0, 1) := by decide +kernel
theorem dX6_readInto_21 : decode cX6_readInto 21 = .ok (.putfield 33, 3) := by decide +kernel
theorem dX6_readInto_24 : decode cX6_readInto 24 = .ok (.aload_n 0, 1) := by decide +kernel
theorem dX6_readInto_25 : decode cX6_readInto 25 = .ok (.iconst 0, 1) := by decide +kernel
theorem dX6_readInto_26 : decode cX6_readInto 26 = .ok (.putfield 37, 3) := by decide +kernel
theorem dX6_readInto_29 : decode cX6_readInto 29 = .ok (.aload_n 0, 1) := by decide +kernel
theorem dX6_readInto_30 : decode cX6_readInto 30 = .ok (.iconst 0, 1) := by decide +kernel
theorem dX6_readInto_31 : decode cX6_readInto 31 = .ok (.putfield 40, 3) := by decide +kernel
theorem dX6_readInto_34 : decode cX6_readInto 34 = .ok (.aload_n 0, 1) := by decide +kernel
theorem dX6_readInto_35 : decode cX6_readInto 35 = .ok (.invokevirtual 43, 3) := by decide +kernel
theorem dX6_readInto_38 : decode cX6_readInto 38 = .ok (.iconst 0, 1) := by decide +kernel
theorem dX6_readInto_39 : decode cX6_readInto 39 = .ok (.istore_n 2, 1) := by decide +kernel
theorem dX6_readInto_40 : decode cX6_readInto 40 = .ok (.iload_n 2, 1) := by decide +kernel
theorem dX6_readInto_41 : decode cX6_readInto 41 = .ok (.sipush 230, 3) := by decide +kernel
theorem dX6_readInto_44 : decode cX6_readInto 44 = .ok (.if_icmp .ge 36, 3) := by decide +kernel
theorem dX6_readInto_47 : decode cX6_readInto 47 = .ok (.aload_n 0, 1) := by decide +kernel
theorem dX6_readInto_48 : decode cX6_readInto 48 = .ok (.getfield 27, 3) := by decide +kernel
theorem dX6_readInto_51 : decode cX6_readInto 51 = .ok (.aload_n 0, 1) := by decide +kernel
theorem dX6_readInto_52 : decode cX6_readInto 52 = .ok (.getfield 19, 3) := by decide +kernel
theorem dX6_readInto_55 : decode cX6_readInto 55 = .ok (.if_icmp .ge 25, 3) := by decide +kernel
theorem dX6_readInto_58 : decode cX6_readInto 58 = .ok (.aload_n 0, 1) := by decide +kernel
theorem dX6_readInto_59 : decode cX6_readInto 59 = .ok (.getfield 30, 3) := by decide +kernel
theorem dX6_readInto_62 : decode cX6_readInto 62 = .ok (.ifCond .ne 18, 3) := by decide +kernel
theorem dX6_readInto_65 : decode cX6_readInto 65 = .ok (.aload_n 0, 1) := by decide +kernel
theorem dX6_readInto_66 : decode cX6_readInto 66 = .ok (.aload_n 1, 1) := by decide +kernel
theorem dX6_readInto_67 : decode cX6_readInto 67 = .ok (.invokevirtual 46, 3) := by decide +kernel
theorem dX6_readInto_70 : decode cX6_readInto 70 = .ok (.aload_n 0, 1) := by decide +kernel
theorem dX6_readInto_71 : decode cX6_readInto 71 = .ok (.invokevirtual 43, 3) := by decide +kernel
theorem dX6_readInto_74 : decode cX6_readInto 74 = .ok (.iinc 2 1, 3) := by decide +kernel
theorem dX6_readInto_77 : decode cX6_readInto 77 = .ok (.goto (-37), 3) := by decide +kernel
theorem dX6_readInto_80 : decode cX6_readInto 80 = .ok (.aload_n 0, 1) := by decide +kernel
theorem dX6_readInto_81 : decode cX6_readInto 81 = .ok (.iconst 0, 1) := by decide +kernel
theorem dX6_readInto_82 : decode cX6_readInto 82 = .ok (.putfield 19, 3) := by decide +kernel
theorem dX6_readInto_85 : decode cX6_readInto 85 = .ok (.return_, 1) := by decide +kernel
set_option maxRecDepth 20000 in
theorem ggX6_readClause_X6_letterHere : GoodIn wsX6_readClause wsX6_letterHere := goodIn_r _ [6, 1, 7, 8, 86, 87, 88, 89, 90, 91, 92, 93] (by decide +kernel) (by decide +kernel)
set_option maxRecDepth 20000 in
theorem gX6_readClause_X6_letterHere : GoodIn wsX6_readClause (wsV RX6 50 RX6 yX6_letterHere wsX6_letterHere) := goodIn_app (goodIn_of _ (by decide +kernel)) ggX6_readClause_X6_letterHere
set_option maxRecDepth 20000 in
theorem ggX6_readClause_X6_faultOfWord : GoodIn wsX6_readClause wsX6_faultOfWord := goodIn_r _ [12, 13, 14, 15, 16, 17, 94, 95, 96, 97, 98, 99, 100, 101, 102, 103, 104, 105, 86, 87, 88, 89, 90, 91, 92, 93] (by decide +kernel) (by decide +kernel)
set_option maxRecDepth 20000 in
theorem gX6_readClause_X6_faultOfWord : GoodIn wsX6_readClause (wsV RX6 54 RX6 yX6_faultOfWord wsX6_faultOfWord) := goodIn_app (goodIn_of _ (by decide +kernel)) ggX6_readClause_X6_faultOfWord
set_option maxRecDepth 20000 in
theorem ggX6_readClause_X6_setFault : GoodIn wsX6_readClause wsX6_setFault := goodIn_r _ [21, 22, 23, 86, 87, 88, 89, 90, 91, 92, 93] (by decide +kernel) (by decide +kernel)
set_option maxRecDepth 20000 in
theorem gX6_readClause_X6_setFault : GoodIn wsX6_readClause (wsV RX6 58 RX6 yX6_setFault wsX6_setFault) := goodIn_app (goodIn_of _ (by decide +kernel)) ggX6_readClause_X6_setFault
set_option maxRecDepth 20000 in
theorem ggX6_readClause_X6_readRates : GoodIn wsX6_readClause wsX6_readRates := goodIn_r _ [27, 13, 28, 29, 30, 31, 32, 33, 5, 34, 1, 35, 36, 37, 38, 39, 40, 41, 42, 2, 3, 4, 6, 7, 8, 43, 44, 45, 18, 19, 20, 21, 22, 23, 46, 47, 48, 94, 95, 96, 97, 98, 99, 100, 101, 102, 103, 104, 105, 86, 87, 88, 89, 90, 91, 92, 93] (by decide +kernel) (by decide +kernel)
set_option maxRecDepth 20000 in
theorem gX6_readClause_X6_readRates : GoodIn wsX6_readClause (wsV RX6 62 RX6 yX6_readRates wsX6_readRates) := goodIn_app (goodIn_of _ (by decide +kernel)) ggX6_readClause_X6_readRates
set_option maxRecDepth 20000 in
theorem ggX6_readClause_X6_readWorm : GoodIn wsX6_readClause wsX6_readWorm := goodIn_r _ [52, 14, 53, 54, 55, 5, 56, 1, 39, 40, 41, 42, 2, 3, 4, 6, 7, 8, 31, 32, 33, 34, 35, 36, 37, 38, 43, 44, 45, 18, 19, 20, 21, 22, 23, 46, 47, 48, 57, 58, 59, 60, 61, 62, 63, 86, 87, 88, 89, 90, 91, 92, 93, 94, 95, 96, 97, 98, 99, 100, 101, 102, 103, 104, 105] (by decide +kernel) (by decide +kernel)
set_option maxRecDepth 20000 in
theorem gX6_readClause_X6_readWorm : GoodIn wsX6_readClause (wsV RX6 65 RX6 yX6_readWorm wsX6_readWorm) := goodIn_app (goodIn_of _ (by decide +kernel)) ggX6_readClause_X6_readWorm
set_option maxRecDepth 20000 in
theorem ggX6_readClause_X6_readJump : GoodIn wsX6_readClause wsX6_readJump := goodIn_r _ [67, 15, 68, 69, 31, 32, 33, 5, 34, 1, 35, 36, 37, 38, 39, 40, 41, 42, 2, 3, 4, 6, 7, 8, 43, 44, 45, 18, 19, 20, 21, 22, 23, 46, 47, 48, 86, 87, 88, 89, 90, 91, 92, 93, 94, 95, 96, 97, 98, 99, 100, 101, 102, 103, 104, 105] (by decide +kernel) (by decide +kernel)
set_option maxRecDepth 20000 in
theorem gX6_readClause_X6_readJump : GoodIn wsX6_readClause (wsV RX6 68 RX6 yX6_readJump wsX6_readJump) := goodIn_app (goodIn_of _ (by decide +kernel)) ggX6_readClause_X6_readJump
set_option maxRecDepth 20000 in
theorem ggX6_readClause_X6_readStar : GoodIn wsX6_readClause wsX6_readStar := goodIn_r _ [73, 31, 32, 33, 5, 34, 1, 35, 36, 37, 38, 39, 40, 41, 42, 2, 3, 4, 6, 7, 8, 43, 44, 45, 18, 19, 20, 21, 22, 23, 46, 47, 48, 74, 75, 76, 60, 77, 78, 79, 80, 86, 87, 88, 89, 90, 91, 92, 93, 94, 95, 96, 97, 98, 99, 100, 101, 102, 103, 104, 105] (by decide +kernel) (by decide +kernel)
set_option maxRecDepth 20000 in
theorem gX6_readClause_X6_readStar : GoodIn wsX6_readClause (wsV RX6 71 RX6 yX6_readStar wsX6_readStar) := goodIn_app (goodIn_of _ (by decide +kernel)) ggX6_readClause_X6_readStar
set_option maxRecDepth 20000 in
theorem ggX6_readClause_X6_readButtons : GoodIn wsX6_readClause wsX6_readButtons := goodIn_r _ [84, 17, 85, 31, 32, 33, 5, 34, 1, 35, 36, 37, 38, 39, 40, 41, 42, 2, 3, 4, 6, 7, 8, 43, 44, 45, 18, 19, 20, 21, 22, 23, 46, 47, 48, 86, 87, 88, 89, 90, 91, 92, 93, 94, 95, 96, 97, 98, 99, 100, 101, 102, 103, 104, 105] (by decide +kernel) (by decide +kernel)
set_option maxRecDepth 20000 in
theorem gX6_readClause_X6_readButtons : GoodIn wsX6_readClause (wsV RX6 74 RX6 yX6_readButtons wsX6_readButtons) := goodIn_app (goodIn_of _ (by decide +kernel)) ggX6_readClause_X6_readButtons
set_option maxRecDepth 20000 in
theorem ggX6_readClause_X6_takes : GoodIn wsX6_readClause wsX6_takes := goodIn_r _ [56, 1, 39, 40, 41, 5, 42, 2, 3, 4, 6, 7, 8, 86, 87, 88, 89, 90, 91, 92, 93] (by decide +kernel) (by decide +kernel)
set_option maxRecDepth 20000 in
theorem gX6_readClause_X6_takes : GoodIn wsX6_readClause (wsV RX6 77 RX6 yX6_takes wsX6_takes) := goodIn_app (goodIn_of _ (by decide +kernel)) ggX6_readClause_X6_takes
theorem dX6_readClause_0 : decode cX6_readClause 0 = .ok (.aload_n 0, 1) := by decide +kernel
theorem dX6_readClause_1 : decode cX6_readClause 1 = .ok (.invokevirtual 50, 3) := by decide +kernel
theorem dX6_readClause_4 : decode cX6_readClause 4 = .ok (.istore_n 2, 1) := by decide +kernel
theorem dX6_readClause_5 : decode cX6_readClause 5 = .ok (.aload_n 0, 1) := by decide +kernel
theorem dX6_readClause_6 : decode cX6_readClause 6 = .ok (.iload_n 2, 1) := by decide +kernel
theorem dX6_readClause_7 : decode cX6_readClause 7 = .ok (.aload_n 1, 1) := by decide +kernel
theorem dX6_readClause_8 : decode cX6_readClause 8 = .ok (.invokevirtual 54, 3) := by decide +kernel
theorem dX6_readClause_11 : decode cX6_readClause 11 = .ok (.istore_n 3, 1) := by decide +kernel
theorem dX6_readClause_12 : decode cX6_readClause 12 = .ok (.iload_n 3, 1) := by decide +kernel
theorem dX6_readClause_13 : decode cX6_readClause 13 = .ok (.ifCond .eq 13, 3) := by decide +kernel
theorem dX6_readClause_16 : decode cX6_readClause 16 = .ok (.aload_n 0, 1) := by decide +kernel
theorem dX6_readClause_17 : decode cX6_readClause 17 = .ok (.iload_n 3, 1) := by decide +kernel
theorem dX6_readClause_18 : decode cX6_readClause 18 = .ok (.aload_n 0, 1) := by decide +kernel
theorem dX6_readClause_19 : decode cX6_readClause 19 = .ok (.getfield 27, 3) := by decide +kernel
theorem dX6_readClause_22 : decode cX6_readClause 22 = .ok (.invokevirtual 58, 3) := by decide +kernel
theorem dX6_readClause_25 : decode cX6_readClause 25 = .ok (.return_, 1) := by decide +kernel
theorem dX6_readClause_26 : decode cX6_readClause 26 = .ok (.aload_n 0, 1) := by decide +kernel
theorem dX6_readClause_27 : decode cX6_readClause 27 = .ok (.dup, 1) := by decide +kernel
theorem dX6_readClause_28 : decode cX6_readClause 28 = .ok (.getfield 27, 3) := by decide +kernel
theorem dX6_readClause_31 : decode cX6_readClause 31 = .ok (.iconst 1, 1) := by decide +kernel
theorem dX6_readClause_32 : decode cX6_readClause 32 = .ok (.iadd, 1) := by decide +kernel
theorem dX6_readClause_33 : decode cX6_readClause 33 = .ok (.putfield 27, 3) := by decide +kernel
theorem dX6_readClause_36 : decode cX6_readClause 36 = .ok (.iload_n 2, 1) := by decide +kernel
theorem dX6_readClause_37 : decode cX6_readClause 37 = .ok (.lookupswitch 75 #[(106, 59), (109, 43), (115, 67), (119, 51)], 43) := by decide +kernel
theorem dX6_readClause_80 : decode cX6_readClause 80 = .ok (.aload_n 0, 1) := by decide +kernel
theorem dX6_readClause_81 : decode cX6_readClause 81 = .ok (.aload_n 1, 1) := by decide +kernel
theorem dX6_readClause_82 : decode cX6_readClause 82 = .ok (.invokevirtual 62, 3) := by decide +kernel
theorem dX6_readClause_85 : decode cX6_readClause 85 = .ok (.goto 32, 3) := by decide +kernel
theorem dX6_readClause_88 : decode cX6_readClause 88 = .ok (.aload_n 0, 1) := by decide +kernel
theorem dX6_readClause_89 : decode cX6_readClause 89 = .ok (.aload_n 1, 1) := by decide +kernel
theorem dX6_readClause_90 : decode cX6_readClause 90 = .ok (.invokevirtual 65, 3) := by decide +kernel
theorem dX6_readClause_93 : decode cX6_readClause 93 = .ok (.goto 24, 3) := by decide +kernel
theorem dX6_readClause_96 : decode cX6_readClause 96 = .ok (.aload_n 0, 1) := by decide +kernel
theorem dX6_readClause_97 : decode cX6_readClause 97 = .ok (.aload_n 1, 1) := by decide +kernel
theorem dX6_readClause_98 : decode cX6_readClause 98 = .ok (.invokevirtual 68, 3) := by decide +kernel
theorem dX6_readClause_101 : decode cX6_readClause 101 = .ok (.goto 16, 3) := by decide +kernel
theorem dX6_readClause_104 : decode cX6_readClause 104 = .ok (.aload_n 0, 1) := by decide +kernel
theorem dX6_readClause_105 : decode cX6_readClause 105 = .ok (.aload_n 1, 1) := by decide +kernel
theorem dX6_readClause_106 : decode cX6_readClause 106 = .ok (.invokevirtual 71, 3) := by decide +kernel
theorem dX6_readClause_109 : decode cX6_readClause 109 = .ok (.goto 8, 3) := by decide +kernel
theorem dX6_readClause_112 : decode cX6_readClause 112 = .ok (.aload_n 0, 1) := by decide +kernel
theorem dX6_readClause_113 : decode cX6_readClause 113 = .ok (.aload_n 1, 1) := by decide +kernel
theorem dX6_readClause_114 : decode cX6_readClause 114 = .ok (.invokevirtual 74, 3) := by decide +kernel
theorem dX6_readClause_117 : decode cX6_readClause 117 = .ok (.aload_n 0, 1) := by decide +kernel
theorem dX6_readClause_118 : decode cX6_readClause 118 = .ok (.bipush 59, 2) := by decide +kernel
theorem dX6_readClause_120 : decode cX6_readClause 120 = .ok (.invokevirtual 77, 3) := by decide +kernel
theorem dX6_readClause_123 : decode cX6_readClause 123 = .ok (.ifCond .ne 12, 3) := by decide +kernel
theorem dX6_readClause_126 : decode cX6_readClause 126 = .ok (.aload_n 0, 1) := by decide +kernel
theorem dX6_readClause_127 : decode cX6_readClause 127 = .ok (.iconst 1, 1) := by decide +kernel
theorem dX6_readClause_128 : decode cX6_readClause 128 = .ok (.aload_n 0, 1) := by decide +kernel
theorem dX6_readClause_129 : decode cX6_readClause 129 = .ok (.getfield 27, 3) := by decide +kernel
theorem dX6_readClause_132 : decode cX6_readClause 132 = .ok (.invokevirtual 58, 3) := by decide +kernel
theorem dX6_readClause_135 : decode cX6_readClause 135 = .ok (.return_, 1) := by decide +kernel
theorem dX6_faultOfWord_0 : decode cX6_faultOfWord 0 = .ok (.aload_n 2, 1) := by decide +kernel
theorem dX6_faultOfWord_1 : decode cX6_faultOfWord 1 = .ok (.getfield 81, 3) := by decide +kernel
theorem dX6_faultOfWord_4 : decode cX6_faultOfWord 4 = .ok (.ifCond .ne 15, 3) := by decide +kernel
theorem dX6_faultOfWord_7 : decode cX6_faultOfWord 7 = .ok (.iload_n 1, 1) := by decide +kernel
theorem dX6_faultOfWord_8 : decode cX6_faultOfWord 8 = .ok (.bipush 109, 2) := by decide +kernel
theorem dX6_faultOfWord_10 : decode cX6_faultOfWord 10 = .ok (.if_icmp .ne 7, 3) := by decide +kernel
theorem dX6_faultOfWord_13 : decode cX6_faultOfWord 13 = .ok (.iconst 0, 1) := by decide +kernel
theorem dX6_faultOfWord_14 : decode cX6_faultOfWord 14 = .ok (.goto 4, 3) := by decide +kernel
theorem dX6_faultOfWord_17 : decode cX6_faultOfWord 17 = .ok (.iconst 1, 1) := by decide +kernel
theorem dX6_faultOfWord_18 : decode cX6_faultOfWord 18 = .ok (.ireturn, 1) := by decide +kernel
theorem dX6_faultOfWord_19 : decode cX6_faultOfWord 19 = .ok (.iload_n 1, 1) := by decide +kernel
theorem dX6_faultOfWord_20 : decode cX6_faultOfWord 20 = .ok (.lookupswitch 108 #[(98, 95), (106, 67), (109, 52), (115, 80), (119, 54)], 52) := by decide +kernel
theorem dX6_faultOfWord_72 : decode cX6_faultOfWord 72 = .ok (.iconst 3, 1) := by decide +kernel
theorem dX6_faultOfWord_73 : decode cX6_faultOfWord 73 = .ok (.ireturn, 1) := by decide +kernel
theorem dX6_faultOfWord_74 : decode cX6_faultOfWord 74 = .ok (.aload_n 0, 1) := by decide +kernel
theorem dX6_faultOfWord_75 : decode cX6_faultOfWord 75 = .ok (.getfield 33, 3) := by decide +kernel
theorem dX6_faultOfWord_78 : decode cX6_faultOfWord 78 = .ok (.ifCond .eq 7, 3) := by decide +kernel
theorem dX6_faultOfWord_81 : decode cX6_faultOfWord 81 = .ok (.iconst 3, 1) := by decide +kernel
theorem dX6_faultOfWord_82 : decode cX6_faultOfWord 82 = .ok (.goto 4, 3) := by decide +kernel
theorem dX6_faultOfWord_85 : decode cX6_faultOfWord 85 = .ok (.iconst 0, 1) := by decide +kernel
theorem dX6_faultOfWord_86 : decode cX6_faultOfWord 86 = .ok (.ireturn, 1) := by decide +kernel
theorem dX6_faultOfWord_87 : decode cX6_faultOfWord 87 = .ok (.aload_n 0, 1) := by decide +kernel
theorem dX6_faultOfWord_88 : decode cX6_faultOfWord 88 = .ok (.getfield 37, 3) := by decide +kernel
theorem dX6_faultOfWord_91 : decode cX6_faultOfWord 91 = .ok (.ifCond .eq 7, 3) := by decide +kernel
theorem dX6_faultOfWord_94 : decode cX6_faultOfWord 94 = .ok (.iconst 3, 1) := by decide +kernel
theorem dX6_faultOfWord_95 : decode cX6_faultOfWord 95 = .ok (.goto 4, 3) := by decide +kernel
theorem dX6_faultOfWord_98 : decode cX6_faultOfWord 98 = .ok (.iconst 0, 1) := by decide +kernel
theorem dX6_faultOfWord_99 : decode cX6_faultOfWord 99 = .ok (.ireturn, 1) := by decide +kernel
theorem dX6_faultOfWord_100 : decode cX6_faultOfWord 100 = .ok (.aload_n 2, 1) := by decide +kernel
theorem dX6_faultOfWord_101 : decode cX6_faultOfWord 101 = .ok (.getfield 84, 3) := by decide +kernel
theorem dX6_faultOfWord_104 : decode cX6_faultOfWord 104 = .ok (.bipush 6, 2) := by decide +kernel
theorem dX6_faultOfWord_106 : decode cX6_faultOfWord 106 = .ok (.if_icmp .lt 7, 3) := by decide +kernel
theorem dX6_faultOfWord_109 : decode cX6_faultOfWord 109 = .ok (.iconst 3, 1) := by decide +kernel
theorem dX6_faultOfWord_110 : decode cX6_faultOfWord 110 = .ok (.goto 4, 3) := by decide +kernel
theorem dX6_faultOfWord_113 : decode cX6_faultOfWord 113 = .ok (.iconst 0, 1) := by decide +kernel
theorem dX6_faultOfWord_114 : decode cX6_faultOfWord 114 = .ok (.ireturn, 1) := by decide +kernel
theorem dX6_faultOfWord_115 : decode cX6_faultOfWord 115 = .ok (.aload_n 0, 1) := by decide +kernel
theorem dX6_faultOfWord_116 : decode cX6_faultOfWord 116 = .ok (.getfield 40, 3) := by decide +kernel
theorem dX6_faultOfWord_119 : decode cX6_faultOfWord 119 = .ok (.ifCond .eq 7, 3) := by decide +kernel
theorem dX6_faultOfWord_122 : decode cX6_faultOfWord 122 = .ok (.iconst 3, 1) := by decide +kernel
theorem dX6_faultOfWord_123 : decode cX6_faultOfWord 123 = .ok (.goto 4, 3) := by decide +kernel
theorem dX6_faultOfWord_126 : decode cX6_faultOfWord 126 = .ok (.iconst 0, 1) := by decide +kernel
theorem dX6_faultOfWord_127 : decode cX6_faultOfWord 127 = .ok (.ireturn, 1) := by decide +kernel
theorem dX6_faultOfWord_128 : decode cX6_faultOfWord 128 = .ok (.iconst 1, 1) := by decide +kernel
theorem dX6_faultOfWord_129 : decode cX6_faultOfWord 129 = .ok (.ireturn, 1) := by decide +kernel
set_option maxRecDepth 20000 in
theorem ggX6_readRates_X6_readNumber : GoodIn wsX6_readRates wsX6_readNumber := goodIn_r _ [9, 10, 11, 12, 13, 14, 15, 16, 17, 8, 18, 19, 20, 21, 22, 23, 24, 25, 26, 27, 28, 29, 30, 31, 32, 33, 34, 35, 36, 49, 50, 51, 52, 53, 54, 55, 56] (by decide +kernel) (by decide +kernel)
set_option maxRecDepth 20000 in
theorem gX6_readRates_X6_readNumber : GoodIn wsX6_readRates (wsV RX6 87 RX6 yX6_readNumber wsX6_readNumber) := goodIn_app (goodIn_of _ (by decide +kernel)) ggX6_readRates_X6_readNumber
theorem dX6_readRates_0 : decode cX6_readRates 0 = .ok (.aload_n 1, 1) := by decide +kernel
theorem dX6_readRates_1 : decode cX6_readRates 1 = .ok (.iconst 1, 1) := by decide +kernel
theorem dX6_readRates_2 : decode cX6_readRates 2 = .ok (.putfield 81, 3) := by decide +kernel
theorem dX6_readRates_5 : decode cX6_readRates 5 = .ok (.aload_n 1, 1) := by decide +kernel
theorem dX6_readRates_6 : decode cX6_readRates 6 = .ok (.aload_n 0, 1) := by decide +kernel
theorem dX6_readRates_7 : decode cX6_readRates 7 = .ok (.iconst 0, 1) := by decide +kernel
theorem dX6_readRates_8 : decode cX6_readRates 8 = .ok (.bipush 18, 2) := by decide +kernel
theorem dX6_readRates_10 : decode cX6_readRates 10 = .ok (.invokevirtual 87, 3) := by decide +kernel
theorem dX6_readRates_13 : decode cX6_readRates 13 = .ok (.bipush 9, 2) := by decide +kernel
theorem dX6_readRates_15 : decode cX6_readRates 15 = .ok (.isub, 1) := by decide +kernel
theorem dX6_readRates_16 : decode cX6_readRates 16 = .ok (.putfield 91, 3) := by decide +kernel
theorem dX6_readRates_19 : decode cX6_readRates 19 = .ok (.aload_n 1, 1) := by decide +kernel
theorem dX6_readRates_20 : decode cX6_readRates 20 = .ok (.aload_n 0, 1) := by decide +kernel
theorem dX6_readRates_21 : decode cX6_readRates 21 = .ok (.iconst 0, 1) := by decide +kernel
theorem dX6_readRates_22 : decode cX6_readRates 22 = .ok (.bipush 18, 2) := by decide +kernel
theorem dX6_readRates_24 : decode cX6_readRates 24 = .ok (.invokevirtual 87, 3) := by decide +kernel
theorem dX6_readRates_27 : decode cX6_readRates 27 = .ok (.bipush 9, 2) := by decide +kernel
theorem dX6_readRates_29 : decode cX6_readRates 29 = .ok (.isub, 1) := by decide +kernel
theorem dX6_readRates_30 : decode cX6_readRates 30 = .ok (.putfield 94, 3) := by decide +kernel
theorem dX6_readRates_33 : decode cX6_readRates 33 = .ok (.aload_n 1, 1) := by decide +kernel
theorem dX6_readRates_34 : decode cX6_readRates 34 = .ok (.aload_n 0, 1) := by decide +kernel
theorem dX6_readRates_35 : decode cX6_readRates 35 = .ok (.iconst 1, 1) := by decide +kernel
theorem dX6_readRates_36 : decode cX6_readRates 36 = .ok (.sipush 999, 3) := by decide +kernel
theorem dX6_readRates_39 : decode cX6_readRates 39 = .ok (.invokevirtual 87, 3) := by decide +kernel
theorem dX6_readRates_42 : decode cX6_readRates 42 = .ok (.putfield 97, 3) := by decide +kernel
theorem dX6_readRates_45 : decode cX6_readRates 45 = .ok (.return_, 1) := by decide +kernel
set_option maxRecDepth 20000 in
theorem ggX6_readWorm_X6_takes : GoodIn wsX6_readWorm wsX6_takes := goodIn_r _ [6, 7, 8, 9, 10, 5, 11, 12, 13, 14, 15, 16, 17, 45, 46, 47, 48, 49, 50, 51, 52] (by decide +kernel) (by decide +kernel)
set_option maxRecDepth 20000 in
theorem gX6_readWorm_X6_takes : GoodIn wsX6_readWorm (wsV RX6 77 RX6 yX6_takes wsX6_takes) := goodIn_app (goodIn_of _ (by decide +kernel)) ggX6_readWorm_X6_takes
set_option maxRecDepth 20000 in
theorem ggX6_readWorm_X6_readNumber : GoodIn wsX6_readWorm wsX6_readNumber := goodIn_r _ [21, 7, 22, 23, 24, 25, 8, 9, 10, 5, 11, 12, 13, 14, 15, 16, 17, 26, 27, 28, 29, 30, 31, 32, 33, 34, 35, 36, 37, 45, 46, 47, 48, 49, 50, 51, 52] (by decide +kernel) (by decide +kernel)
set_option maxRecDepth 20000 in
theorem gX6_readWorm_X6_readNumber : GoodIn wsX6_readWorm (wsV RX6 87 RX6 yX6_readNumber wsX6_readNumber) := goodIn_app (goodIn_of _ (by decide +kernel)) ggX6_readWorm_X6_readNumber
set_option maxRecDepth 20000 in
theorem ggX6_readWorm_X3_setWorm : GoodIn wsX6_readWorm wsX3_setWorm := goodIn_r _ [42, 43, 44, 53, 54, 55, 56, 57, 58, 59, 60, 61, 62, 63, 64] (by decide +kernel) (by decide +kernel)
set_option maxRecDepth 20000 in
theorem gX6_readWorm_X3_setWorm : GoodIn wsX6_readWorm (wsV RX6 100 RX3 yX3_setWorm wsX3_setWorm) := goodIn_app (goodIn_of _ (by decide +kernel)) ggX6_readWorm_X3_setWorm
theorem dX6_readWorm_0 : decode cX6_readWorm 0 = .ok (.aload_n 0, 1) := by decide +kernel
theorem dX6_readWorm_1 : decode cX6_readWorm 1 = .ok (.iconst 1, 1) := by decide +kernel
theorem dX6_readWorm_2 : decode cX6_readWorm 2 = .ok (.putfield 33, 3) := by decide +kernel
theorem dX6_readWorm_5 : decode cX6_readWorm 5 = .ok (.iconst 0, 1) := by decide +kernel
theorem dX6_readWorm_6 : decode cX6_readWorm 6 = .ok (.istore_n 2, 1) := by decide +kernel
theorem dX6_readWorm_7 : decode cX6_readWorm 7 = .ok (.iload_n 2, 1) := by decide +kernel
theorem dX6_readWorm_8 : decode cX6_readWorm 8 = .ok (.ifCond .eq 18, 3) := by decide +kernel
theorem dX6_readWorm_11 : decode cX6_readWorm 11 = .ok (.iload_n 2, 1) := by decide +kernel
theorem dX6_readWorm_12 : decode cX6_readWorm 12 = .ok (.bipush 9, 2) := by decide +kernel
theorem dX6_readWorm_14 : decode cX6_readWorm 14 = .ok (.if_icmp .ge 33, 3) := by decide +kernel
theorem dX6_readWorm_17 : decode cX6_readWorm 17 = .ok (.aload_n 0, 1) := by decide +kernel
theorem dX6_readWorm_18 : decode cX6_readWorm 18 = .ok (.bipush 44, 2) := by decide +kernel
theorem dX6_readWorm_20 : decode cX6_readWorm 20 = .ok (.invokevirtual 77, 3) := by decide +kernel
theorem dX6_readWorm_23 : decode cX6_readWorm 23 = .ok (.ifCond .eq 24, 3) := by decide +kernel
theorem dX6_readWorm_26 : decode cX6_readWorm 26 = .ok (.aload_n 1, 1) := by decide +kernel
theorem dX6_readWorm_27 : decode cX6_readWorm 27 = .ok (.iload_n 2, 1) := by decide +kernel
theorem dX6_readWorm_28 : decode cX6_readWorm 28 = .ok (.aload_n 0, 1) := by decide +kernel
theorem dX6_readWorm_29 : decode cX6_readWorm 29 = .ok (.iconst 0, 1) := by decide +kernel
theorem dX6_readWorm_30 : decode cX6_readWorm 30 = .ok (.bipush 18, 2) := by decide +kernel
theorem dX6_readWorm_32 : decode cX6_readWorm 32 = .ok (.invokevirtual 87, 3) := by decide +kernel
theorem dX6_readWorm_35 : decode cX6_readWorm 35 = .ok (.bipush 9, 2) := by decide +kernel
theorem dX6_readWorm_37 : decode cX6_readWorm 37 = .ok (.isub, 1) := by decide +kernel
theorem dX6_readWorm_38 : decode cX6_readWorm 38 = .ok (.invokevirtual 100, 3) := by decide +kernel
theorem dX6_readWorm_41 : decode cX6_readWorm 41 = .ok (.iinc 2 1, 3) := by decide +kernel
theorem dX6_readWorm_44 : decode cX6_readWorm 44 = .ok (.goto (-37), 3) := by decide +kernel
theorem dX6_readWorm_47 : decode cX6_readWorm 47 = .ok (.return_, 1) := by decide +kernel
set_option maxRecDepth 20000 in
theorem ggX6_readJump_X6_readNumber : GoodIn wsX6_readJump wsX6_readNumber := goodIn_r _ [8, 9, 10, 11, 12, 13, 14, 15, 16, 7, 17, 18, 19, 20, 21, 22, 23, 24, 25, 26, 27, 28, 29, 30, 31, 32, 33, 34, 35, 36, 37, 38, 39, 40, 41, 42, 43] (by decide +kernel) (by decide +kernel)
set_option maxRecDepth 20000 in
theorem gX6_readJump_X6_readNumber : GoodIn wsX6_readJump (wsV RX6 87 RX6 yX6_readNumber wsX6_readNumber) := goodIn_app (goodIn_of _ (by decide +kernel)) ggX6_readJump_X6_readNumber
theorem dX6_readJump_0 : decode cX6_readJump 0 = .ok (.aload_n 0, 1) := by decide +kernel
theorem dX6_readJump_1 : decode cX6_readJump 1 = .ok (.iconst 1, 1) := by decide +kernel
theorem dX6_readJump_2 : decode cX6_readJump 2 = .ok (.putfield 37, 3) := by decide +kernel
theorem dX6_readJump_5 : decode cX6_readJump 5 = .ok (.aload_n 1, 1) := by decide +kernel
theorem dX6_readJump_6 : decode cX6_readJump 6 = .ok (.aload_n 0, 1) := by decide +kernel
theorem dX6_readJump_7 : decode cX6_readJump 7 = .ok (.iconst 0, 1) := by decide +kernel
theorem dX6_readJump_8 : decode cX6_readJump 8 = .ok (.sipush 999, 3) := by decide +kernel
theorem dX6_readJump_11 : decode cX6_readJump 11 = .ok (.invokevirtual 87, 3) := by decide +kernel
theorem dX6_readJump_14 : decode cX6_readJump 14 = .ok (.putfield 103, 3) := by decide +kernel
theorem dX6_readJump_17 : decode cX6_readJump 17 = .ok (.aload_n 1, 1) := by decide +kernel
theorem dX6_readJump_18 : decode cX6_readJump 18 = .ok (.aload_n 0, 1) := by decide +kernel
theorem dX6_readJump_19 : decode cX6_readJump 19 = .ok (.iconst 0, 1) := by decide +kernel
theorem dX6_readJump_20 : decode cX6_readJump 20 = .ok (.sipush 198, 3) := by decide +kernel
theorem dX6_readJump_23 : decode cX6_readJump 23 = .ok (.invokevirtual 87, 3) := by decide +kernel
theorem dX6_readJump_26 : decode cX6_readJump 26 = .ok (.bipush 99, 2) := by decide +kernel
theorem dX6_readJump_28 : decode cX6_readJump 28 = .ok (.isub, 1) := by decide +kernel
theorem dX6_readJump_29 : decode cX6_readJump 29 = .ok (.putfield 106, 3) := by decide +kernel
theorem dX6_readJump_32 : decode cX6_readJump 32 = .ok (.return_, 1) := by decide +kernel
set_option maxRecDepth 20000 in
theorem ggX6_readStar_X6_readNumber : GoodIn wsX6_readStar wsX6_readNumber := goodIn_r _ [5, 6, 7, 8, 9, 10, 11, 12, 13, 4, 14, 15, 16, 17, 18, 19, 20, 21, 22, 23, 24, 25, 26, 27, 28, 29, 30, 31, 32, 41, 42, 43, 44, 45, 46, 47, 48] (by decide +kernel) (by decide +kernel)
set_option maxRecDepth 20000 in
theorem gX6_readStar_X6_readNumber : GoodIn wsX6_readStar (wsV RX6 87 RX6 yX6_readNumber wsX6_readNumber) := goodIn_app (goodIn_of _ (by decide +kernel)) ggX6_readStar_X6_readNumber
set_option maxRecDepth 20000 in
theorem ggX6_readStar_X3_addStar : GoodIn wsX6_readStar wsX3_addStar := goodIn_r _ [37, 38, 39, 40, 49, 50, 51, 52, 53, 54, 55, 56, 57, 58, 59, 60] (by decide +kernel) (by decide +kernel)
set_option maxRecDepth 20000 in
theorem gX6_readStar_X3_addStar : GoodIn wsX6_readStar (wsV RX6 109 RX3 yX3_addStar wsX3_addStar) := goodIn_app (goodIn_of _ (by decide +kernel)) ggX6_readStar_X3_addStar
theorem dX6_readStar_0 : decode cX6_readStar 0 = .ok (.aload_n 0, 1) := by decide +kernel
theorem dX6_readStar_1 : decode cX6_readStar 1 = .ok (.iconst 0, 1) := by decide +kernel
theorem dX6_readStar_2 : decode cX6_readStar 2 = .ok (.bipush 99, 2) := by decide +kernel
theorem dX6_readStar_4 : decode cX6_readStar 4 = .ok (.invokevirtual 87, 3) := by decide +kernel
theorem dX6_readStar_7 : decode cX6_readStar 7 = .ok (.istore_n 2, 1) := by decide +kernel
theorem dX6_readStar_8 : decode cX6_readStar 8 = .ok (.aload_n 0, 1) := by decide +kernel
theorem dX6_readStar_9 : decode cX6_readStar 9 = .ok (.iconst 1, 1) := by decide +kernel
theorem dX6_readStar_10 : decode cX6_readStar 10 = .ok (.bipush 9, 2) := by decide +kernel
theorem dX6_readStar_12 : decode cX6_readStar 12 = .ok (.invokevirtual 87, 3) := by decide +kernel
theorem dX6_readStar_15 : decode cX6_readStar 15 = .ok (.istore_n 3, 1) := by decide +kernel
theorem dX6_readStar_16 : decode cX6_readStar 16 = .ok (.aload_n 1, 1) := by decide +kernel
theorem dX6_readStar_17 : decode cX6_readStar 17 = .ok (.iload_n 2, 1) := by decide +kernel
theorem dX6_readStar_18 : decode cX6_readStar 18 = .ok (.iload_n 3, 1) := by decide +kernel
theorem dX6_readStar_19 : decode cX6_readStar 19 = .ok (.invokevirtual 109, 3) := by decide +kernel
theorem dX6_readStar_22 : decode cX6_readStar 22 = .ok (.return_, 1) := by decide +kernel
set_option maxRecDepth 20000 in
theorem ggX6_readButtons_X6_readNumber : GoodIn wsX6_readButtons wsX6_readNumber := goodIn_r _ [7, 8, 9, 10, 11, 12, 13, 14, 15, 6, 16, 17, 18, 19, 20, 21, 22, 23, 24, 25, 26, 27, 28, 29, 30, 31, 32, 33, 34, 35, 36, 37, 38, 39, 40, 41, 42] (by decide +kernel) (by decide +kernel)
set_option maxRecDepth 20000 in
theorem gX6_readButtons_X6_readNumber : GoodIn wsX6_readButtons (wsV RX6 87 RX6 yX6_readNumber wsX6_readNumber) := goodIn_app (goodIn_of _ (by decide +kernel)) ggX6_readButtons_X6_readNumber
theorem dX6_readButtons_0 : decode cX6_readButtons 0 = .ok (.aload_n 0, 1) := by decide +kernel
theorem dX6_readButtons_1 : decode cX6_readButtons 1 = .ok (.iconst 1, 1) := by decide +kernel
theorem dX6_readButtons_2 : decode cX6_readButtons 2 = .ok (.putfield 40, 3) := by decide +kernel
theorem dX6_readButtons_5 : decode cX6_readButtons 5 = .ok (.aload_n 1, 1) := by decide +kernel
theorem dX6_readButtons_6 : decode cX6_readButtons 6 = .ok (.aload_n 0, 1) := by decide +kernel
theorem dX6_readButtons_7 : decode cX6_readButtons 7 = .ok (.iconst 1, 1) := by decide +kernel
theorem dX6_readButtons_8 : decode cX6_readButtons 8 = .ok (.bipush 9, 2) := by decide +kernel
theorem dX6_readButtons_10 : decode cX6_readButtons 10 = .ok (.invokevirtual 87, 3) := by decide +kernel
theorem dX6_readButtons_13 : decode cX6_readButtons 13 = .ok (.putfield 112, 3) := by decide +kernel
theorem dX6_readButtons_16 : decode cX6_readButtons 16 = .ok (.return_, 1) := by decide +kernel
set_option maxRecDepth 20000 in
theorem ggX6_readNumber_X6_skipBlanks : GoodIn wsX6_readNumber wsX6_skipBlanks := goodIn_r _ [10, 1, 11, 12, 13, 9, 14, 15, 16, 29, 30, 31, 32, 33, 34, 35, 36] (by decide +kernel) (by decide +kernel)
set_option maxRecDepth 20000 in
theorem gX6_readNumber_X6_skipBlanks : GoodIn wsX6_readNumber (wsV RX6 43 RX6 yX6_skipBlanks wsX6_skipBlanks) := goodIn_app (goodIn_of _ (by decide +kernel)) ggX6_readNumber_X6_skipBlanks
set_option maxRecDepth 20000 in
theorem ggX6_readNumber_X6_letterHere : GoodIn wsX6_readNumber wsX6_letterHere := goodIn_r _ [14, 1, 15, 16, 29, 30, 31, 32, 33, 34, 35, 36] (by decide +kernel) (by decide +kernel)
set_option maxRecDepth 20000 in
theorem gX6_readNumber_X6_letterHere : GoodIn wsX6_readNumber (wsV RX6 50 RX6 yX6_letterHere wsX6_letterHere) := goodIn_app (goodIn_of _ (by decide +kernel)) ggX6_readNumber_X6_letterHere
set_option maxRecDepth 20000 in
theorem ggX6_readNumber_X6_isFigure : GoodIn wsX6_readNumber wsX6_isFigure := goodIn_r _ [19] (by decide +kernel) (by decide +kernel)
set_option maxRecDepth 20000 in
theorem gX6_readNumber_X6_isFigure : GoodIn wsX6_readNumber (va_wsS RX6 115 yX6_isFigure wsX6_isFigure) := goodIn_app (goodIn_of _ (by decide +kernel)) ggX6_readNumber_X6_isFigure
set_option maxRecDepth 20000 in
theorem ggX6_readNumber_X6_setFault : GoodIn wsX6_readNumber wsX6_setFault := goodIn_r _ [23, 24, 25, 29, 30, 31, 32, 33, 34, 35, 36] (by decide +kernel) (by decide +kernel)
set_option maxRecDepth 20000 in
theorem gX6_readNumber_X6_setFault : GoodIn wsX6_readNumber (wsV RX6 58 RX6 yX6_setFault wsX6_setFault) := goodIn_app (goodIn_of _ (by decide +kernel)) ggX6_readNumber_X6_setFault
set_option maxRecDepth 20000 in
theorem ggX6_readNumber_X8_isWithin : GoodIn wsX6_readNumber wsX8_isWithin := goodIn_r _ [28] (by decide +kernel) (by decide +kernel)
set_option maxRecDepth 20000 in
theorem gX6_readNumber_X8_isWithin_n123 : GoodIn wsX6_readNumber (wsX8_isWithin) := ggX6_readNumber_X8_isWithin
theorem dX6_readNumber_0 : decode cX6_readNumber 0 = .ok (.aload_n 0, 1) := by decide +kernel
theorem dX6_readNumber_1 : decode cX6_readNumber 1 = .ok (.invokevirtual 43, 3) := by decide +kernel
theorem dX6_readNumber_4 : decode cX6_readNumber 4 = .ok (.aload_n 0, 1) := by decide +kernel
theorem dX6_readNumber_5 : decode cX6_readNumber 5 = .ok (.getfield 27, 3) := by decide +kernel
theorem dX6_readNumber_8 : decode cX6_readNumber 8 = .ok (.istore_n 3, 1) := by decide +kernel
theorem dX6_readNumber_9 : decode cX6_readNumber 9 = .ok (.iconst 0, 1) := by decide +kernel
theorem dX6_readNumber_10 : decode cX6_readNumber 10 = .ok (.istore 4, 2) := by decide +kernel
theorem dX6_readNumber_12 : decode cX6_readNumber 12 = .ok (.iconst 0, 1) := by decide +kernel
theorem dX6_readNumber_13 : decode cX6_readNumber 13 = .ok (.istore 5, 2) := by decide +kernel
theorem dX6_readNumber_15 : decode cX6_readNumber 15 = .ok (.iload 5, 2) := by decide +kernel
theorem dX6_readNumber_17 : decode cX6_readNumber 17 = .ok (.sipush 230, 3) := by decide +kernel
theorem dX6_readNumber_20 : decode cX6_readNumber 20 = .ok (.if_icmp .ge 50, 3) := by decide +kernel
theorem dX6_readNumber_23 : decode cX6_readNumber 23 = .ok (.aload_n 0, 1) := by decide +kernel
theorem dX6_readNumber_24 : decode cX6_readNumber 24 = .ok (.invokevirtual 50, 3) := by decide +kernel
theorem dX6_readNumber_27 : decode cX6_readNumber 27 = .ok (.invokestatic 115, 3) := by decide +kernel
theorem dX6_readNumber_30 : decode cX6_readNumber 30 = .ok (.ifCond .eq 40, 3) := by decide +kernel
theorem dX6_readNumber_33 : decode cX6_readNumber 33 = .ok (.iload 4, 2) := by decide +kernel
theorem dX6_readNumber_35 : decode cX6_readNumber 35 = .ok (.bipush 10, 2) := by decide +kernel
theorem dX6_readNumber_37 : decode cX6_readNumber 37 = .ok (.imul, 1) := by decide +kernel
theorem dX6_readNumber_38 : decode cX6_readNumber 38 = .ok (.aload_n 0, 1) := by decide +kernel
theorem dX6_readNumber_39 : decode cX6_readNumber 39 = .ok (.invokevirtual 50, 3) := by decide +kernel
theorem dX6_readNumber_42 : decode cX6_readNumber 42 = .ok (.iadd, 1) := by decide +kernel
theorem dX6_readNumber_43 : decode cX6_readNumber 43 = .ok (.bipush 48, 2) := by decide +kernel
theorem dX6_readNumber_45 : decode cX6_readNumber 45 = .ok (.isub, 1) := by decide +kernel
theorem dX6_readNumber_46 : decode cX6_readNumber 46 = .ok (.sipush 9999, 3) := by decide +kernel
theorem dX6_readNumber_49 : decode cX6_readNumber 49 = .ok (.invokestatic 118, 3) := by decide +kernel
theorem dX6_readNumber_52 : decode cX6_readNumber 52 = .ok (.istore 4, 2) := by decide +kernel
theorem dX6_readNumber_54 : decode cX6_readNumber 54 = .ok (.aload_n 0, 1) := by decide +kernel
theorem dX6_readNumber_55 : decode cX6_readNumber 55 = .ok (.dup, 1) := by decide +kernel
theorem dX6_readNumber_56 : decode cX6_readNumber 56 = .ok (.getfield 27, 3) := by decide +kernel
theorem dX6_readNumber_59 : decode cX6_readNumber 59 = .ok (.iconst 1, 1) := by decide +kernel
theorem dX6_readNumber_60 : decode cX6_readNumber 60 = .ok (.iadd, 1) := by decide +kernel
theorem dX6_readNumber_61 : decode cX6_readNumber 61 = .ok (.putfield 27, 3) := by decide +kernel
theorem dX6_readNumber_64 : decode cX6_readNumber 64 = .ok (.iinc 5 1, 3) := by decide +kernel
theorem dX6_readNumber_67 : decode cX6_readNumber 67 = .ok (.goto (-52), 3) := by decide +kernel
theorem dX6_readNumber_70 : decode cX6_readNumber 70 = .ok (.aload_n 0, 1) := by decide +kernel
theorem dX6_readNumber_71 : decode cX6_readNumber 71 = .ok (.getfield 27, 3) := by decide +kernel
theorem dX6_readNumber_74 : decode cX6_readNumber 74 = .ok (.iload_n 3, 1) := by decide +kernel
theorem dX6_readNumber_75 : decode cX6_readNumber 75 = .ok (.if_icmp .ne 11, 3) := by decide +kernel
theorem dX6_readNumber_78 : decode cX6_readNumber 78 = .ok (.aload_n 0, 1) := by decide +kernel
theorem dX6_readNumber_79 : decode cX6_readNumber 79 = .ok (.iconst 1, 1) := by decide +kernel
theorem dX6_readNumber_80 : decode cX6_readNumber 80 = .ok (.iload_n 3, 1) := by decide +kernel
theorem dX6_readNumber_81 : decode cX6_readNumber 81 = .ok (.invokevirtual 58, 3) := by decide +kernel
theorem dX6_readNumber_84 : decode cX6_readNumber 84 = .ok (.iload_n 1, 1) := by decide +kernel
theorem dX6_readNumber_85 : decode cX6_readNumber 85 = .ok (.ireturn, 1) := by decide +kernel
theorem dX6_readNumber_86 : decode cX6_readNumber 86 = .ok (.aload_n 0, 1) := by decide +kernel
theorem dX6_readNumber_87 : decode cX6_readNumber 87 = .ok (.getfield 27, 3) := by decide +kernel
theorem dX6_readNumber_90 : decode cX6_readNumber 90 = .ok (.iload_n 3, 1) := by decide +kernel
theorem dX6_readNumber_91 : decode cX6_readNumber 91 = .ok (.isub, 1) := by decide +kernel
theorem dX6_readNumber_92 : decode cX6_readNumber 92 = .ok (.iconst 3, 1) := by decide +kernel
theorem dX6_readNumber_93 : decode cX6_readNumber 93 = .ok (.if_icmp .gt 13, 3) := by decide +kernel
theorem dX6_readNumber_96 : decode cX6_readNumber 96 = .ok (.iload 4, 2) := by decide +kernel
theorem dX6_readNumber_98 : decode cX6_readNumber 98 = .ok (.iload_n 1, 1) := by decide +kernel
theorem dX6_readNumber_99 : decode cX6_readNumber 99 = .ok (.iload_n 2, 1) := by decide +kernel
theorem dX6_readNumber_100 : decode cX6_readNumber 100 = .ok (.invokestatic 123, 3) := by decide +kernel
theorem dX6_readNumber_103 : decode cX6_readNumber 103 = .ok (.ifCond .ne 11, 3) := by decide +kernel
theorem dX6_readNumber_106 : decode cX6_readNumber 106 = .ok (.aload_n 0, 1) := by decide +kernel
theorem dX6_readNumber_107 : decode cX6_readNumber 107 = .ok (.iconst 2, 1) := by decide +kernel
theorem dX6_readNumber_108 : decode cX6_readNumber 108 = .ok (.iload_n 3, 1) := by decide +kernel
theorem dX6_readNumber_109 : decode cX6_readNumber 109 = .ok (.invokevirtual 58, 3) := by decide +kernel
theorem dX6_readNumber_112 : decode cX6_readNumber 112 = .ok (.iload_n 1, 1) := by decide +kernel
theorem dX6_readNumber_113 : decode cX6_readNumber 113 = .ok (.ireturn, 1) := by decide +kernel
theorem dX6_readNumber_114 : decode cX6_readNumber 114 = .ok (.iload 4, 2) := by decide +kernel
theorem dX6_readNumber_116 : decode cX6_readNumber 116 = .ok (.ireturn, 1) := by decide +kernel
set_option maxRecDepth 20000 in
theorem ggX6_takes_X6_skipBlanks : GoodIn wsX6_takes wsX6_skipBlanks := goodIn_r _ [6, 1, 7, 8, 9, 5, 10, 11, 12, 13, 14, 15, 16, 17, 18, 19, 20] (by decide +kernel) (by decide +kernel)
set_option maxRecDepth 20000 in
theorem gX6_takes_X6_skipBlanks : GoodIn wsX6_takes (wsV RX6 43 RX6 yX6_skipBlanks wsX6_skipBlanks) := goodIn_app (goodIn_of _ (by decide +kernel)) ggX6_takes_X6_skipBlanks
set_option maxRecDepth 20000 in
theorem ggX6_takes_X6_letterHere : GoodIn wsX6_takes wsX6_letterHere := goodIn_r _ [10, 1, 11, 12, 13, 14, 15, 16, 17, 18, 19, 20] (by decide +kernel) (by decide +kernel)
set_option maxRecDepth 20000 in
theorem gX6_takes_X6_letterHere : GoodIn wsX6_takes (wsV RX6 50 RX6 yX6_letterHere wsX6_letterHere) := goodIn_app (goodIn_of _ (by decide +kernel)) ggX6_takes_X6_letterHere
theorem dX6_takes_0 : decode cX6_takes 0 = .ok (.aload_n 0, 1) := by decide +kernel
theorem dX6_takes_1 : decode cX6_takes 1 = .ok (.invokevirtual 43, 3) := by decide +kernel
theorem dX6_takes_4 : decode cX6_takes 4 = .ok (.aload_n 0, 1) := by decide +kernel
theorem dX6_takes_5 : decode cX6_takes 5 = .ok (.invokevirtual 50, 3) := by decide +kernel
theorem dX6_takes_8 : decode cX6_takes 8 = .ok (.iload_n 1, 1) := by decide +kernel
theorem dX6_takes_9 : decode cX6_takes 9 = .ok (.if_icmp .eq 5, 3) := by decide +kernel
theorem dX6_takes_12 : decode cX6_takes 12 = .ok (.iconst 0, 1) := by decide +kernel
theorem dX6_takes_13 : decode cX6_takes 13 = .ok (.ireturn, 1) := by decide +kernel
theorem dX6_takes_14 : decode cX6_takes 14 = .ok (.aload_n 0, 1) := by decide +kernel
theorem dX6_takes_15 : decode cX6_takes 15 = .ok (.dup, 1) := by decide +kernel
theorem dX6_takes_16 : decode cX6_takes 16 = .ok (.getfield 27, 3) := by decide +kernel
theorem dX6_takes_19 : decode cX6_takes 19 = .ok (.iconst 1, 1) := by decide +kernel
theorem dX6_takes_20 : decode cX6_takes 20 = .ok (.iadd, 1) := by decide +kernel
theorem dX6_takes_21 : decode cX6_takes 21 = .ok (.putfield 27, 3) := by decide +kernel
theorem dX6_takes_24 : decode cX6_takes 24 = .ok (.iconst 1, 1) := by decide +kernel
theorem dX6_takes_25 : decode cX6_takes 25 = .ok (.ireturn, 1) := by decide +kernel
set_option maxRecDepth 20000 in
theorem ggX6_skipBlanks_X6_letterHere : GoodIn wsX6_skipBlanks wsX6_letterHere := goodIn_r _ [6, 1, 7, 8, 9, 10, 11, 12, 13, 14, 15, 16] (by decide +kernel) (by decide +kernel)
set_option maxRecDepth 20000 in
theorem gX6_skipBlanks_X6_letterHere : GoodIn wsX6_skipBlanks (wsV RX6 50 RX6 yX6_letterHere wsX6_letterHere) := goodIn_app (goodIn_of _ (by decide +kernel)) ggX6_skipBlanks_X6_letterHere
theorem dX6_skipBlanks_0 : decode cX6_skipBlanks 0 = .ok (.iconst 0, 1) := by decide +kernel
theorem dX6_skipBlanks_1 : decode cX6_skipBlanks 1 = .ok (.istore_n 1, 1) := by decide +kernel
theorem dX6_skipBlanks_2 : decode cX6_skipBlanks 2 = .ok (.iload_n 1, 1) := by decide +kernel
theorem dX6_skipBlanks_3 : decode cX6_skipBlanks 3 = .ok (.sipush 230, 3) := by decide +kernel
theorem dX6_skipBlanks_6 : decode cX6_skipBlanks 6 = .ok (.if_icmp .ge 28, 3) := by decide +kernel
theorem dX6_skipBlanks_9 : decode cX6_skipBlanks 9 = .ok (.aload_n 0, 1) := by decide +kernel
theorem dX6_skipBlanks_10 : decode cX6_skipBlanks 10 = .ok (.invokevirtual 50, 3) := by decide +kernel
theorem dX6_skipBlanks_13 : decode cX6_skipBlanks 13 = .ok (.bipush 32, 2) := by decide +kernel
theorem dX6_skipBlanks_15 : decode cX6_skipBlanks 15 = .ok (.if_icmp .ne 19, 3) := by decide +kernel
theorem dX6_skipBlanks_18 : decode cX6_skipBlanks 18 = .ok (.aload_n 0, 1) := by decide +kernel
theorem dX6_skipBlanks_19 : decode cX6_skipBlanks 19 = .ok (.dup, 1) := by decide +kernel
theorem dX6_skipBlanks_20 : decode cX6_skipBlanks 20 = .ok (.getfield 27, 3) := by decide +kernel
theorem dX6_skipBlanks_23 : decode cX6_skipBlanks 23 = .ok (.iconst 1, 1) := by decide +kernel
theorem dX6_skipBlanks_24 : decode cX6_skipBlanks 24 = .ok (.iadd, 1) := by decide +kernel
theorem dX6_skipBlanks_25 : decode cX6_skipBlanks 25 = .ok (.putfield 27, 3) := by decide +kernel
theorem dX6_skipBlanks_28 : decode cX6_skipBlanks 28 = .ok (.iinc 1 1, 3) := by decide +kernel
theorem dX6_skipBlanks_31 : decode cX6_skipBlanks 31 = .ok (.goto (-29), 3) := by decide +kernel
theorem dX6_skipBlanks_34 : decode cX6_skipBlanks 34 = .ok (.return_, 1) := by decide +kernel
theorem dX6_letterHere_0 : decode cX6_letterHere 0 = .ok (.aload_n 0, 1) := by decide +kernel
theorem dX6_letterHere_1 : decode cX6_letterHere 1 = .ok (.getfield 27, 3) := by decide +kernel
theorem dX6_letterHere_4 : decode cX6_letterHere 4 = .ok (.ifCond .lt 38, 3) := by decide +kernel
theorem dX6_letterHere_7 : decode cX6_letterHere 7 = .ok (.aload_n 0, 1) := by decide +kernel
theorem dX6_letterHere_8 : decode cX6_letterHere 8 = .ok (.getfield 27, 3) := by decide +kernel
theorem dX6_letterHere_11 : decode cX6_letterHere 11 = .ok (.aload_n 0, 1) := by decide +kernel
theorem dX6_letterHere_12 : decode cX6_letterHere 12 = .ok (.getfield 19, 3) := by decide +kernel
theorem dX6_letterHere_15 : decode cX6_letterHere 15 = .ok (.if_icmp .ge 27, 3) := by decide +kernel
theorem dX6_letterHere_18 : decode cX6_letterHere 18 = .ok (.aload_n 0, 1) := by decide +kernel
theorem dX6_letterHere_19 : decode cX6_letterHere 19 = .ok (.getfield 27, 3) := by decide +kernel
theorem dX6_letterHere_22 : decode cX6_letterHere 22 = .ok (.aload_n 0, 1) := by decide +kernel
theorem dX6_letterHere_23 : decode cX6_letterHere 23 = .ok (.getfield 11, 3) := by decide +kernel
theorem dX6_letterHere_26 : decode cX6_letterHere 26 = .ok (.arraylength, 1) := by decide +kernel
theorem dX6_letterHere_27 : decode cX6_letterHere 27 = .ok (.if_icmp .ge 15, 3) := by decide +kernel
theorem dX6_letterHere_30 : decode cX6_letterHere 30 = .ok (.aload_n 0, 1) := by decide +kernel
theorem dX6_letterHere_31 : decode cX6_letterHere 31 = .ok (.getfield 11, 3) := by decide +kernel
theorem dX6_letterHere_34 : decode cX6_letterHere 34 = .ok (.aload_n 0, 1) := by decide +kernel
theorem dX6_letterHere_35 : decode cX6_letterHere 35 = .ok (.getfield 27, 3) := by decide +kernel
theorem dX6_letterHere_38 : decode cX6_letterHere 38 = .ok (.iaload, 1) := by decide +kernel
theorem dX6_letterHere_39 : decode cX6_letterHere 39 = .ok (.goto 4, 3) := by decide +kernel
theorem dX6_letterHere_42 : decode cX6_letterHere 42 = .ok (.iconst (-1), 1) := by decide +kernel
theorem dX6_letterHere_43 : decode cX6_letterHere 43 = .ok (.ireturn, 1) := by decide +kernel
theorem dX6_setFault_0 : decode cX6_setFault 0 = .ok (.aload_n 0, 1) := by decide +kernel
theorem dX6_setFault_1 : decode cX6_setFault 1 = .ok (.getfield 30, 3) := by decide +kernel
theorem dX6_setFault_4 : decode cX6_setFault 4 = .ok (.ifCond .ne 13, 3) := by decide +kernel
theorem dX6_setFault_7 : decode cX6_setFault 7 = .ok (.aload_n 0, 1) := by decide +kernel
theorem dX6_setFault_8 : decode cX6_setFault 8 = .ok (.iload_n 1, 1) := by decide +kernel
theorem dX6_setFault_9 : decode cX6_setFault 9 = .ok (.putfield 30, 3) := by decide +kernel
theorem dX6_setFault_12 : decode cX6_setFault 12 = .ok (.aload_n 0, 1) := by decide +kernel
theorem dX6_setFault_13 : decode cX6_setFault 13 = .ok (.iload_n 2, 1) := by decide +kernel
theorem dX6_setFault_14 : decode cX6_setFault 14 = .ok (.putfield 15, 3) := by decide +kernel
theorem dX6_setFault_17 : decode cX6_setFault 17 = .ok (.return_, 1) := by decide +kernel
theorem dX6_isFigure_0 : decode cX6_isFigure 0 = .ok (.iload_n 0, 1) := by decide +kernel
theorem dX6_isFigure_1 : decode cX6_isFigure 1 = .ok (.bipush 48, 2) := by decide +kernel
theorem dX6_isFigure_3 : decode cX6_isFigure 3 = .ok (.if_icmp .lt 13, 3) := by decide +kernel
theorem dX6_isFigure_6 : decode cX6_isFigure 6 = .ok (.iload_n 0, 1) := by decide +kernel
theorem dX6_isFigure_7 : decode cX6_isFigure 7 = .ok (.bipush 57, 2) := by decide +kernel
theorem dX6_isFigure_9 : decode cX6_isFigure 9 = .ok (.if_icmp .gt 7, 3) := by decide +kernel
theorem dX6_isFigure_12 : decode cX6_isFigure 12 = .ok (.iconst 1, 1) := by decide +kernel
theorem dX6_isFigure_13 : decode cX6_isFigure 13 = .ok (.goto 4, 3) := by decide +kernel
theorem dX6_isFigure_16 : decode cX6_isFigure 16 = .ok (.iconst 0, 1) := by decide +kernel
theorem dX6_isFigure_17 : decode cX6_isFigure 17 = .ok (.ireturn, 1) := by decide +kernel
set_option maxRecDepth 20000 in
theorem ggX7_init_X4_init : GoodIn wsX7_init wsX4_init := goodIn_r _ [12, 13, 2, 3] (by decide +kernel) (by decide +kernel)
set_option maxRecDepth 20000 in
theorem gX7_init_X4_init : GoodIn wsX7_init (wsX4_init) := ggX7_init_X4_init
theorem dX7_init_0 : decode cX7_init 0 = .ok (.aload_n 0, 1) := by decide +kernel
theorem dX7_init_1 : decode cX7_init 1 = .ok (.invokespecial 3, 3) := by decide +kernel
theorem dX7_init_4 : decode cX7_init 4 = .ok (.aload_n 0, 1) := by decide +kernel
theorem dX7_init_5 : decode cX7_init 5 = .ok (.aload_n 1, 1) := by decide +kernel
theorem dX7_init_6 : decode cX7_init 6 = .ok (.putfield 9, 3) := by decide +kernel
theorem dX7_init_9 : decode cX7_init 9 = .ok (.aload_n 0, 1) := by decide +kernel
theorem dX7_init_10 : decode cX7_init 10 = .ok (.aload_n 2, 1) := by decide +kernel
theorem dX7_init_11 : decode cX7_init 11 = .ok (.putfield 15, 3) := by decide +kernel
theorem dX7_init_14 : decode cX7_init 14 = .ok (.aload_n 0, 1) := by decide +kernel
theorem dX7_init_15 : decode cX7_init 15 = .ok (.new 19, 3) := by decide +kernel
theorem dX7_init_18 : decode cX7_init 18 = .ok (.dup, 1) := by decide +kernel
theorem dX7_init_19 : decode cX7_init 19 = .ok (.invokespecial 21, 3) := by decide +kernel
theorem dX7_init_22 : decode cX7_init 22 = .ok (.putfield 22, 3) := by decide +kernel
theorem dX7_init_25 : decode cX7_init 25 = .ok (.return_, 1) := by decide +kernel
set_option maxRecDepth 20000 in
theorem ggX7_goOn_X4_copyFrom : GoodIn wsX7_goOn wsX4_copyFrom := goodIn_r _ [8, 9, 10, 11, 12, 13, 14, 15, 16, 17, 18, 19, 20, 70, 71, 72, 73, 74, 75, 76, 77, 78, 79, 80, 81] (by decide +kernel) (by decide +kernel)
set_option maxRecDepth 20000 in
theorem gX7_goOn_X4_copyFrom : GoodIn wsX7_goOn (wsV RX7 25 RX4 yX4_copyFrom wsX4_copyFrom) := goodIn_app (goodIn_of _ (by decide +kernel)) ggX7_goOn_X4_copyFrom
set_option maxRecDepth 20000 in
theorem ggX7_goOn_X4_passMany : GoodIn wsX7_goOn wsX4_passMany := goodIn_r _ [24, 12, 25, 26, 27, 7, 28, 10, 14, 29, 9, 11, 15, 30, 31, 32, 33, 34, 35, 13, 36, 37, 38, 39, 40, 41, 42, 43, 44, 45, 46, 47, 48, 49, 50, 51, 52, 53, 54, 55, 56, 57, 16, 17, 58, 59, 60, 18, 61, 62, 63, 19, 20, 70, 71, 72, 73, 74, 75, 76, 77, 78, 79, 80, 81, 82, 83, 84, 85, 86, 87, 88, 89, 90, 91, 92, 93] (by decide +kernel) (by decide +kernel)
set_option maxRecDepth 20000 in
theorem gX7_goOn_X4_passMany : GoodIn wsX7_goOn (wsV RX7 29 RX4 yX4_passMany wsX4_passMany) := goodIn_app (goodIn_of _ (by decide +kernel)) ggX7_goOn_X4_passMany
theorem dX7_goOn_0 : decode cX7_goOn 0 = .ok (.aload_n 0, 1) := by decide +kernel
theorem dX7_goOn_1 : decode cX7_goOn 1 = .ok (.getfield 22, 3) := by decide +kernel
theorem dX7_goOn_4 : decode cX7_goOn 4 = .ok (.aload_n 0, 1) := by decide +kernel
theorem dX7_goOn_5 : decode cX7_goOn 5 = .ok (.getfield 15, 3) := by decide +kernel
theorem dX7_goOn_8 : decode cX7_goOn 8 = .ok (.invokevirtual 25, 3) := by decide +kernel
theorem dX7_goOn_11 : decode cX7_goOn 11 = .ok (.aload_n 0, 1) := by decide +kernel
theorem dX7_goOn_12 : decode cX7_goOn 12 = .ok (.getfield 22, 3) := by decide +kernel
theorem dX7_goOn_15 : decode cX7_goOn 15 = .ok (.aload_n 0, 1) := by decide +kernel
theorem dX7_goOn_16 : decode cX7_goOn 16 = .ok (.getfield 9, 3) := by decide +kernel
theorem dX7_goOn_19 : decode cX7_goOn 19 = .ok (.iload_n 1, 1) := by decide +kernel
theorem dX7_goOn_20 : decode cX7_goOn 20 = .ok (.invokevirtual 29, 3) := by decide +kernel
theorem dX7_goOn_23 : decode cX7_goOn 23 = .ok (.return_, 1) := by decide +kernel
set_option maxRecDepth 20000 in
theorem ggX7_minuteOfLoss_X7_goOn : GoodIn wsX7_minuteOfLoss wsX7_goOn := goodIn_r _ [8, 1, 9, 10, 11, 12, 13, 14, 15, 16, 17, 18, 19, 20, 21, 22, 23, 24, 25, 26, 27, 28, 29, 30, 31, 32, 33, 34, 35, 36, 37, 38, 39, 40, 41, 42, 43, 44, 45, 46, 47, 48, 49, 50, 51, 52, 53, 54, 55, 56, 57, 58, 59, 60, 61, 62, 63, 64, 65, 66, 67, 68, 69, 70, 71, 72, 73, 74, 75, 76, 77, 78, 79, 80, 81, 82, 83, 84, 85, 86, 87, 88, 89, 90, 91, 92, 93, 94, 95, 96, 97, 98, 99, 100] (by decide +kernel) (by decide +kernel)
set_option maxRecDepth 20000 in
theorem gX7_minuteOfLoss_X7_goOn : GoodIn wsX7_minuteOfLoss (wsV RX7 33 RX7 yX7_goOn wsX7_goOn) := goodIn_app (goodIn_of _ (by decide +kernel)) ggX7_minuteOfLoss_X7_goOn
theorem dX7_minuteOfLoss_0 : decode cX7_minuteOfLoss 0 = .ok (.aload_n 0, 1) := by decide +kernel
theorem dX7_minuteOfLoss_1 : decode cX7_minuteOfLoss 1 = .ok (.sipush 999, 3) := by decide +kernel
theorem dX7_minuteOfLoss_4 : decode cX7_minuteOfLoss 4 = .ok (.invokevirtual 33, 3) := by decide +kernel
theorem dX7_minuteOfLoss_7 : decode cX7_minuteOfLoss 7 = .ok (.aload_n 0, 1) := by decide +kernel
theorem dX7_minuteOfLoss_8 : decode cX7_minuteOfLoss 8 = .ok (.getfield 22, 3) := by decide +kernel
theorem dX7_minuteOfLoss_11 : decode cX7_minuteOfLoss 11 = .ok (.getfield 37, 3) := by decide +kernel
theorem dX7_minuteOfLoss_14 : decode cX7_minuteOfLoss 14 = .ok (.ifCond .eq 15, 3) := by decide +kernel
theorem dX7_minuteOfLoss_17 : decode cX7_minuteOfLoss 17 = .ok (.aload_n 0, 1) := by decide +kernel
theorem dX7_minuteOfLoss_18 : decode cX7_minuteOfLoss 18 = .ok (.getfield 22, 3) := by decide +kernel
theorem dX7_minuteOfLoss_21 : decode cX7_minuteOfLoss 21 = .ok (.getfield 41, 3) := by decide +kernel
theorem dX7_minuteOfLoss_24 : decode cX7_minuteOfLoss 24 = .ok (.iconst 1, 1) := by decide +kernel
theorem dX7_minuteOfLoss_25 : decode cX7_minuteOfLoss 25 = .ok (.isub, 1) := by decide +kernel
theorem dX7_minuteOfLoss_26 : decode cX7_minuteOfLoss 26 = .ok (.goto 4, 3) := by decide +kernel
theorem dX7_minuteOfLoss_29 : decode cX7_minuteOfLoss 29 = .ok (.iconst (-1), 1) := by decide +kernel
theorem dX7_minuteOfLoss_30 : decode cX7_minuteOfLoss 30 = .ok (.ireturn, 1) := by decide +kernel
set_option maxRecDepth 20000 in
theorem ggX7_minutesToLight_X7_goOn : GoodIn wsX7_minutesToLight wsX7_goOn := goodIn_r _ [13, 7, 1, 14, 15, 16, 17, 18, 19, 20, 21, 22, 23, 24, 25, 26, 27, 28, 29, 30, 31, 32, 33, 34, 35, 36, 37, 38, 39, 40, 41, 42, 43, 5, 44, 45, 46, 47, 48, 49, 50, 51, 52, 53, 54, 55, 56, 57, 58, 59, 60, 61, 62, 63, 64, 65, 66, 67, 68, 69, 70, 71, 4, 6, 72, 73, 74, 75, 76, 77, 78, 79, 80, 81, 82, 83, 84, 85, 86, 87, 88, 89, 90, 91, 92, 93, 94, 95, 96, 97, 98, 99, 100, 101] (by decide +kernel) (by decide +kernel)
set_option maxRecDepth 20000 in
theorem gX7_minutesToLight_X7_goOn : GoodIn wsX7_minutesToLight (wsV RX7 33 RX7 yX7_goOn wsX7_goOn) := goodIn_app (goodIn_of _ (by decide +kernel)) ggX7_minutesToLight_X7_goOn
theorem dX7_minutesToLight_0 : decode cX7_minutesToLight 0 = .ok (.iload_n 1, 1) := by decide +kernel
theorem dX7_minutesToLight_1 : decode cX7_minutesToLight 1 = .ok (.aload_n 0, 1) := by decide +kernel
theorem dX7_minutesToLight_2 : decode cX7_minutesToLight 2 = .ok (.getfield 15, 3) := by decide +kernel
theorem dX7_minutesToLight_5 : decode cX7_minutesToLight 5 = .ok (.getfield 45, 3) := by decide +kernel
theorem dX7_minutesToLight_8 : decode cX7_minutesToLight 8 = .ok (.isub, 1) := by decide +kernel
theorem dX7_minutesToLight_9 : decode cX7_minutesToLight 9 = .ok (.iconst 0, 1) := by decide +kernel
theorem dX7_minutesToLight_10 : decode cX7_minutesToLight 10 = .ok (.invokestatic 48, 3) := by decide +kernel
theorem dX7_minutesToLight_13 : decode cX7_minutesToLight 13 = .ok (.istore_n 2, 1) := by decide +kernel
theorem dX7_minutesToLight_14 : decode cX7_minutesToLight 14 = .ok (.aload_n 0, 1) := by decide +kernel
theorem dX7_minutesToLight_15 : decode cX7_minutesToLight 15 = .ok (.iload_n 2, 1) := by decide +kernel
theorem dX7_minutesToLight_16 : decode cX7_minutesToLight 16 = .ok (.invokevirtual 33, 3) := by decide +kernel
theorem dX7_minutesToLight_19 : decode cX7_minutesToLight 19 = .ok (.aload_n 0, 1) := by decide +kernel
theorem dX7_minutesToLight_20 : decode cX7_minutesToLight 20 = .ok (.getfield 22, 3) := by decide +kernel
theorem dX7_minutesToLight_23 : decode cX7_minutesToLight 23 = .ok (.getfield 37, 3) := by decide +kernel
theorem dX7_minutesToLight_26 : decode cX7_minutesToLight 26 = .ok (.ifCond .eq 7, 3) := by decide +kernel
theorem dX7_minutesToLight_29 : decode cX7_minutesToLight 29 = .ok (.iconst (-1), 1) := by decide +kernel
theorem dX7_minutesToLight_30 : decode cX7_minutesToLight 30 = .ok (.goto 4, 3) := by decide +kernel
theorem dX7_minutesToLight_33 : decode cX7_minutesToLight 33 = .ok (.iload_n 2, 1) := by decide +kernel
theorem dX7_minutesToLight_34 : decode cX7_minutesToLight 34 = .ok (.ireturn, 1) := by decide +kernel
set_option maxRecDepth 20000 in
theorem ggX7_longestWithin_X7_startFresh : GoodIn wsX7_longestWithin wsX7_startFresh := goodIn_r _ [8, 1, 9, 10, 11, 12, 13, 14, 15, 16, 17, 18, 19, 20, 21, 22, 71, 72, 73, 74, 75, 76, 77, 78, 79, 80, 81, 82, 83, 84, 85, 86, 87, 88] (by decide +kernel) (by decide +kernel)
set_option maxRecDepth 20000 in
theorem gX7_longestWithin_X7_startFresh : GoodIn wsX7_longestWithin (wsV RX7 54 RX7 yX7_startFresh wsX7_startFresh) := goodIn_app (goodIn_of _ (by decide +kernel)) ggX7_longestWithin_X7_startFresh
set_option maxRecDepth 20000 in
theorem ggX7_longestWithin_X4_passOne : GoodIn wsX7_longestWithin wsX4_passOne := goodIn_r _ [26, 16, 20, 27, 28, 17, 21, 29, 30, 31, 32, 33, 34, 18, 19, 35, 36, 37, 38, 39, 40, 41, 42, 43, 44, 45, 46, 47, 48, 49, 50, 51, 52, 53, 54, 55, 14, 56, 22, 57, 58, 59, 60, 61, 62, 63, 64, 65, 66, 77, 78, 79, 80, 81, 82, 83, 84, 85, 86, 87, 88, 89, 90, 91, 92, 93, 94, 95, 96, 97, 98, 99, 100] (by decide +kernel) (by decide +kernel)
set_option maxRecDepth 20000 in
theorem gX7_longestWithin_X4_passOne : GoodIn wsX7_longestWithin (wsV RX7 57 RX4 yX4_passOne wsX4_passOne) := goodIn_app (goodIn_of _ (by decide +kernel)) ggX7_longestWithin_X4_passOne
set_option maxRecDepth 20000 in
theorem ggX7_longestWithin_X4_tailLength : GoodIn wsX7_longestWithin wsX4_tailLength := goodIn_r _ [70, 22, 61, 57, 66, 65, 62, 63, 32, 64, 77, 78, 79, 80, 81, 82, 83, 84, 85, 86, 87, 88] (by decide +kernel) (by decide +kernel)
set_option maxRecDepth 20000 in
theorem gX7_longestWithin_X4_tailLength : GoodIn wsX7_longestWithin (wsV RX7 61 RX4 yX4_tailLength wsX4_tailLength) := goodIn_app (goodIn_of _ (by decide +kernel)) ggX7_longestWithin_X4_tailLength
theorem dX7_longestWithin_0 : decode cX7_longestWithin 0 = .ok (.aload_n 0, 1) := by decide +kernel
theorem dX7_longestWithin_1 : decode cX7_longestWithin 1 = .ok (.invokevirtual 54, 3) := by decide +kernel
theorem dX7_longestWithin_4 : decode cX7_longestWithin 4 = .ok (.iconst 0, 1) := by decide +kernel
theorem dX7_longestWithin_5 : decode cX7_longestWithin 5 = .ok (.istore_n 2, 1) := by decide +kernel
theorem dX7_longestWithin_6 : decode cX7_longestWithin 6 = .ok (.iload_n 2, 1) := by decide +kernel
theorem dX7_longestWithin_7 : decode cX7_longestWithin 7 = .ok (.sipush 999, 3) := by decide +kernel
theorem dX7_longestWithin_10 : decode cX7_longestWithin 10 = .ok (.if_icmp .ge 43, 3) := by decide +kernel
theorem dX7_longestWithin_13 : decode cX7_longestWithin 13 = .ok (.aload_n 0, 1) := by decide +kernel
theorem dX7_longestWithin_14 : decode cX7_longestWithin 14 = .ok (.getfield 22, 3) := by decide +kernel
theorem dX7_longestWithin_17 : decode cX7_longestWithin 17 = .ok (.aload_n 0, 1) := by decide +kernel
theorem dX7_longestWithin_18 : decode cX7_longestWithin 18 = .ok (.getfield 9, 3) := by decide +kernel
theorem dX7_longestWithin_21 : decode cX7_longestWithin 21 = .ok (.invokevirtual 57, 3) := by decide +kernel
theorem dX7_longestWithin_24 : decode cX7_longestWithin 24 = .ok (.aload_n 0, 1) := by decide +kernel
theorem dX7_longestWithin_25 : decode cX7_longestWithin 25 = .ok (.getfield 22, 3) := by decide +kernel
theorem dX7_longestWithin_28 : decode cX7_longestWithin 28 = .ok (.getfield 37, 3) := by decide +kernel
theorem dX7_longestWithin_31 : decode cX7_longestWithin 31 = .ok (.ifCond .ne 14, 3) := by decide +kernel
theorem dX7_longestWithin_34 : decode cX7_longestWithin 34 = .ok (.aload_n 0, 1) := by decide +kernel
theorem dX7_longestWithin_35 : decode cX7_longestWithin 35 = .ok (.getfield 22, 3) := by decide +kernel
theorem dX7_longestWithin_38 : decode cX7_longestWithin 38 = .ok (.invokevirtual 61, 3) := by decide +kernel
theorem dX7_longestWithin_41 : decode cX7_longestWithin 41 = .ok (.iload_n 1, 1) := by decide +kernel
theorem dX7_longestWithin_42 : decode cX7_longestWithin 42 = .ok (.if_icmp .le 5, 3) := by decide +kernel
theorem dX7_longestWithin_45 : decode cX7_longestWithin 45 = .ok (.iload_n 2, 1) := by decide +kernel
theorem dX7_longestWithin_46 : decode cX7_longestWithin 46 = .ok (.ireturn, 1) := by decide +kernel
theorem dX7_longestWithin_47 : decode cX7_longestWithin 47 = .ok (.iinc 2 1, 3) := by decide +kernel
theorem dX7_longestWithin_50 : decode cX7_longestWithin 50 = .ok (.goto (-44), 3) := by decide +kernel
theorem dX7_longestWithin_53 : decode cX7_longestWithin 53 = .ok (.sipush 999, 3) := by decide +kernel
theorem dX7_longestWithin_56 : decode cX7_longestWithin 56 = .ok (.ireturn, 1) := by decide +kernel
set_option maxRecDepth 20000 in
theorem ggX7_findBestRule_X7_tailWithNod : GoodIn wsX7_findBestRule wsX7_tailWithNod := goodIn_r _ [8, 2, 9, 10, 11, 12, 13, 14, 7, 15, 16, 17, 18, 19, 20, 21, 22, 23, 24, 25, 26, 27, 28, 29, 30, 31, 32, 33, 34, 35, 36, 37, 38, 39, 40, 41, 42, 43, 44, 45, 46, 47, 48, 49, 50, 51, 52, 53, 54, 55, 56, 57, 58, 59, 60, 61, 62, 63, 64, 65, 66, 67, 68, 69, 70, 71, 72, 73, 74, 75, 76, 77, 78, 79, 80, 81, 82, 83, 84, 85, 86, 87, 88, 89, 90, 91, 92, 93, 94, 95, 96, 97, 98, 99, 100, 101, 102, 103, 104, 105, 106, 107, 108, 109, 110, 111, 112, 113, 114, 115, 116, 117, 118] (by decide +kernel) (by decide +kernel)
set_option maxRecDepth 20000 in
theorem gX7_findBestRule_X7_tailWithNod : GoodIn wsX7_findBestRule (wsV RX7 68 RX7 yX7_tailWithNod wsX7_tailWithNod) := goodIn_app (goodIn_of _ (by decide +kernel)) ggX7_findBestRule_X7_tailWithNod
theorem dX7_findBestRule_0 : decode cX7_findBestRule 0 = .ok (.aload_n 0, 1) := by decide +kernel
theorem dX7_findBestRule_1 : decode cX7_findBestRule 1 = .ok (.sipush 10000, 3) := by decide +kernel
theorem dX7_findBestRule_4 : decode cX7_findBestRule 4 = .ok (.putfield 65, 3) := by decide +kernel
theorem dX7_findBestRule_7 : decode cX7_findBestRule 7 = .ok (.iconst 0, 1) := by decide +kernel
theorem dX7_findBestRule_8 : decode cX7_findBestRule 8 = .ok (.istore_n 2, 1) := by decide +kernel
theorem dX7_findBestRule_9 : decode cX7_findBestRule 9 = .ok (.iconst 0, 1) := by decide +kernel
theorem dX7_findBestRule_10 : decode cX7_findBestRule 10 = .ok (.istore_n 3, 1) := by decide +kernel
theorem dX7_findBestRule_11 : decode cX7_findBestRule 11 = .ok (.iload_n 3, 1) := by decide +kernel
theorem dX7_findBestRule_12 : decode cX7_findBestRule 12 = .ok (.bipush 9, 2) := by decide +kernel
theorem dX7_findBestRule_14 : decode cX7_findBestRule 14 = .ok (.if_icmp .gt 85, 3) := by decide +kernel
theorem dX7_findBestRule_17 : decode cX7_findBestRule 17 = .ok (.iconst 1, 1) := by decide +kernel
theorem dX7_findBestRule_18 : decode cX7_findBestRule 18 = .ok (.istore 4, 2) := by decide +kernel
theorem dX7_findBestRule_20 : decode cX7_findBestRule 20 = .ok (.iload 4, 2) := by decide +kernel
theorem dX7_findBestRule_22 : decode cX7_findBestRule 22 = .ok (.bipush 10, 2) := by decide +kernel
theorem dX7_findBestRule_24 : decode cX7_findBestRule 24 = .ok (.if_icmp .gt 69, 3) := by decide +kernel
theorem dX7_findBestRule_27 : decode cX7_findBestRule 27 = .ok (.aload_n 0, 1) := by decide +kernel
theorem dX7_findBestRule_28 : decode cX7_findBestRule 28 = .ok (.iload_n 3, 1) := by decide +kernel
theorem dX7_findBestRule_29 : decode cX7_findBestRule 29 = .ok (.iload 4, 2) := by decide +kernel
theorem dX7_findBestRule_31 : decode cX7_findBestRule 31 = .ok (.iload_n 1, 1) := by decide +kernel
theorem dX7_findBestRule_32 : decode cX7_findBestRule 32 = .ok (.iconst (-1), 1) := by decide +kernel
theorem dX7_findBestRule_33 : decode cX7_findBestRule 33 = .ok (.iconst (-1), 1) := by decide +kernel
theorem dX7_findBestRule_34 : decode cX7_findBestRule 34 = .ok (.invokevirtual 68, 3) := by decide +kernel
theorem dX7_findBestRule_37 : decode cX7_findBestRule 37 = .ok (.istore 5, 2) := by decide +kernel
theorem dX7_findBestRule_39 : decode cX7_findBestRule 39 = .ok (.iload 5, 2) := by decide +kernel
theorem dX7_findBestRule_41 : decode cX7_findBestRule 41 = .ok (.aload_n 0, 1) := by decide +kernel
theorem dX7_findBestRule_42 : decode cX7_findBestRule 42 = .ok (.getfield 65, 3) := by decide +kernel
theorem dX7_findBestRule_45 : decode cX7_findBestRule 45 = .ok (.if_icmp .lt 20, 3) := by decide +kernel
theorem dX7_findBestRule_48 : decode cX7_findBestRule 48 = .ok (.iload 5, 2) := by decide +kernel
theorem dX7_findBestRule_50 : decode cX7_findBestRule 50 = .ok (.aload_n 0, 1) := by decide +kernel
theorem dX7_findBestRule_51 : decode cX7_findBestRule 51 = .ok (.getfield 65, 3) := by decide +kernel
theorem dX7_findBestRule_54 : decode cX7_findBestRule 54 = .ok (.if_icmp .ne 33, 3) := by decide +kernel
theorem dX7_findBestRule_57 : decode cX7_findBestRule 57 = .ok (.aload_n 0, 1) := by decide +kernel
theorem dX7_findBestRule_58 : decode cX7_findBestRule 58 = .ok (.getfield 72, 3) := by decide +kernel
theorem dX7_findBestRule_61 : decode cX7_findBestRule 61 = .ok (.iload_n 2, 1) := by decide +kernel
theorem dX7_findBestRule_62 : decode cX7_findBestRule 62 = .ok (.if_icmp .ge 25, 3) := by decide +kernel
theorem dX7_findBestRule_65 : decode cX7_findBestRule 65 = .ok (.aload_n 0, 1) := by decide +kernel
theorem dX7_findBestRule_66 : decode cX7_findBestRule 66 = .ok (.iload 5, 2) := by decide +kernel
theorem dX7_findBestRule_68 : decode cX7_findBestRule 68 = .ok (.putfield 65, 3) := by decide +kernel
theorem dX7_findBestRule_71 : decode cX7_findBestRule 71 = .ok (.aload_n 0, 1) := by decide +kernel
theorem dX7_findBestRule_72 : decode cX7_findBestRule 72 = .ok (.getfield 72, 3) := by decide +kernel
theorem dX7_findBestRule_75 : decode cX7_findBestRule 75 = .ok (.istore_n 2, 1) := by decide +kernel
theorem dX7_findBestRule_76 : decode cX7_findBestRule 76 = .ok (.aload_n 0, 1) := by decide +kernel
theorem dX7_findBestRule_77 : decode cX7_findBestRule 77 = .ok (.bipush 100, 2) := by decide +kernel
theorem dX7_findBestRule_79 : decode cX7_findBestRule 79 = .ok (.iload_n 3, 1) := by decide +kernel
theorem dX7_findBestRule_80 : decode cX7_findBestRule 80 = .ok (.imul, 1) := by decide +kernel
theorem dX7_findBestRule_81 : decode cX7_findBestRule 81 = .ok (.iload 4, 2) := by decide +kernel
theorem dX7_findBestRule_83 : decode cX7_findBestRule 83 = .ok (.iadd, 1) := by decide +kernel
theorem dX7_findBestRule_84 : decode cX7_findBestRule 84 = .ok (.putfield 75, 3) := by decide +kernel
theorem dX7_findBestRule_87 : decode cX7_findBestRule 87 = .ok (.iinc 4 1, 3) := by decide +kernel
theorem dX7_findBestRule_90 : decode cX7_findBestRule 90 = .ok (.goto (-70), 3) := by decide +kernel
theorem dX7_findBestRule_93 : decode cX7_findBestRule 93 = .ok (.iinc 3 1, 3) := by decide +kernel
theorem dX7_findBestRule_96 : decode cX7_findBestRule 96 = .ok (.goto (-85), 3) := by decide +kernel
theorem dX7_findBestRule_99 : decode cX7_findBestRule 99 = .ok (.return_, 1) := by decide +kernel
set_option maxRecDepth 20000 in
theorem ggX7_tailWithNod_X7_startFresh : GoodIn wsX7_tailWithNod wsX7_startFresh := goodIn_r _ [9, 2, 10, 11, 12, 13, 14, 15, 16, 17, 18, 19, 20, 21, 22, 23, 83, 84, 85, 86, 87, 88, 89, 90, 91, 92, 93, 94, 95, 96, 97, 98, 99, 100] (by decide +kernel) (by decide +kernel)
set_option maxRecDepth 20000 in
theorem gX7_tailWithNod_X7_startFresh : GoodIn wsX7_tailWithNod (wsV RX7 54 RX7 yX7_startFresh wsX7_startFresh) := goodIn_app (goodIn_of _ (by decide +kernel)) ggX7_tailWithNod_X7_startFresh
set_option maxRecDepth 20000 in
theorem ggX7_tailWithNod_X4_passOne : GoodIn wsX7_tailWithNod wsX4_passOne := goodIn_r _ [27, 17, 21, 28, 29, 18, 22, 30, 31, 32, 33, 34, 35, 19, 20, 36, 37, 38, 39, 40, 41, 42, 43, 44, 45, 46, 47, 48, 49, 50, 51, 52, 53, 54, 55, 56, 15, 57, 23, 58, 59, 60, 61, 62, 63, 64, 65, 66, 67, 89, 90, 91, 92, 93, 94, 95, 96, 97, 98, 99, 100, 101, 102, 103, 104, 105, 106, 107, 108, 109, 110, 111, 112] (by decide +kernel) (by decide +kernel)
set_option maxRecDepth 20000 in
theorem gX7_tailWithNod_X4_passOne : GoodIn wsX7_tailWithNod (wsV RX7 57 RX4 yX4_passOne wsX4_passOne) := goodIn_app (goodIn_of _ (by decide +kernel)) ggX7_tailWithNod_X4_passOne
set_option maxRecDepth 20000 in
theorem ggX7_tailWithNod_X4_passByRule : GoodIn wsX7_tailWithNod wsX4_passByRule := goodIn_r _ [71, 17, 21, 18, 22, 72, 73, 74, 39, 75, 76, 77, 32, 33, 34, 78, 25, 26, 15, 27, 28, 29, 30, 31, 35, 19, 20, 36, 37, 38, 40, 41, 42, 43, 44, 45, 46, 47, 48, 49, 50, 51, 52, 53, 54, 55, 56, 57, 23, 58, 59, 60, 61, 62, 63, 64, 65, 66, 67, 89, 90, 91, 92, 93, 94, 95, 96, 97, 98, 99, 100, 101, 102, 103, 104, 105, 106, 107, 108, 109, 110, 111, 112] (by decide +kernel) (by decide +kernel)
set_option maxRecDepth 20000 in
theorem gX7_tailWithNod_X4_passByRule : GoodIn wsX7_tailWithNod (wsV RX7 78 RX4 yX4_passByRule wsX4_passByRule) := goodIn_app (goodIn_of _ (by decide +kernel)) ggX7_tailWithNod_X4_passByRule
set_option maxRecDepth 20000 in
theorem ggX7_tailWithNod_X4_tailLength : GoodIn wsX7_tailWithNod wsX4_tailLength := goodIn_r _ [82, 23, 62, 58, 67, 66, 63, 64, 33, 65, 89, 90, 91, 92, 93, 94, 95, 96, 97, 98, 99, 100] (by decide +kernel) (by decide +kernel)
set_option maxRecDepth 20000 in
theorem gX7_tailWithNod_X4_tailLength : GoodIn wsX7_tailWithNod (wsV RX7 61 RX4 yX4_tailLength wsX4_tailLength) := goodIn_app (goodIn_of _ (by decide +kernel)) ggX7_tailWithNod_X4_tailLength
theorem dX7_tailWithNod_0 : decode cX7_tailWithNod 0 = .ok (.aload_n 0, 1) := by decide +kernel
theorem dX7_tailWithNod_1 : decode cX7_tailWithNod 1 = .ok (.invokevirtual 54, 3) := by decide +kernel
theorem dX7_tailWithNod_4 : decode cX7_tailWithNod 4 = .ok (.aload_n 0, 1) := by decide +kernel
theorem dX7_tailWithNod_5 : decode cX7_tailWithNod 5 = .ok (.iconst 0, 1) := by decide +kernel
theorem dX7_tailWithNod_6 : decode cX7_tailWithNod 6 = .ok (.putfield 72, 3) := by decide +kernel
theorem dX7_tailWithNod_9 : decode cX7_tailWithNod 9 = .ok (.iconst 0, 1) := by decide +kernel
theorem dX7_tailWithNod_10 : decode cX7_tailWithNod 10 = .ok (.istore 6, 2) := by decide +kernel
theorem dX7_tailWithNod_12 : decode cX7_tailWithNod 12 = .ok (.iload 6, 2) := by decide +kernel
theorem dX7_tailWithNod_14 : decode cX7_tailWithNod 14 = .ok (.iload_n 3, 1) := by decide +kernel
theorem dX7_tailWithNod_15 : decode cX7_tailWithNod 15 = .ok (.if_icmp .ge 73, 3) := by decide +kernel
theorem dX7_tailWithNod_18 : decode cX7_tailWithNod 18 = .ok (.aload_n 0, 1) := by decide +kernel
theorem dX7_tailWithNod_19 : decode cX7_tailWithNod 19 = .ok (.getfield 22, 3) := by decide +kernel
theorem dX7_tailWithNod_22 : decode cX7_tailWithNod 22 = .ok (.getfield 37, 3) := by decide +kernel
theorem dX7_tailWithNod_25 : decode cX7_tailWithNod 25 = .ok (.ifCond .ne 63, 3) := by decide +kernel
theorem dX7_tailWithNod_28 : decode cX7_tailWithNod 28 = .ok (.iload 6, 2) := by decide +kernel
theorem dX7_tailWithNod_30 : decode cX7_tailWithNod 30 = .ok (.iload 4, 2) := by decide +kernel
theorem dX7_tailWithNod_32 : decode cX7_tailWithNod 32 = .ok (.if_icmp .lt 24, 3) := by decide +kernel
theorem dX7_tailWithNod_35 : decode cX7_tailWithNod 35 = .ok (.iload 6, 2) := by decide +kernel
theorem dX7_tailWithNod_37 : decode cX7_tailWithNod 37 = .ok (.iload 5, 2) := by decide +kernel
theorem dX7_tailWithNod_39 : decode cX7_tailWithNod 39 = .ok (.if_icmp .ge 17, 3) := by decide +kernel
theorem dX7_tailWithNod_42 : decode cX7_tailWithNod 42 = .ok (.aload_n 0, 1) := by decide +kernel
theorem dX7_tailWithNod_43 : decode cX7_tailWithNod 43 = .ok (.getfield 22, 3) := by decide +kernel
theorem dX7_tailWithNod_46 : decode cX7_tailWithNod 46 = .ok (.aload_n 0, 1) := by decide +kernel
theorem dX7_tailWithNod_47 : decode cX7_tailWithNod 47 = .ok (.getfield 9, 3) := by decide +kernel
theorem dX7_tailWithNod_50 : decode cX7_tailWithNod 50 = .ok (.invokevirtual 57, 3) := by decide +kernel
theorem dX7_tailWithNod_53 : decode cX7_tailWithNod 53 = .ok (.goto 29, 3) := by decide +kernel
theorem dX7_tailWithNod_56 : decode cX7_tailWithNod 56 = .ok (.aload_n 0, 1) := by decide +kernel
theorem dX7_tailWithNod_57 : decode cX7_tailWithNod 57 = .ok (.getfield 22, 3) := by decide +kernel
theorem dX7_tailWithNod_60 : decode cX7_tailWithNod 60 = .ok (.aload_n 0, 1) := by decide +kernel
theorem dX7_tailWithNod_61 : decode cX7_tailWithNod 61 = .ok (.getfield 9, 3) := by decide +kernel
theorem dX7_tailWithNod_64 : decode cX7_tailWithNod 64 = .ok (.iload_n 1, 1) := by decide +kernel
theorem dX7_tailWithNod_65 : decode cX7_tailWithNod 65 = .ok (.iload_n 2, 1) := by decide +kernel
theorem dX7_tailWithNod_66 : decode cX7_tailWithNod 66 = .ok (.invokevirtual 78, 3) := by decide +kernel
theorem dX7_tailWithNod_69 : decode cX7_tailWithNod 69 = .ok (.ifCond .eq 13, 3) := by decide +kernel
theorem dX7_tailWithNod_72 : decode cX7_tailWithNod 72 = .ok (.aload_n 0, 1) := by decide +kernel
theorem dX7_tailWithNod_73 : decode cX7_tailWithNod 73 = .ok (.dup, 1) := by decide +kernel
theorem dX7_tailWithNod_74 : decode cX7_tailWithNod 74 = .ok (.getfield 72, 3) := by decide +kernel
theorem dX7_tailWithNod_77 : decode cX7_tailWithNod 77 = .ok (.iconst 1, 1) := by decide +kernel
theorem dX7_tailWithNod_78 : decode cX7_tailWithNod 78 = .ok (.iadd, 1) := by decide +kernel
theorem dX7_tailWithNod_79 : decode cX7_tailWithNod 79 = .ok (.putfield 72, 3) := by decide +kernel
theorem dX7_tailWithNod_82 : decode cX7_tailWithNod 82 = .ok (.iinc 6 1, 3) := by decide +kernel
theorem dX7_tailWithNod_85 : decode cX7_tailWithNod 85 = .ok (.goto (-73), 3) := by decide +kernel
theorem dX7_tailWithNod_88 : decode cX7_tailWithNod 88 = .ok (.aload_n 0, 1) := by decide +kernel
theorem dX7_tailWithNod_89 : decode cX7_tailWithNod 89 = .ok (.getfield 22, 3) := by decide +kernel
theorem dX7_tailWithNod_92 : decode cX7_tailWithNod 92 = .ok (.getfield 37, 3) := by decide +kernel
theorem dX7_tailWithNod_95 : decode cX7_tailWithNod 95 = .ok (.ifCond .eq 9, 3) := by decide +kernel
theorem dX7_tailWithNod_98 : decode cX7_tailWithNod 98 = .ok (.sipush 9999, 3) := by decide +kernel
theorem dX7_tailWithNod_101 : decode cX7_tailWithNod 101 = .ok (.goto 10, 3) := by decide +kernel
theorem dX7_tailWithNod_104 : decode cX7_tailWithNod 104 = .ok (.aload_n 0, 1) := by decide +kernel
theorem dX7_tailWithNod_105 : decode cX7_tailWithNod 105 = .ok (.getfield 22, 3) := by decide +kernel
theorem dX7_tailWithNod_108 : decode cX7_tailWithNod 108 = .ok (.invokevirtual 61, 3) := by decide +kernel
theorem dX7_tailWithNod_111 : decode cX7_tailWithNod 111 = .ok (.ireturn, 1) := by decide +kernel
set_option maxRecDepth 20000 in
theorem ggX7_startFresh_X4_takeFreshPlate : GoodIn wsX7_startFresh wsX4_takeFreshPlate := goodIn_r _ [8, 9, 10, 11, 12, 13, 14, 15, 22, 23, 24, 25, 26, 27, 28, 29, 30, 31, 32, 33] (by decide +kernel) (by decide +kernel)
set_option maxRecDepth 20000 in
theorem gX7_startFresh_X4_takeFreshPlate : GoodIn wsX7_startFresh (wsV RX7 82 RX4 yX4_takeFreshPlate wsX4_takeFreshPlate) := goodIn_app (goodIn_of _ (by decide +kernel)) ggX7_startFresh_X4_takeFreshPlate
theorem dX7_startFresh_0 : decode cX7_startFresh 0 = .ok (.aload_n 0, 1) := by decide +kernel
theorem dX7_startFresh_1 : decode cX7_startFresh 1 = .ok (.getfield 22, 3) := by decide +kernel
theorem dX7_startFresh_4 : decode cX7_startFresh 4 = .ok (.invokevirtual 82, 3) := by decide +kernel
theorem dX7_startFresh_7 : decode cX7_startFresh 7 = .ok (.aload_n 0, 1) := by decide +kernel
theorem dX7_startFresh_8 : decode cX7_startFresh 8 = .ok (.getfield 22, 3) := by decide +kernel
theorem dX7_startFresh_11 : decode cX7_startFresh 11 = .ok (.aload_n 0, 1) := by decide +kernel
theorem dX7_startFresh_12 : decode cX7_startFresh 12 = .ok (.getfield 15, 3) := by decide +kernel
theorem dX7_startFresh_15 : decode cX7_startFresh 15 = .ok (.getfield 41, 3) := by decide +kernel
theorem dX7_startFresh_18 : decode cX7_startFresh 18 = .ok (.putfield 41, 3) := by decide +kernel
theorem dX7_startFresh_21 : decode cX7_startFresh 21 = .ok (.return_, 1) := by decide +kernel
set_option maxRecDepth 20000 in
theorem ggX8_init_X6_init : GoodIn wsX8_init wsX6_init := goodIn_r _ [40, 41, 2, 3, 42, 43, 44, 110, 111, 112, 113, 114, 115, 116, 117] (by decide +kernel) (by decide +kernel)
set_option maxRecDepth 20000 in
theorem gX8_init_X6_init : GoodIn wsX8_init (wsX6_init) := ggX8_init_X6_init
set_option maxRecDepth 20000 in
theorem ggX8_init_X3_init : GoodIn wsX8_init wsX3_init := goodIn_r _ [47, 48, 2, 3, 42, 49, 50, 51, 52, 53, 54, 10, 55, 56, 57, 58, 59, 60, 61, 62, 63, 64, 65, 66, 67, 68, 128, 129, 130, 131, 132, 133, 134, 135, 136, 137, 138, 139] (by decide +kernel) (by decide +kernel)
set_option maxRecDepth 20000 in
theorem gX8_init_X3_init : GoodIn wsX8_init (wsX3_init) := ggX8_init_X3_init
set_option maxRecDepth 20000 in
theorem ggX8_init_X4_init : GoodIn wsX8_init wsX4_init := goodIn_r _ [71, 72, 2, 3] (by decide +kernel) (by decide +kernel)
set_option maxRecDepth 20000 in
theorem gX8_init_X4_init : GoodIn wsX8_init (wsX4_init) := ggX8_init_X4_init
set_option maxRecDepth 20000 in
theorem ggX8_init_X7_init : GoodIn wsX8_init wsX7_init := goodIn_r _ [75, 76, 2, 3, 77, 78, 79, 14, 15, 80, 81, 70, 71, 72, 152, 153, 154, 155, 156, 157, 140, 141, 142, 143, 144, 145, 146, 147, 148, 149, 150, 151] (by decide +kernel) (by decide +kernel)
set_option maxRecDepth 20000 in
theorem gX8_init_X7_init : GoodIn wsX8_init (wsX7_init) := ggX8_init_X7_init
set_option maxRecDepth 20000 in
theorem ggX8_init_X1_init : GoodIn wsX8_init wsX1_init := goodIn_r _ [84, 85, 2, 3, 86, 87, 14, 15, 88, 70, 71, 72, 158, 159, 160, 140, 141, 142, 143, 144, 145, 146, 147, 148, 149, 150, 151] (by decide +kernel) (by decide +kernel)
set_option maxRecDepth 20000 in
theorem gX8_init_X1_init : GoodIn wsX8_init (wsX1_init) := ggX8_init_X1_init
set_option maxRecDepth 20000 in
theorem ggX8_init_X5_init : GoodIn wsX8_init wsX5_init := goodIn_r _ [91, 92, 2, 3, 42, 93, 94, 95, 96, 97, 98, 161, 162, 163, 164, 165, 166, 167, 168, 169] (by decide +kernel) (by decide +kernel)
set_option maxRecDepth 20000 in
theorem gX8_init_X5_init : GoodIn wsX8_init (wsX5_init) := ggX8_init_X5_init
set_option maxRecDepth 20000 in
theorem ggX8_init_X0_init : GoodIn wsX8_init wsX0_init := goodIn_r _ [101, 102, 2, 3] (by decide +kernel) (by decide +kernel)
set_option maxRecDepth 20000 in
theorem gX8_init_X0_init : GoodIn wsX8_init (wsX0_init) := ggX8_init_X0_init
set_option maxRecDepth 20000 in
theorem ggX8_init_X2_init : GoodIn wsX8_init wsX2_init := goodIn_r _ [105, 106, 2, 3, 107, 14, 15, 108, 109, 70, 71, 72, 140, 141, 142, 143, 144, 145, 146, 147, 148, 149, 150, 151, 171, 172, 173] (by decide +kernel) (by decide +kernel)
set_option maxRecDepth 20000 in
theorem gX8_init_X2_init : GoodIn wsX8_init (wsX2_init) := ggX8_init_X2_init
