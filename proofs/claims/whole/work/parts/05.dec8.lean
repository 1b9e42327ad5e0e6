theorem dX8_init_0 : decode cX8_init 0 = .ok (.aload_n 0, 1) := by decide +kernel
theorem dX8_init_1 : decode cX8_init 1 = .ok (.invokespecial 1, 3) := by decide +kernel
theorem dX8_init_4 : decode cX8_init 4 = .ok (.aload_n 0, 1) := by decide +kernel
theorem dX8_init_5 : decode cX8_init 5 = .ok (.new 7, 3) := by decide +kernel
theorem dX8_init_8 : decode cX8_init 8 = .ok (.dup, 1) := by decide +kernel
theorem dX8_init_9 : decode cX8_init 9 = .ok (.invokespecial 9, 3) := by decide +kernel
theorem dX8_init_12 : decode cX8_init 12 = .ok (.putfield 10, 3) := by decide +kernel
theorem dX8_init_15 : decode cX8_init 15 = .ok (.aload_n 0, 1) := by decide +kernel
theorem dX8_init_16 : decode cX8_init 16 = .ok (.new 16, 3) := by decide +kernel
theorem dX8_init_19 : decode cX8_init 19 = .ok (.dup, 1) := by decide +kernel
theorem dX8_init_20 : decode cX8_init 20 = .ok (.invokespecial 18, 3) := by decide +kernel
theorem dX8_init_23 : decode cX8_init 23 = .ok (.putfield 19, 3) := by decide +kernel
theorem dX8_init_26 : decode cX8_init 26 = .ok (.aload_n 0, 1) := by decide +kernel
theorem dX8_init_27 : decode cX8_init 27 = .ok (.new 16, 3) := by decide +kernel
theorem dX8_init_30 : decode cX8_init 30 = .ok (.dup, 1) := by decide +kernel
theorem dX8_init_31 : decode cX8_init 31 = .ok (.invokespecial 18, 3) := by decide +kernel
theorem dX8_init_34 : decode cX8_init 34 = .ok (.putfield 23, 3) := by decide +kernel
theorem dX8_init_37 : decode cX8_init 37 = .ok (.aload_n 0, 1) := by decide +kernel
theorem dX8_init_38 : decode cX8_init 38 = .ok (.new 26, 3) := by decide +kernel
theorem dX8_init_41 : decode cX8_init 41 = .ok (.dup, 1) := by decide +kernel
theorem dX8_init_42 : decode cX8_init 42 = .ok (.invokespecial 28, 3) := by decide +kernel
theorem dX8_init_45 : decode cX8_init 45 = .ok (.putfield 29, 3) := by decide +kernel
theorem dX8_init_48 : decode cX8_init 48 = .ok (.aload_n 0, 1) := by decide +kernel
theorem dX8_init_49 : decode cX8_init 49 = .ok (.new 33, 3) := by decide +kernel
theorem dX8_init_52 : decode cX8_init 52 = .ok (.dup, 1) := by decide +kernel
theorem dX8_init_53 : decode cX8_init 53 = .ok (.aload_n 0, 1) := by decide +kernel
theorem dX8_init_54 : decode cX8_init 54 = .ok (.getfield 19, 3) := by decide +kernel
theorem dX8_init_57 : decode cX8_init 57 = .ok (.aload_n 0, 1) := by decide +kernel
theorem dX8_init_58 : decode cX8_init 58 = .ok (.getfield 29, 3) := by decide +kernel
theorem dX8_init_61 : decode cX8_init 61 = .ok (.invokespecial 35, 3) := by decide +kernel
theorem dX8_init_64 : decode cX8_init 64 = .ok (.putfield 38, 3) := by decide +kernel
theorem dX8_init_67 : decode cX8_init 67 = .ok (.aload_n 0, 1) := by decide +kernel
theorem dX8_init_68 : decode cX8_init 68 = .ok (.new 42, 3) := by decide +kernel
theorem dX8_init_71 : decode cX8_init 71 = .ok (.dup, 1) := by decide +kernel
theorem dX8_init_72 : decode cX8_init 72 = .ok (.invokespecial 44, 3) := by decide +kernel
theorem dX8_init_75 : decode cX8_init 75 = .ok (.putfield 45, 3) := by decide +kernel
theorem dX8_init_78 : decode cX8_init 78 = .ok (.aload_n 0, 1) := by decide +kernel
theorem dX8_init_79 : decode cX8_init 79 = .ok (.new 49, 3) := by decide +kernel
theorem dX8_init_82 : decode cX8_init 82 = .ok (.dup, 1) := by decide +kernel
theorem dX8_init_83 : decode cX8_init 83 = .ok (.invokespecial 51, 3) := by decide +kernel
theorem dX8_init_86 : decode cX8_init 86 = .ok (.putfield 52, 3) := by decide +kernel
theorem dX8_init_89 : decode cX8_init 89 = .ok (.aload_n 0, 1) := by decide +kernel
theorem dX8_init_90 : decode cX8_init 90 = .ok (.new 56, 3) := by decide +kernel
theorem dX8_init_93 : decode cX8_init 93 = .ok (.dup, 1) := by decide +kernel
theorem dX8_init_94 : decode cX8_init 94 = .ok (.invokespecial 58, 3) := by decide +kernel
theorem dX8_init_97 : decode cX8_init 97 = .ok (.putfield 59, 3) := by decide +kernel
theorem dX8_init_100 : decode cX8_init 100 = .ok (.aload_n 0, 1) := by decide +kernel
theorem dX8_init_101 : decode cX8_init 101 = .ok (.new 63, 3) := by decide +kernel
theorem dX8_init_104 : decode cX8_init 104 = .ok (.dup, 1) := by decide +kernel
theorem dX8_init_105 : decode cX8_init 105 = .ok (.invokespecial 65, 3) := by decide +kernel
theorem dX8_init_108 : decode cX8_init 108 = .ok (.putfield 66, 3) := by decide +kernel
theorem dX8_init_111 : decode cX8_init 111 = .ok (.aload_n 0, 1) := by decide +kernel
theorem dX8_init_112 : decode cX8_init 112 = .ok (.new 63, 3) := by decide +kernel
theorem dX8_init_115 : decode cX8_init 115 = .ok (.dup, 1) := by decide +kernel
theorem dX8_init_116 : decode cX8_init 116 = .ok (.invokespecial 65, 3) := by decide +kernel
theorem dX8_init_119 : decode cX8_init 119 = .ok (.putfield 70, 3) := by decide +kernel
theorem dX8_init_122 : decode cX8_init 122 = .ok (.return_, 1) := by decide +kernel
set_option maxRecDepth 20000 in
theorem ggX8_feed_X8_isWithin : GoodIn wsX8_feed wsX8_isWithin := goodIn_r _ [8] (by decide +kernel) (by decide +kernel)
set_option maxRecDepth 20000 in
theorem gX8_feed_X8_isWithin : GoodIn wsX8_feed (va_wsS RX8 73 yX8_isWithin wsX8_isWithin) := goodIn_app (goodIn_of _ (by decide +kernel)) ggX8_feed_X8_isWithin
set_option maxRecDepth 20000 in
theorem ggX8_feed_X6_addLetter : GoodIn wsX8_feed wsX6_addLetter := goodIn_r _ [13, 14, 15, 26, 27, 28, 29, 30, 31, 32, 33] (by decide +kernel) (by decide +kernel)
set_option maxRecDepth 20000 in
theorem gX8_feed_X6_addLetter : GoodIn wsX8_feed (wsV RX8 78 RX6 yX6_addLetter wsX6_addLetter) := goodIn_app (goodIn_of _ (by decide +kernel)) ggX8_feed_X6_addLetter
theorem dX8_feed_0 : decode cX8_feed 0 = .ok (.iload_n 1, 1) := by decide +kernel
theorem dX8_feed_1 : decode cX8_feed 1 = .ok (.iconst 0, 1) := by decide +kernel
theorem dX8_feed_2 : decode cX8_feed 2 = .ok (.sipush 255, 3) := by decide +kernel
theorem dX8_feed_5 : decode cX8_feed 5 = .ok (.invokestatic 73, 3) := by decide +kernel
theorem dX8_feed_8 : decode cX8_feed 8 = .ok (.ifCond .ne 6, 3) := by decide +kernel
theorem dX8_feed_11 : decode cX8_feed 11 = .ok (.ldc 77, 2) := by decide +kernel
theorem dX8_feed_13 : decode cX8_feed 13 = .ok (.ireturn, 1) := by decide +kernel
theorem dX8_feed_14 : decode cX8_feed 14 = .ok (.aload_n 0, 1) := by decide +kernel
theorem dX8_feed_15 : decode cX8_feed 15 = .ok (.getfield 10, 3) := by decide +kernel
theorem dX8_feed_18 : decode cX8_feed 18 = .ok (.iload_n 1, 1) := by decide +kernel
theorem dX8_feed_19 : decode cX8_feed 19 = .ok (.invokevirtual 78, 3) := by decide +kernel
theorem dX8_feed_22 : decode cX8_feed 22 = .ok (.ifCond .eq 13, 3) := by decide +kernel
theorem dX8_feed_25 : decode cX8_feed 25 = .ok (.aload_n 0, 1) := by decide +kernel
theorem dX8_feed_26 : decode cX8_feed 26 = .ok (.getfield 10, 3) := by decide +kernel
theorem dX8_feed_29 : decode cX8_feed 29 = .ok (.getfield 82, 3) := by decide +kernel
theorem dX8_feed_32 : decode cX8_feed 32 = .ok (.goto 5, 3) := by decide +kernel
theorem dX8_feed_35 : decode cX8_feed 35 = .ok (.ldc 86, 2) := by decide +kernel
theorem dX8_feed_37 : decode cX8_feed 37 = .ok (.ireturn, 1) := by decide +kernel
set_option maxRecDepth 20000 in
theorem ggX8_mount_X6_readInto : GoodIn wsX8_mount wsX6_readInto := goodIn_r _ [17, 18, 19, 20, 21, 22, 23, 24, 25, 26, 27, 28, 29, 30, 31, 32, 33, 34, 35, 36, 37, 38, 39, 40, 41, 42, 43, 44, 45, 46, 16, 47, 48, 49, 50, 51, 52, 53, 54, 55, 56, 57, 58, 59, 60, 61, 62, 63, 64, 65, 66, 67, 68, 69, 70, 71, 72, 73, 74, 75, 76, 77, 78, 79, 80, 81, 82, 83, 84, 85, 86, 87, 88, 89, 90, 91, 92, 93, 94, 95, 96, 97, 98, 99, 100, 101, 102, 103, 104, 105, 106, 107, 108, 109, 110, 111, 112, 113, 114, 115, 116, 117, 170, 171, 172, 173, 174, 175, 176, 177, 193, 194, 195, 196, 197, 198, 199, 200, 201, 202, 203, 204] (by decide +kernel) (by decide +kernel)
set_option maxRecDepth 20000 in
theorem gX8_mount_X6_readInto : GoodIn wsX8_mount (wsV RX8 87 RX6 yX6_readInto wsX6_readInto) := goodIn_app (goodIn_of _ (by decide +kernel)) ggX8_mount_X6_readInto
set_option maxRecDepth 20000 in
theorem ggX8_mount_X3_copyFrom : GoodIn wsX8_mount wsX3_copyFrom := goodIn_r _ [121, 30, 31, 32, 33, 43, 34, 35, 36, 37, 42, 111, 112, 122, 123, 124, 28, 125, 126, 127, 128, 129, 130, 131, 132, 133, 193, 194, 195, 196, 197, 198, 199, 200, 201, 202, 203, 204] (by decide +kernel) (by decide +kernel)
set_option maxRecDepth 20000 in
theorem gX8_mount_X3_copyFrom : GoodIn wsX8_mount (wsV RX8 94 RX3 yX3_copyFrom wsX3_copyFrom) := goodIn_app (goodIn_of _ (by decide +kernel)) ggX8_mount_X3_copyFrom
set_option maxRecDepth 20000 in
theorem ggX8_mount_X4_takeFreshPlate : GoodIn wsX8_mount wsX4_takeFreshPlate := goodIn_r _ [138, 139, 140, 141, 142, 143, 144, 145, 178, 179, 180, 181, 182, 183, 184, 185, 186, 187, 188, 189] (by decide +kernel) (by decide +kernel)
set_option maxRecDepth 20000 in
theorem gX8_mount_X4_takeFreshPlate : GoodIn wsX8_mount (wsV RX8 100 RX4 yX4_takeFreshPlate wsX4_takeFreshPlate) := goodIn_app (goodIn_of _ (by decide +kernel)) ggX8_mount_X4_takeFreshPlate
set_option maxRecDepth 20000 in
theorem ggX8_mount_X5_clear : GoodIn wsX8_mount wsX5_clear := goodIn_r _ [150, 151, 152, 153, 205, 206, 207, 208, 209, 210, 211, 212, 213] (by decide +kernel) (by decide +kernel)
set_option maxRecDepth 20000 in
theorem gX8_mount_X5_clear : GoodIn wsX8_mount (wsV RX8 103 RX5 yX5_clear wsX5_clear) := goodIn_app (goodIn_of _ (by decide +kernel)) ggX8_mount_X5_clear
set_option maxRecDepth 20000 in
theorem ggX8_mount_X1_clear : GoodIn wsX8_mount wsX1_clear := goodIn_r _ [158, 159, 214, 215, 216] (by decide +kernel) (by decide +kernel)
set_option maxRecDepth 20000 in
theorem gX8_mount_X1_clear : GoodIn wsX8_mount (wsV RX8 106 RX1 yX1_clear wsX1_clear) := goodIn_app (goodIn_of _ (by decide +kernel)) ggX8_mount_X1_clear
theorem dX8_mount_0 : decode cX8_mount 0 = .ok (.aload_n 0, 1) := by decide +kernel
theorem dX8_mount_1 : decode cX8_mount 1 = .ok (.getfield 10, 3) := by decide +kernel
theorem dX8_mount_4 : decode cX8_mount 4 = .ok (.aload_n 0, 1) := by decide +kernel
theorem dX8_mount_5 : decode cX8_mount 5 = .ok (.getfield 23, 3) := by decide +kernel
theorem dX8_mount_8 : decode cX8_mount 8 = .ok (.invokevirtual 87, 3) := by decide +kernel
theorem dX8_mount_11 : decode cX8_mount 11 = .ok (.aload_n 0, 1) := by decide +kernel
theorem dX8_mount_12 : decode cX8_mount 12 = .ok (.getfield 10, 3) := by decide +kernel
theorem dX8_mount_15 : decode cX8_mount 15 = .ok (.getfield 91, 3) := by decide +kernel
theorem dX8_mount_18 : decode cX8_mount 18 = .ok (.ifCond .eq 14, 3) := by decide +kernel
theorem dX8_mount_21 : decode cX8_mount 21 = .ok (.bipush (-10), 2) := by decide +kernel
theorem dX8_mount_23 : decode cX8_mount 23 = .ok (.aload_n 0, 1) := by decide +kernel
theorem dX8_mount_24 : decode cX8_mount 24 = .ok (.getfield 10, 3) := by decide +kernel
theorem dX8_mount_27 : decode cX8_mount 27 = .ok (.getfield 91, 3) := by decide +kernel
theorem dX8_mount_30 : decode cX8_mount 30 = .ok (.isub, 1) := by decide +kernel
theorem dX8_mount_31 : decode cX8_mount 31 = .ok (.ireturn, 1) := by decide +kernel
theorem dX8_mount_32 : decode cX8_mount 32 = .ok (.aload_n 0, 1) := by decide +kernel
theorem dX8_mount_33 : decode cX8_mount 33 = .ok (.getfield 19, 3) := by decide +kernel
theorem dX8_mount_36 : decode cX8_mount 36 = .ok (.aload_n 0, 1) := by decide +kernel
theorem dX8_mount_37 : decode cX8_mount 37 = .ok (.getfield 23, 3) := by decide +kernel
theorem dX8_mount_40 : decode cX8_mount 40 = .ok (.invokevirtual 94, 3) := by decide +kernel
theorem dX8_mount_43 : decode cX8_mount 43 = .ok (.aload_n 0, 1) := by decide +kernel
theorem dX8_mount_44 : decode cX8_mount 44 = .ok (.getfield 29, 3) := by decide +kernel
theorem dX8_mount_47 : decode cX8_mount 47 = .ok (.iconst 0, 1) := by decide +kernel
theorem dX8_mount_48 : decode cX8_mount 48 = .ok (.putfield 97, 3) := by decide +kernel
theorem dX8_mount_51 : decode cX8_mount 51 = .ok (.aload_n 0, 1) := by decide +kernel
theorem dX8_mount_52 : decode cX8_mount 52 = .ok (.getfield 29, 3) := by decide +kernel
theorem dX8_mount_55 : decode cX8_mount 55 = .ok (.invokevirtual 100, 3) := by decide +kernel
theorem dX8_mount_58 : decode cX8_mount 58 = .ok (.aload_n 0, 1) := by decide +kernel
theorem dX8_mount_59 : decode cX8_mount 59 = .ok (.getfield 52, 3) := by decide +kernel
theorem dX8_mount_62 : decode cX8_mount 62 = .ok (.invokevirtual 103, 3) := by decide +kernel
theorem dX8_mount_65 : decode cX8_mount 65 = .ok (.aload_n 0, 1) := by decide +kernel
theorem dX8_mount_66 : decode cX8_mount 66 = .ok (.getfield 45, 3) := by decide +kernel
theorem dX8_mount_69 : decode cX8_mount 69 = .ok (.invokevirtual 106, 3) := by decide +kernel
theorem dX8_mount_72 : decode cX8_mount 72 = .ok (.aload_n 0, 1) := by decide +kernel
theorem dX8_mount_73 : decode cX8_mount 73 = .ok (.getfield 66, 3) := by decide +kernel
theorem dX8_mount_76 : decode cX8_mount 76 = .ok (.iconst 0, 1) := by decide +kernel
theorem dX8_mount_77 : decode cX8_mount 77 = .ok (.putfield 107, 3) := by decide +kernel
theorem dX8_mount_80 : decode cX8_mount 80 = .ok (.aload_n 0, 1) := by decide +kernel
theorem dX8_mount_81 : decode cX8_mount 81 = .ok (.getfield 70, 3) := by decide +kernel
theorem dX8_mount_84 : decode cX8_mount 84 = .ok (.iconst 0, 1) := by decide +kernel
theorem dX8_mount_85 : decode cX8_mount 85 = .ok (.putfield 107, 3) := by decide +kernel
theorem dX8_mount_88 : decode cX8_mount 88 = .ok (.aload_n 0, 1) := by decide +kernel
theorem dX8_mount_89 : decode cX8_mount 89 = .ok (.getfield 19, 3) := by decide +kernel
theorem dX8_mount_92 : decode cX8_mount 92 = .ok (.getfield 111, 3) := by decide +kernel
theorem dX8_mount_95 : decode cX8_mount 95 = .ok (.ireturn, 1) := by decide +kernel
theorem dX8_fault_0 : decode cX8_fault 0 = .ok (.aload_n 0, 1) := by decide +kernel
theorem dX8_fault_1 : decode cX8_fault 1 = .ok (.getfield 10, 3) := by decide +kernel
theorem dX8_fault_4 : decode cX8_fault 4 = .ok (.getfield 114, 3) := by decide +kernel
theorem dX8_fault_7 : decode cX8_fault 7 = .ok (.ireturn, 1) := by decide +kernel
set_option maxRecDepth 20000 in
theorem ggX8_told_X4_tailLength : GoodIn wsX8_told wsX4_tailLength := goodIn_r _ [31, 32, 33, 34, 35, 36, 37, 38, 39, 40, 71, 72, 73, 74, 75, 76, 77, 78, 79, 80, 81, 82] (by decide +kernel) (by decide +kernel)
set_option maxRecDepth 20000 in
theorem gX8_told_X4_tailLength : GoodIn wsX8_told (wsV RX8 156 RX4 yX4_tailLength wsX4_tailLength) := goodIn_app (goodIn_of _ (by decide +kernel)) ggX8_told_X4_tailLength
theorem dX8_told_0 : decode cX8_told 0 = .ok (.iload_n 1, 1) := by decide +kernel
theorem dX8_told_1 : decode cX8_told 1 = .ok (.tableswitch 308 0 20 #[99, 115, 126, 137, 145, 153, 161, 172, 180, 188, 196, 204, 216, 228, 244, 260, 268, 276, 284, 292, 300], 99) := by decide +kernel
theorem dX8_told_100 : decode cX8_told 100 = .ok (.aload_n 0, 1) := by decide +kernel
theorem dX8_told_101 : decode cX8_told 101 = .ok (.getfield 19, 3) := by decide +kernel
theorem dX8_told_104 : decode cX8_told 104 = .ok (.getfield 117, 3) := by decide +kernel
theorem dX8_told_107 : decode cX8_told 107 = .ok (.ifCond .eq 7, 3) := by decide +kernel
theorem dX8_told_110 : decode cX8_told 110 = .ok (.iconst 1, 1) := by decide +kernel
theorem dX8_told_111 : decode cX8_told 111 = .ok (.goto 4, 3) := by decide +kernel
theorem dX8_told_114 : decode cX8_told 114 = .ok (.iconst 0, 1) := by decide +kernel
theorem dX8_told_115 : decode cX8_told 115 = .ok (.ireturn, 1) := by decide +kernel
theorem dX8_told_116 : decode cX8_told 116 = .ok (.aload_n 0, 1) := by decide +kernel
theorem dX8_told_117 : decode cX8_told 117 = .ok (.getfield 19, 3) := by decide +kernel
theorem dX8_told_120 : decode cX8_told 120 = .ok (.getfield 120, 3) := by decide +kernel
theorem dX8_told_123 : decode cX8_told 123 = .ok (.bipush 9, 2) := by decide +kernel
theorem dX8_told_125 : decode cX8_told 125 = .ok (.iadd, 1) := by decide +kernel
theorem dX8_told_126 : decode cX8_told 126 = .ok (.ireturn, 1) := by decide +kernel
theorem dX8_told_127 : decode cX8_told 127 = .ok (.aload_n 0, 1) := by decide +kernel
theorem dX8_told_128 : decode cX8_told 128 = .ok (.getfield 19, 3) := by decide +kernel
theorem dX8_told_131 : decode cX8_told 131 = .ok (.getfield 123, 3) := by decide +kernel
theorem dX8_told_134 : decode cX8_told 134 = .ok (.bipush 9, 2) := by decide +kernel
theorem dX8_told_136 : decode cX8_told 136 = .ok (.iadd, 1) := by decide +kernel
theorem dX8_told_137 : decode cX8_told 137 = .ok (.ireturn, 1) := by decide +kernel
theorem dX8_told_138 : decode cX8_told 138 = .ok (.aload_n 0, 1) := by decide +kernel
theorem dX8_told_139 : decode cX8_told 139 = .ok (.getfield 19, 3) := by decide +kernel
theorem dX8_told_142 : decode cX8_told 142 = .ok (.getfield 126, 3) := by decide +kernel
theorem dX8_told_145 : decode cX8_told 145 = .ok (.ireturn, 1) := by decide +kernel
theorem dX8_told_146 : decode cX8_told 146 = .ok (.aload_n 0, 1) := by decide +kernel
theorem dX8_told_147 : decode cX8_told 147 = .ok (.getfield 19, 3) := by decide +kernel
theorem dX8_told_150 : decode cX8_told 150 = .ok (.getfield 129, 3) := by decide +kernel
theorem dX8_told_153 : decode cX8_told 153 = .ok (.ireturn, 1) := by decide +kernel
theorem dX8_told_154 : decode cX8_told 154 = .ok (.aload_n 0, 1) := by decide +kernel
theorem dX8_told_155 : decode cX8_told 155 = .ok (.getfield 19, 3) := by decide +kernel
theorem dX8_told_158 : decode cX8_told 158 = .ok (.getfield 132, 3) := by decide +kernel
theorem dX8_told_161 : decode cX8_told 161 = .ok (.ireturn, 1) := by decide +kernel
theorem dX8_told_162 : decode cX8_told 162 = .ok (.aload_n 0, 1) := by decide +kernel
theorem dX8_told_163 : decode cX8_told 163 = .ok (.getfield 19, 3) := by decide +kernel
theorem dX8_told_166 : decode cX8_told 166 = .ok (.getfield 135, 3) := by decide +kernel
theorem dX8_told_169 : decode cX8_told 169 = .ok (.bipush 99, 2) := by decide +kernel
theorem dX8_told_171 : decode cX8_told 171 = .ok (.iadd, 1) := by decide +kernel
theorem dX8_told_172 : decode cX8_told 172 = .ok (.ireturn, 1) := by decide +kernel
theorem dX8_told_173 : decode cX8_told 173 = .ok (.aload_n 0, 1) := by decide +kernel
theorem dX8_told_174 : decode cX8_told 174 = .ok (.getfield 19, 3) := by decide +kernel
theorem dX8_told_177 : decode cX8_told 177 = .ok (.getfield 138, 3) := by decide +kernel
theorem dX8_told_180 : decode cX8_told 180 = .ok (.ireturn, 1) := by decide +kernel
theorem dX8_told_181 : decode cX8_told 181 = .ok (.aload_n 0, 1) := by decide +kernel
theorem dX8_told_182 : decode cX8_told 182 = .ok (.getfield 19, 3) := by decide +kernel
theorem dX8_told_185 : decode cX8_told 185 = .ok (.getfield 111, 3) := by decide +kernel
theorem dX8_told_188 : decode cX8_told 188 = .ok (.ireturn, 1) := by decide +kernel
theorem dX8_told_189 : decode cX8_told 189 = .ok (.aload_n 0, 1) := by decide +kernel
theorem dX8_told_190 : decode cX8_told 190 = .ok (.getfield 10, 3) := by decide +kernel
theorem dX8_told_193 : decode cX8_told 193 = .ok (.getfield 82, 3) := by decide +kernel
theorem dX8_told_196 : decode cX8_told 196 = .ok (.ireturn, 1) := by decide +kernel
theorem dX8_told_197 : decode cX8_told 197 = .ok (.aload_n 0, 1) := by decide +kernel
theorem dX8_told_198 : decode cX8_told 198 = .ok (.getfield 29, 3) := by decide +kernel
theorem dX8_told_201 : decode cX8_told 201 = .ok (.getfield 97, 3) := by decide +kernel
theorem dX8_told_204 : decode cX8_told 204 = .ok (.ireturn, 1) := by decide +kernel
theorem dX8_told_205 : decode cX8_told 205 = .ok (.aload_n 0, 1) := by decide +kernel
theorem dX8_told_206 : decode cX8_told 206 = .ok (.getfield 29, 3) := by decide +kernel
theorem dX8_told_209 : decode cX8_told 209 = .ok (.getfield 141, 3) := by decide +kernel
theorem dX8_told_212 : decode cX8_told 212 = .ok (.sipush 10000, 3) := by decide +kernel
theorem dX8_told_215 : decode cX8_told 215 = .ok (.iadd, 1) := by decide +kernel
theorem dX8_told_216 : decode cX8_told 216 = .ok (.ireturn, 1) := by decide +kernel
theorem dX8_told_217 : decode cX8_told 217 = .ok (.aload_n 0, 1) := by decide +kernel
theorem dX8_told_218 : decode cX8_told 218 = .ok (.getfield 29, 3) := by decide +kernel
theorem dX8_told_221 : decode cX8_told 221 = .ok (.getfield 144, 3) := by decide +kernel
theorem dX8_told_224 : decode cX8_told 224 = .ok (.sipush 10000, 3) := by decide +kernel
theorem dX8_told_227 : decode cX8_told 227 = .ok (.iadd, 1) := by decide +kernel
theorem dX8_told_228 : decode cX8_told 228 = .ok (.ireturn, 1) := by decide +kernel
theorem dX8_told_229 : decode cX8_told 229 = .ok (.aload_n 0, 1) := by decide +kernel
theorem dX8_told_230 : decode cX8_told 230 = .ok (.getfield 29, 3) := by decide +kernel
theorem dX8_told_233 : decode cX8_told 233 = .ok (.getfield 147, 3) := by decide +kernel
theorem dX8_told_236 : decode cX8_told 236 = .ok (.ifCond .eq 7, 3) := by decide +kernel
theorem dX8_told_239 : decode cX8_told 239 = .ok (.iconst 1, 1) := by decide +kernel
theorem dX8_told_240 : decode cX8_told 240 = .ok (.goto 4, 3) := by decide +kernel
theorem dX8_told_243 : decode cX8_told 243 = .ok (.iconst 0, 1) := by decide +kernel
theorem dX8_told_244 : decode cX8_told 244 = .ok (.ireturn, 1) := by decide +kernel
theorem dX8_told_245 : decode cX8_told 245 = .ok (.aload_n 0, 1) := by decide +kernel
theorem dX8_told_246 : decode cX8_told 246 = .ok (.getfield 29, 3) := by decide +kernel
theorem dX8_told_249 : decode cX8_told 249 = .ok (.getfield 150, 3) := by decide +kernel
theorem dX8_told_252 : decode cX8_told 252 = .ok (.ifCond .eq 7, 3) := by decide +kernel
theorem dX8_told_255 : decode cX8_told 255 = .ok (.iconst 1, 1) := by decide +kernel
theorem dX8_told_256 : decode cX8_told 256 = .ok (.goto 4, 3) := by decide +kernel
theorem dX8_told_259 : decode cX8_told 259 = .ok (.iconst 0, 1) := by decide +kernel
theorem dX8_told_260 : decode cX8_told 260 = .ok (.ireturn, 1) := by decide +kernel
theorem dX8_told_261 : decode cX8_told 261 = .ok (.aload_n 0, 1) := by decide +kernel
theorem dX8_told_262 : decode cX8_told 262 = .ok (.getfield 29, 3) := by decide +kernel
theorem dX8_told_265 : decode cX8_told 265 = .ok (.getfield 153, 3) := by decide +kernel
theorem dX8_told_268 : decode cX8_told 268 = .ok (.ireturn, 1) := by decide +kernel
theorem dX8_told_269 : decode cX8_told 269 = .ok (.aload_n 0, 1) := by decide +kernel
theorem dX8_told_270 : decode cX8_told 270 = .ok (.getfield 29, 3) := by decide +kernel
theorem dX8_told_273 : decode cX8_told 273 = .ok (.invokevirtual 156, 3) := by decide +kernel
theorem dX8_told_276 : decode cX8_told 276 = .ok (.ireturn, 1) := by decide +kernel
theorem dX8_told_277 : decode cX8_told 277 = .ok (.aload_n 0, 1) := by decide +kernel
theorem dX8_told_278 : decode cX8_told 278 = .ok (.getfield 52, 3) := by decide +kernel
theorem dX8_told_281 : decode cX8_told 281 = .ok (.getfield 160, 3) := by decide +kernel
theorem dX8_told_284 : decode cX8_told 284 = .ok (.ireturn, 1) := by decide +kernel
theorem dX8_told_285 : decode cX8_told 285 = .ok (.aload_n 0, 1) := by decide +kernel
theorem dX8_told_286 : decode cX8_told 286 = .ok (.getfield 52, 3) := by decide +kernel
theorem dX8_told_289 : decode cX8_told 289 = .ok (.getfield 163, 3) := by decide +kernel
theorem dX8_told_292 : decode cX8_told 292 = .ok (.ireturn, 1) := by decide +kernel
theorem dX8_told_293 : decode cX8_told 293 = .ok (.aload_n 0, 1) := by decide +kernel
theorem dX8_told_294 : decode cX8_told 294 = .ok (.getfield 52, 3) := by decide +kernel
theorem dX8_told_297 : decode cX8_told 297 = .ok (.getfield 166, 3) := by decide +kernel
theorem dX8_told_300 : decode cX8_told 300 = .ok (.ireturn, 1) := by decide +kernel
theorem dX8_told_301 : decode cX8_told 301 = .ok (.aload_n 0, 1) := by decide +kernel
theorem dX8_told_302 : decode cX8_told 302 = .ok (.getfield 45, 3) := by decide +kernel
theorem dX8_told_305 : decode cX8_told 305 = .ok (.getfield 169, 3) := by decide +kernel
theorem dX8_told_308 : decode cX8_told 308 = .ok (.ireturn, 1) := by decide +kernel
theorem dX8_told_309 : decode cX8_told 309 = .ok (.ldc 77, 2) := by decide +kernel
theorem dX8_told_311 : decode cX8_told 311 = .ok (.ireturn, 1) := by decide +kernel
set_option maxRecDepth 20000 in
theorem ggX8_worm_X8_isWithin : GoodIn wsX8_worm wsX8_isWithin := goodIn_r _ [7] (by decide +kernel) (by decide +kernel)
set_option maxRecDepth 20000 in
theorem gX8_worm_X8_isWithin : GoodIn wsX8_worm (va_wsS RX8 73 yX8_isWithin wsX8_isWithin) := goodIn_app (goodIn_of _ (by decide +kernel)) ggX8_worm_X8_isWithin
set_option maxRecDepth 20000 in
theorem ggX8_worm_X3_wormAt : GoodIn wsX8_worm wsX3_wormAt := goodIn_r _ [12, 13, 24, 25, 26, 27, 28, 29, 30, 31, 32, 33, 34, 35] (by decide +kernel) (by decide +kernel)
set_option maxRecDepth 20000 in
theorem gX8_worm_X3_wormAt : GoodIn wsX8_worm (wsV RX8 172 RX3 yX3_wormAt wsX3_wormAt) := goodIn_app (goodIn_of _ (by decide +kernel)) ggX8_worm_X3_wormAt
theorem dX8_worm_0 : decode cX8_worm 0 = .ok (.iload_n 1, 1) := by decide +kernel
theorem dX8_worm_1 : decode cX8_worm 1 = .ok (.iconst 0, 1) := by decide +kernel
theorem dX8_worm_2 : decode cX8_worm 2 = .ok (.aload_n 0, 1) := by decide +kernel
theorem dX8_worm_3 : decode cX8_worm 3 = .ok (.getfield 19, 3) := by decide +kernel
theorem dX8_worm_6 : decode cX8_worm 6 = .ok (.getfield 129, 3) := by decide +kernel
theorem dX8_worm_9 : decode cX8_worm 9 = .ok (.iconst 1, 1) := by decide +kernel
theorem dX8_worm_10 : decode cX8_worm 10 = .ok (.isub, 1) := by decide +kernel
theorem dX8_worm_11 : decode cX8_worm 11 = .ok (.invokestatic 73, 3) := by decide +kernel
theorem dX8_worm_14 : decode cX8_worm 14 = .ok (.ifCond .ne 6, 3) := by decide +kernel
theorem dX8_worm_17 : decode cX8_worm 17 = .ok (.ldc 77, 2) := by decide +kernel
theorem dX8_worm_19 : decode cX8_worm 19 = .ok (.ireturn, 1) := by decide +kernel
theorem dX8_worm_20 : decode cX8_worm 20 = .ok (.aload_n 0, 1) := by decide +kernel
theorem dX8_worm_21 : decode cX8_worm 21 = .ok (.getfield 19, 3) := by decide +kernel
theorem dX8_worm_24 : decode cX8_worm 24 = .ok (.iload_n 1, 1) := by decide +kernel
theorem dX8_worm_25 : decode cX8_worm 25 = .ok (.invokevirtual 172, 3) := by decide +kernel
theorem dX8_worm_28 : decode cX8_worm 28 = .ok (.bipush 9, 2) := by decide +kernel
theorem dX8_worm_30 : decode cX8_worm 30 = .ok (.iadd, 1) := by decide +kernel
theorem dX8_worm_31 : decode cX8_worm 31 = .ok (.ireturn, 1) := by decide +kernel
set_option maxRecDepth 20000 in
theorem ggX8_star_X8_isWithin : GoodIn wsX8_star wsX8_isWithin := goodIn_r _ [8] (by decide +kernel) (by decide +kernel)
set_option maxRecDepth 20000 in
theorem gX8_star_X8_isWithin : GoodIn wsX8_star (va_wsS RX8 73 yX8_isWithin wsX8_isWithin) := goodIn_app (goodIn_of _ (by decide +kernel)) ggX8_star_X8_isWithin
set_option maxRecDepth 20000 in
theorem ggX8_star_X3_hairsOf : GoodIn wsX8_star wsX3_hairsOf := goodIn_r _ [13, 14, 30, 31, 32, 33, 34, 35, 36, 37, 38, 39, 40, 41] (by decide +kernel) (by decide +kernel)
set_option maxRecDepth 20000 in
theorem gX8_star_X3_hairsOf : GoodIn wsX8_star (wsV RX8 177 RX3 yX3_hairsOf wsX3_hairsOf) := goodIn_app (goodIn_of _ (by decide +kernel)) ggX8_star_X3_hairsOf
set_option maxRecDepth 20000 in
theorem ggX8_star_X3_lightOf : GoodIn wsX8_star wsX3_lightOf := goodIn_r _ [18, 19, 30, 31, 32, 33, 34, 35, 36, 37, 38, 39, 40, 41] (by decide +kernel) (by decide +kernel)
set_option maxRecDepth 20000 in
theorem gX8_star_X3_lightOf : GoodIn wsX8_star (wsV RX8 180 RX3 yX3_lightOf wsX3_lightOf) := goodIn_app (goodIn_of _ (by decide +kernel)) ggX8_star_X3_lightOf
theorem dX8_star_0 : decode cX8_star 0 = .ok (.iload_n 1, 1) := by decide +kernel
theorem dX8_star_1 : decode cX8_star 1 = .ok (.iconst 0, 1) := by decide +kernel
theorem dX8_star_2 : decode cX8_star 2 = .ok (.aload_n 0, 1) := by decide +kernel
theorem dX8_star_3 : decode cX8_star 3 = .ok (.getfield 19, 3) := by decide +kernel
theorem dX8_star_6 : decode cX8_star 6 = .ok (.getfield 111, 3) := by decide +kernel
theorem dX8_star_9 : decode cX8_star 9 = .ok (.iconst 1, 1) := by decide +kernel
theorem dX8_star_10 : decode cX8_star 10 = .ok (.isub, 1) := by decide +kernel
theorem dX8_star_11 : decode cX8_star 11 = .ok (.invokestatic 73, 3) := by decide +kernel
theorem dX8_star_14 : decode cX8_star 14 = .ok (.ifCond .ne 6, 3) := by decide +kernel
theorem dX8_star_17 : decode cX8_star 17 = .ok (.ldc 176, 2) := by decide +kernel
theorem dX8_star_19 : decode cX8_star 19 = .ok (.ireturn, 1) := by decide +kernel
theorem dX8_star_20 : decode cX8_star 20 = .ok (.iload_n 2, 1) := by decide +kernel
theorem dX8_star_21 : decode cX8_star 21 = .ok (.iconst 0, 1) := by decide +kernel
theorem dX8_star_22 : decode cX8_star 22 = .ok (.iconst 1, 1) := by decide +kernel
theorem dX8_star_23 : decode cX8_star 23 = .ok (.invokestatic 73, 3) := by decide +kernel
theorem dX8_star_26 : decode cX8_star 26 = .ok (.ifCond .ne 6, 3) := by decide +kernel
theorem dX8_star_29 : decode cX8_star 29 = .ok (.ldc 77, 2) := by decide +kernel
theorem dX8_star_31 : decode cX8_star 31 = .ok (.ireturn, 1) := by decide +kernel
theorem dX8_star_32 : decode cX8_star 32 = .ok (.iload_n 2, 1) := by decide +kernel
theorem dX8_star_33 : decode cX8_star 33 = .ok (.ifCond .ne 14, 3) := by decide +kernel
theorem dX8_star_36 : decode cX8_star 36 = .ok (.aload_n 0, 1) := by decide +kernel
theorem dX8_star_37 : decode cX8_star 37 = .ok (.getfield 19, 3) := by decide +kernel
theorem dX8_star_40 : decode cX8_star 40 = .ok (.iload_n 1, 1) := by decide +kernel
theorem dX8_star_41 : decode cX8_star 41 = .ok (.invokevirtual 177, 3) := by decide +kernel
theorem dX8_star_44 : decode cX8_star 44 = .ok (.goto 11, 3) := by decide +kernel
theorem dX8_star_47 : decode cX8_star 47 = .ok (.aload_n 0, 1) := by decide +kernel
theorem dX8_star_48 : decode cX8_star 48 = .ok (.getfield 19, 3) := by decide +kernel
theorem dX8_star_51 : decode cX8_star 51 = .ok (.iload_n 1, 1) := by decide +kernel
theorem dX8_star_52 : decode cX8_star 52 = .ok (.invokevirtual 180, 3) := by decide +kernel
theorem dX8_star_55 : decode cX8_star 55 = .ok (.ireturn, 1) := by decide +kernel
set_option maxRecDepth 20000 in
theorem ggX8_minute_X8_refusalOfMinutes : GoodIn wsX8_minute wsX8_refusalOfMinutes := goodIn_r _ [9, 10, 11, 2, 12, 13, 14, 15, 8, 16, 17, 18, 19, 20, 3, 21, 22, 96, 97, 98, 99, 100, 101, 102, 103, 104, 105, 106, 107, 108, 109, 110, 111, 112, 113, 114, 115, 116, 117, 118, 119, 120, 121, 122, 123, 124, 125, 126, 127, 128, 129] (by decide +kernel) (by decide +kernel)
set_option maxRecDepth 20000 in
theorem gX8_minute_X8_refusalOfMinutes : GoodIn wsX8_minute (wsV RX8 183 RX8 yX8_refusalOfMinutes wsX8_refusalOfMinutes) := goodIn_app (goodIn_of _ (by decide +kernel)) ggX8_minute_X8_refusalOfMinutes
set_option maxRecDepth 20000 in
theorem ggX8_minute_X1_push : GoodIn wsX8_minute wsX1_push := goodIn_r _ [27, 28, 29, 30, 31, 32, 33, 34, 35, 36, 26, 37, 38, 39, 40, 41, 42, 43, 44, 45, 46, 47, 48, 49, 50, 51, 52, 53, 54, 55, 130, 131, 132, 106, 107, 108, 109, 110, 111, 112, 113, 114, 115, 116, 117] (by decide +kernel) (by decide +kernel)
set_option maxRecDepth 20000 in
theorem gX8_minute_X1_push : GoodIn wsX8_minute (wsV RX8 186 RX1 yX1_push wsX1_push) := goodIn_app (goodIn_of _ (by decide +kernel)) ggX8_minute_X1_push
set_option maxRecDepth 20000 in
theorem ggX8_minute_X4_passMany : GoodIn wsX8_minute wsX4_passMany := goodIn_r _ [59, 47, 60, 61, 62, 42, 63, 45, 49, 64, 44, 46, 50, 65, 66, 67, 32, 68, 69, 48, 70, 71, 72, 73, 74, 75, 76, 77, 78, 79, 80, 81, 82, 83, 84, 85, 86, 87, 88, 89, 90, 91, 51, 52, 92, 31, 33, 53, 93, 94, 95, 54, 55, 106, 107, 108, 109, 110, 111, 112, 113, 114, 115, 116, 117, 118, 119, 120, 121, 122, 123, 124, 125, 126, 127, 128, 129] (by decide +kernel) (by decide +kernel)
set_option maxRecDepth 20000 in
theorem gX8_minute_X4_passMany : GoodIn wsX8_minute (wsV RX8 190 RX4 yX4_passMany wsX4_passMany) := goodIn_app (goodIn_of _ (by decide +kernel)) ggX8_minute_X4_passMany
theorem dX8_minute_0 : decode cX8_minute 0 = .ok (.aload_n 0, 1) := by decide +kernel
theorem dX8_minute_1 : decode cX8_minute 1 = .ok (.iload_n 1, 1) := by decide +kernel
theorem dX8_minute_2 : decode cX8_minute 2 = .ok (.invokevirtual 183, 3) := by decide +kernel
theorem dX8_minute_5 : decode cX8_minute 5 = .ok (.istore_n 2, 1) := by decide +kernel
theorem dX8_minute_6 : decode cX8_minute 6 = .ok (.iload_n 2, 1) := by decide +kernel
theorem dX8_minute_7 : decode cX8_minute 7 = .ok (.ifCond .eq 5, 3) := by decide +kernel
theorem dX8_minute_10 : decode cX8_minute 10 = .ok (.iload_n 2, 1) := by decide +kernel
theorem dX8_minute_11 : decode cX8_minute 11 = .ok (.ireturn, 1) := by decide +kernel
theorem dX8_minute_12 : decode cX8_minute 12 = .ok (.aload_n 0, 1) := by decide +kernel
theorem dX8_minute_13 : decode cX8_minute 13 = .ok (.getfield 45, 3) := by decide +kernel
theorem dX8_minute_16 : decode cX8_minute 16 = .ok (.aload_n 0, 1) := by decide +kernel
theorem dX8_minute_17 : decode cX8_minute 17 = .ok (.getfield 29, 3) := by decide +kernel
theorem dX8_minute_20 : decode cX8_minute 20 = .ok (.invokevirtual 186, 3) := by decide +kernel
theorem dX8_minute_23 : decode cX8_minute 23 = .ok (.aload_n 0, 1) := by decide +kernel
theorem dX8_minute_24 : decode cX8_minute 24 = .ok (.getfield 29, 3) := by decide +kernel
theorem dX8_minute_27 : decode cX8_minute 27 = .ok (.aload_n 0, 1) := by decide +kernel
theorem dX8_minute_28 : decode cX8_minute 28 = .ok (.getfield 19, 3) := by decide +kernel
theorem dX8_minute_31 : decode cX8_minute 31 = .ok (.iload_n 1, 1) := by decide +kernel
theorem dX8_minute_32 : decode cX8_minute 32 = .ok (.invokevirtual 190, 3) := by decide +kernel
theorem dX8_minute_35 : decode cX8_minute 35 = .ok (.aload_n 0, 1) := by decide +kernel
theorem dX8_minute_36 : decode cX8_minute 36 = .ok (.getfield 29, 3) := by decide +kernel
theorem dX8_minute_39 : decode cX8_minute 39 = .ok (.getfield 141, 3) := by decide +kernel
theorem dX8_minute_42 : decode cX8_minute 42 = .ok (.sipush 10000, 3) := by decide +kernel
theorem dX8_minute_45 : decode cX8_minute 45 = .ok (.iadd, 1) := by decide +kernel
theorem dX8_minute_46 : decode cX8_minute 46 = .ok (.ireturn, 1) := by decide +kernel
set_option maxRecDepth 20000 in
theorem ggX8_press_X8_isWithin : GoodIn wsX8_press wsX8_isWithin := goodIn_r _ [10] (by decide +kernel) (by decide +kernel)
set_option maxRecDepth 20000 in
theorem gX8_press_X8_isWithin : GoodIn wsX8_press (va_wsS RX8 73 yX8_isWithin wsX8_isWithin) := goodIn_app (goodIn_of _ (by decide +kernel)) ggX8_press_X8_isWithin
set_option maxRecDepth 20000 in
theorem ggX8_press_X8_cannotGoOn : GoodIn wsX8_press wsX8_cannotGoOn := goodIn_r _ [14, 15, 16, 4, 17, 51, 52, 53, 54, 55, 56, 57, 58, 59, 60, 73, 74, 75, 76, 77, 78, 79, 80, 81, 82, 83, 84, 61, 62, 63, 64, 65, 66, 67, 68, 69, 70, 71, 72] (by decide +kernel) (by decide +kernel)
set_option maxRecDepth 20000 in
theorem gX8_press_X8_cannotGoOn : GoodIn wsX8_press (wsV RX8 194 RX8 yX8_cannotGoOn wsX8_cannotGoOn) := goodIn_app (goodIn_of _ (by decide +kernel)) ggX8_press_X8_cannotGoOn
set_option maxRecDepth 20000 in
theorem ggX8_press_X1_push : GoodIn wsX8_press wsX1_push := goodIn_r _ [22, 23, 24, 25, 26, 27, 28, 29, 30, 31, 21, 32, 33, 34, 35, 36, 37, 38, 39, 40, 41, 42, 43, 44, 45, 46, 47, 48, 49, 50, 85, 86, 87, 61, 62, 63, 64, 65, 66, 67, 68, 69, 70, 71, 72] (by decide +kernel) (by decide +kernel)
set_option maxRecDepth 20000 in
theorem gX8_press_X1_push : GoodIn wsX8_press (wsV RX8 186 RX1 yX1_push wsX1_push) := goodIn_app (goodIn_of _ (by decide +kernel)) ggX8_press_X1_push
theorem dX8_press_0 : decode cX8_press 0 = .ok (.iload_n 1, 1) := by decide +kernel
theorem dX8_press_1 : decode cX8_press 1 = .ok (.bipush (-99), 2) := by decide +kernel
theorem dX8_press_3 : decode cX8_press 3 = .ok (.bipush 99, 2) := by decide +kernel
theorem dX8_press_5 : decode cX8_press 5 = .ok (.invokestatic 73, 3) := by decide +kernel
theorem dX8_press_8 : decode cX8_press 8 = .ok (.ifCond .eq 14, 3) := by decide +kernel
theorem dX8_press_11 : decode cX8_press 11 = .ok (.iload_n 2, 1) := by decide +kernel
theorem dX8_press_12 : decode cX8_press 12 = .ok (.bipush (-99), 2) := by decide +kernel
theorem dX8_press_14 : decode cX8_press 14 = .ok (.bipush 99, 2) := by decide +kernel
theorem dX8_press_16 : decode cX8_press 16 = .ok (.invokestatic 73, 3) := by decide +kernel
theorem dX8_press_19 : decode cX8_press 19 = .ok (.ifCond .ne 6, 3) := by decide +kernel
theorem dX8_press_22 : decode cX8_press 22 = .ok (.ldc 77, 2) := by decide +kernel
theorem dX8_press_24 : decode cX8_press 24 = .ok (.ireturn, 1) := by decide +kernel
theorem dX8_press_25 : decode cX8_press 25 = .ok (.aload_n 0, 1) := by decide +kernel
theorem dX8_press_26 : decode cX8_press 26 = .ok (.invokevirtual 194, 3) := by decide +kernel
theorem dX8_press_29 : decode cX8_press 29 = .ok (.ifCond .eq 6, 3) := by decide +kernel
theorem dX8_press_32 : decode cX8_press 32 = .ok (.ldc 198, 2) := by decide +kernel
theorem dX8_press_34 : decode cX8_press 34 = .ok (.ireturn, 1) := by decide +kernel
theorem dX8_press_35 : decode cX8_press 35 = .ok (.aload_n 0, 1) := by decide +kernel
theorem dX8_press_36 : decode cX8_press 36 = .ok (.getfield 45, 3) := by decide +kernel
theorem dX8_press_39 : decode cX8_press 39 = .ok (.aload_n 0, 1) := by decide +kernel
theorem dX8_press_40 : decode cX8_press 40 = .ok (.getfield 29, 3) := by decide +kernel
theorem dX8_press_43 : decode cX8_press 43 = .ok (.invokevirtual 186, 3) := by decide +kernel
theorem dX8_press_46 : decode cX8_press 46 = .ok (.aload_n 0, 1) := by decide +kernel
theorem dX8_press_47 : decode cX8_press 47 = .ok (.getfield 29, 3) := by decide +kernel
theorem dX8_press_50 : decode cX8_press 50 = .ok (.iload_n 1, 1) := by decide +kernel
theorem dX8_press_51 : decode cX8_press 51 = .ok (.putfield 199, 3) := by decide +kernel
theorem dX8_press_54 : decode cX8_press 54 = .ok (.aload_n 0, 1) := by decide +kernel
theorem dX8_press_55 : decode cX8_press 55 = .ok (.getfield 29, 3) := by decide +kernel
theorem dX8_press_58 : decode cX8_press 58 = .ok (.iload_n 2, 1) := by decide +kernel
theorem dX8_press_59 : decode cX8_press 59 = .ok (.putfield 202, 3) := by decide +kernel
theorem dX8_press_62 : decode cX8_press 62 = .ok (.iconst 1, 1) := by decide +kernel
theorem dX8_press_63 : decode cX8_press 63 = .ok (.ireturn, 1) := by decide +kernel
set_option maxRecDepth 20000 in
theorem ggX8_rule_X8_isRule : GoodIn wsX8_rule wsX8_isRule := goodIn_r _ [9, 10, 11, 8, 12] (by decide +kernel) (by decide +kernel)
set_option maxRecDepth 20000 in
theorem gX8_rule_X8_isRule : GoodIn wsX8_rule (va_wsS RX8 205 yX8_isRule wsX8_isRule) := goodIn_app (goodIn_of _ (by decide +kernel)) ggX8_rule_X8_isRule
set_option maxRecDepth 20000 in
theorem ggX8_rule_X8_refusalOfMinutes : GoodIn wsX8_rule wsX8_refusalOfMinutes := goodIn_r _ [16, 1, 17, 3, 18, 19, 10, 11, 8, 12, 20, 21, 22, 23, 5, 24, 4, 104, 105, 106, 107, 108, 109, 110, 111, 112, 113, 114, 115, 116, 117, 118, 119, 120, 121, 122, 123, 124, 125, 126, 127, 128, 129, 130, 131, 132, 133, 134, 135, 136, 137] (by decide +kernel) (by decide +kernel)
set_option maxRecDepth 20000 in
theorem gX8_rule_X8_refusalOfMinutes : GoodIn wsX8_rule (wsV RX8 183 RX8 yX8_refusalOfMinutes wsX8_refusalOfMinutes) := goodIn_app (goodIn_of _ (by decide +kernel)) ggX8_rule_X8_refusalOfMinutes
set_option maxRecDepth 20000 in
theorem ggX8_rule_X1_push : GoodIn wsX8_rule wsX1_push := goodIn_r _ [29, 30, 31, 32, 33, 34, 35, 36, 37, 38, 28, 39, 40, 41, 42, 43, 44, 45, 46, 47, 48, 49, 50, 51, 52, 53, 54, 55, 56, 57, 138, 139, 140, 114, 115, 116, 117, 118, 119, 120, 121, 122, 123, 124, 125] (by decide +kernel) (by decide +kernel)
set_option maxRecDepth 20000 in
theorem gX8_rule_X1_push : GoodIn wsX8_rule (wsV RX8 186 RX1 yX1_push wsX1_push) := goodIn_app (goodIn_of _ (by decide +kernel)) ggX8_rule_X1_push
set_option maxRecDepth 20000 in
theorem ggX8_rule_X4_passByRule : GoodIn wsX8_rule wsX4_passByRule := goodIn_r _ [61, 47, 51, 48, 52, 62, 63, 64, 65, 66, 67, 68, 69, 34, 70, 71, 72, 73, 44, 74, 75, 46, 76, 77, 78, 49, 50, 79, 80, 81, 82, 83, 84, 85, 86, 87, 88, 89, 90, 91, 92, 93, 94, 95, 96, 97, 98, 99, 53, 54, 100, 33, 35, 55, 101, 102, 103, 56, 57, 114, 115, 116, 117, 118, 119, 120, 121, 122, 123, 124, 125, 126, 127, 128, 129, 130, 131, 132, 133, 134, 135, 136, 137] (by decide +kernel) (by decide +kernel)
set_option maxRecDepth 20000 in
theorem gX8_rule_X4_passByRule : GoodIn wsX8_rule (wsV RX8 209 RX4 yX4_passByRule wsX4_passByRule) := goodIn_app (goodIn_of _ (by decide +kernel)) ggX8_rule_X4_passByRule
theorem dX8_rule_0 : decode cX8_rule 0 = .ok (.iload_n 1, 1) := by decide +kernel
theorem dX8_rule_1 : decode cX8_rule 1 = .ok (.iload_n 2, 1) := by decide +kernel
theorem dX8_rule_2 : decode cX8_rule 2 = .ok (.invokestatic 205, 3) := by decide +kernel
theorem dX8_rule_5 : decode cX8_rule 5 = .ok (.ifCond .ne 6, 3) := by decide +kernel
theorem dX8_rule_8 : decode cX8_rule 8 = .ok (.ldc 77, 2) := by decide +kernel
theorem dX8_rule_10 : decode cX8_rule 10 = .ok (.ireturn, 1) := by decide +kernel
theorem dX8_rule_11 : decode cX8_rule 11 = .ok (.aload_n 0, 1) := by decide +kernel
theorem dX8_rule_12 : decode cX8_rule 12 = .ok (.iload_n 3, 1) := by decide +kernel
theorem dX8_rule_13 : decode cX8_rule 13 = .ok (.invokevirtual 183, 3) := by decide +kernel
theorem dX8_rule_16 : decode cX8_rule 16 = .ok (.istore 4, 2) := by decide +kernel
theorem dX8_rule_18 : decode cX8_rule 18 = .ok (.iload 4, 2) := by decide +kernel
theorem dX8_rule_20 : decode cX8_rule 20 = .ok (.ifCond .eq 6, 3) := by decide +kernel
theorem dX8_rule_23 : decode cX8_rule 23 = .ok (.iload 4, 2) := by decide +kernel
theorem dX8_rule_25 : decode cX8_rule 25 = .ok (.ireturn, 1) := by decide +kernel
theorem dX8_rule_26 : decode cX8_rule 26 = .ok (.aload_n 0, 1) := by decide +kernel
theorem dX8_rule_27 : decode cX8_rule 27 = .ok (.getfield 45, 3) := by decide +kernel
theorem dX8_rule_30 : decode cX8_rule 30 = .ok (.aload_n 0, 1) := by decide +kernel
theorem dX8_rule_31 : decode cX8_rule 31 = .ok (.getfield 29, 3) := by decide +kernel
theorem dX8_rule_34 : decode cX8_rule 34 = .ok (.invokevirtual 186, 3) := by decide +kernel
theorem dX8_rule_37 : decode cX8_rule 37 = .ok (.iconst 0, 1) := by decide +kernel
theorem dX8_rule_38 : decode cX8_rule 38 = .ok (.istore 5, 2) := by decide +kernel
theorem dX8_rule_40 : decode cX8_rule 40 = .ok (.iconst 0, 1) := by decide +kernel
theorem dX8_rule_41 : decode cX8_rule 41 = .ok (.istore 6, 2) := by decide +kernel
theorem dX8_rule_43 : decode cX8_rule 43 = .ok (.iload 6, 2) := by decide +kernel
theorem dX8_rule_45 : decode cX8_rule 45 = .ok (.iload_n 3, 1) := by decide +kernel
theorem dX8_rule_46 : decode cX8_rule 46 = .ok (.if_icmp .ge 38, 3) := by decide +kernel
theorem dX8_rule_49 : decode cX8_rule 49 = .ok (.aload_n 0, 1) := by decide +kernel
theorem dX8_rule_50 : decode cX8_rule 50 = .ok (.getfield 29, 3) := by decide +kernel
theorem dX8_rule_53 : decode cX8_rule 53 = .ok (.getfield 147, 3) := by decide +kernel
theorem dX8_rule_56 : decode cX8_rule 56 = .ok (.ifCond .ne 28, 3) := by decide +kernel
theorem dX8_rule_59 : decode cX8_rule 59 = .ok (.aload_n 0, 1) := by decide +kernel
theorem dX8_rule_60 : decode cX8_rule 60 = .ok (.getfield 29, 3) := by decide +kernel
theorem dX8_rule_63 : decode cX8_rule 63 = .ok (.aload_n 0, 1) := by decide +kernel
theorem dX8_rule_64 : decode cX8_rule 64 = .ok (.getfield 19, 3) := by decide +kernel
theorem dX8_rule_67 : decode cX8_rule 67 = .ok (.iload_n 1, 1) := by decide +kernel
theorem dX8_rule_68 : decode cX8_rule 68 = .ok (.iload_n 2, 1) := by decide +kernel
theorem dX8_rule_69 : decode cX8_rule 69 = .ok (.invokevirtual 209, 3) := by decide +kernel
theorem dX8_rule_72 : decode cX8_rule 72 = .ok (.ifCond .eq 6, 3) := by decide +kernel
theorem dX8_rule_75 : decode cX8_rule 75 = .ok (.iinc 5 1, 3) := by decide +kernel
theorem dX8_rule_78 : decode cX8_rule 78 = .ok (.iinc 6 1, 3) := by decide +kernel
theorem dX8_rule_81 : decode cX8_rule 81 = .ok (.goto (-38), 3) := by decide +kernel
theorem dX8_rule_84 : decode cX8_rule 84 = .ok (.iload 5, 2) := by decide +kernel
theorem dX8_rule_86 : decode cX8_rule 86 = .ok (.ireturn, 1) := by decide +kernel
set_option maxRecDepth 20000 in
theorem ggX8_shut_X1_push : GoodIn wsX8_shut wsX1_push := goodIn_r _ [11, 12, 13, 14, 15, 16, 17, 18, 19, 20, 10, 21, 22, 23, 24, 25, 26, 27, 28, 29, 30, 31, 32, 33, 34, 35, 36, 37, 38, 39, 74, 75, 76, 62, 63, 64, 65, 66, 67, 68, 69, 70, 71, 72, 73] (by decide +kernel) (by decide +kernel)
set_option maxRecDepth 20000 in
theorem gX8_shut_X1_push : GoodIn wsX8_shut (wsV RX8 186 RX1 yX1_push wsX1_push) := goodIn_app (goodIn_of _ (by decide +kernel)) ggX8_shut_X1_push
theorem dX8_shut_0 : decode cX8_shut 0 = .ok (.aload_n 0, 1) := by decide +kernel
theorem dX8_shut_1 : decode cX8_shut 1 = .ok (.getfield 19, 3) := by decide +kernel
theorem dX8_shut_4 : decode cX8_shut 4 = .ok (.getfield 117, 3) := by decide +kernel
theorem dX8_shut_7 : decode cX8_shut 7 = .ok (.ifCond .ne 6, 3) := by decide +kernel
theorem dX8_shut_10 : decode cX8_shut 10 = .ok (.ldc 198, 2) := by decide +kernel
theorem dX8_shut_12 : decode cX8_shut 12 = .ok (.ireturn, 1) := by decide +kernel
theorem dX8_shut_13 : decode cX8_shut 13 = .ok (.aload_n 0, 1) := by decide +kernel
theorem dX8_shut_14 : decode cX8_shut 14 = .ok (.getfield 45, 3) := by decide +kernel
theorem dX8_shut_17 : decode cX8_shut 17 = .ok (.aload_n 0, 1) := by decide +kernel
theorem dX8_shut_18 : decode cX8_shut 18 = .ok (.getfield 29, 3) := by decide +kernel
theorem dX8_shut_21 : decode cX8_shut 21 = .ok (.invokevirtual 186, 3) := by decide +kernel
theorem dX8_shut_24 : decode cX8_shut 24 = .ok (.aload_n 0, 1) := by decide +kernel
theorem dX8_shut_25 : decode cX8_shut 25 = .ok (.getfield 29, 3) := by decide +kernel
theorem dX8_shut_28 : decode cX8_shut 28 = .ok (.getfield 150, 3) := by decide +kernel
theorem dX8_shut_31 : decode cX8_shut 31 = .ok (.ifCond .eq 7, 3) := by decide +kernel
theorem dX8_shut_34 : decode cX8_shut 34 = .ok (.iconst 1, 1) := by decide +kernel
theorem dX8_shut_35 : decode cX8_shut 35 = .ok (.goto 4, 3) := by decide +kernel
theorem dX8_shut_38 : decode cX8_shut 38 = .ok (.iconst 0, 1) := by decide +kernel
theorem dX8_shut_39 : decode cX8_shut 39 = .ok (.istore_n 2, 1) := by decide +kernel
theorem dX8_shut_40 : decode cX8_shut 40 = .ok (.aload_n 0, 1) := by decide +kernel
theorem dX8_shut_41 : decode cX8_shut 41 = .ok (.getfield 29, 3) := by decide +kernel
theorem dX8_shut_44 : decode cX8_shut 44 = .ok (.iload_n 1, 1) := by decide +kernel
theorem dX8_shut_45 : decode cX8_shut 45 = .ok (.putfield 150, 3) := by decide +kernel
theorem dX8_shut_48 : decode cX8_shut 48 = .ok (.iload_n 2, 1) := by decide +kernel
theorem dX8_shut_49 : decode cX8_shut 49 = .ok (.ireturn, 1) := by decide +kernel
set_option maxRecDepth 20000 in
theorem ggX8_plate_X1_push : GoodIn wsX8_plate wsX1_push := goodIn_r _ [10, 11, 12, 13, 14, 15, 16, 17, 18, 19, 9, 20, 21, 22, 23, 24, 25, 26, 27, 28, 29, 30, 31, 32, 33, 34, 35, 36, 37, 38, 72, 73, 74, 75, 76, 77, 78, 79, 80, 81, 82, 83, 84, 85, 86] (by decide +kernel) (by decide +kernel)
set_option maxRecDepth 20000 in
theorem gX8_plate_X1_push : GoodIn wsX8_plate (wsV RX8 186 RX1 yX1_push wsX1_push) := goodIn_app (goodIn_of _ (by decide +kernel)) ggX8_plate_X1_push
set_option maxRecDepth 20000 in
theorem ggX8_plate_X4_tailLength : GoodIn wsX8_plate wsX4_tailLength := goodIn_r _ [42, 34, 36, 35, 38, 37, 43, 44, 15, 45, 75, 76, 77, 78, 79, 80, 81, 82, 83, 84, 85, 86] (by decide +kernel) (by decide +kernel)
set_option maxRecDepth 20000 in
theorem gX8_plate_X4_tailLength : GoodIn wsX8_plate (wsV RX8 156 RX4 yX4_tailLength wsX4_tailLength) := goodIn_app (goodIn_of _ (by decide +kernel)) ggX8_plate_X4_tailLength
set_option maxRecDepth 20000 in
theorem ggX8_plate_X4_takeFreshPlate : GoodIn wsX8_plate wsX4_takeFreshPlate := goodIn_r _ [49, 28, 29, 30, 31, 32, 33, 34, 75, 76, 77, 78, 79, 80, 81, 82, 83, 84, 85, 86] (by decide +kernel) (by decide +kernel)
set_option maxRecDepth 20000 in
theorem gX8_plate_X4_takeFreshPlate : GoodIn wsX8_plate (wsV RX8 100 RX4 yX4_takeFreshPlate wsX4_takeFreshPlate) := goodIn_app (goodIn_of _ (by decide +kernel)) ggX8_plate_X4_takeFreshPlate
theorem dX8_plate_0 : decode cX8_plate 0 = .ok (.aload_n 0, 1) := by decide +kernel
theorem dX8_plate_1 : decode cX8_plate 1 = .ok (.getfield 19, 3) := by decide +kernel
theorem dX8_plate_4 : decode cX8_plate 4 = .ok (.getfield 117, 3) := by decide +kernel
theorem dX8_plate_7 : decode cX8_plate 7 = .ok (.ifCond .ne 6, 3) := by decide +kernel
theorem dX8_plate_10 : decode cX8_plate 10 = .ok (.ldc 198, 2) := by decide +kernel
theorem dX8_plate_12 : decode cX8_plate 12 = .ok (.ireturn, 1) := by decide +kernel
theorem dX8_plate_13 : decode cX8_plate 13 = .ok (.aload_n 0, 1) := by decide +kernel
theorem dX8_plate_14 : decode cX8_plate 14 = .ok (.getfield 45, 3) := by decide +kernel
theorem dX8_plate_17 : decode cX8_plate 17 = .ok (.aload_n 0, 1) := by decide +kernel
theorem dX8_plate_18 : decode cX8_plate 18 = .ok (.getfield 29, 3) := by decide +kernel
theorem dX8_plate_21 : decode cX8_plate 21 = .ok (.invokevirtual 186, 3) := by decide +kernel
theorem dX8_plate_24 : decode cX8_plate 24 = .ok (.aload_n 0, 1) := by decide +kernel
theorem dX8_plate_25 : decode cX8_plate 25 = .ok (.getfield 29, 3) := by decide +kernel
theorem dX8_plate_28 : decode cX8_plate 28 = .ok (.invokevirtual 156, 3) := by decide +kernel
theorem dX8_plate_31 : decode cX8_plate 31 = .ok (.istore_n 1, 1) := by decide +kernel
theorem dX8_plate_32 : decode cX8_plate 32 = .ok (.aload_n 0, 1) := by decide +kernel
theorem dX8_plate_33 : decode cX8_plate 33 = .ok (.getfield 29, 3) := by decide +kernel
theorem dX8_plate_36 : decode cX8_plate 36 = .ok (.invokevirtual 100, 3) := by decide +kernel
theorem dX8_plate_39 : decode cX8_plate 39 = .ok (.iload_n 1, 1) := by decide +kernel
theorem dX8_plate_40 : decode cX8_plate 40 = .ok (.ireturn, 1) := by decide +kernel
set_option maxRecDepth 20000 in
theorem ggX8_drift_X8_refusalOfMinutes : GoodIn wsX8_drift wsX8_refusalOfMinutes := goodIn_r _ [12, 13, 14, 2, 15, 16, 17, 18, 11, 19, 20, 21, 22, 23, 7, 24, 3, 104, 105, 106, 107, 108, 109, 110, 111, 112, 113, 114, 115, 116, 117, 118, 119, 120, 121, 122, 123, 124, 125, 126, 127, 128, 129, 130, 131, 132, 133, 134, 135, 136, 137] (by decide +kernel) (by decide +kernel)
set_option maxRecDepth 20000 in
theorem gX8_drift_X8_refusalOfMinutes : GoodIn wsX8_drift (wsV RX8 183 RX8 yX8_refusalOfMinutes wsX8_refusalOfMinutes) := goodIn_app (goodIn_of _ (by decide +kernel)) ggX8_drift_X8_refusalOfMinutes
set_option maxRecDepth 20000 in
theorem ggX8_drift_X1_push : GoodIn wsX8_drift wsX1_push := goodIn_r _ [29, 30, 31, 32, 33, 34, 35, 36, 37, 38, 28, 39, 40, 41, 42, 43, 44, 45, 46, 47, 48, 49, 50, 51, 52, 53, 54, 55, 56, 57, 138, 139, 140, 114, 115, 116, 117, 118, 119, 120, 121, 122, 123, 124, 125] (by decide +kernel) (by decide +kernel)
set_option maxRecDepth 20000 in
theorem gX8_drift_X1_push : GoodIn wsX8_drift (wsV RX8 186 RX1 yX1_push wsX1_push) := goodIn_app (goodIn_of _ (by decide +kernel)) ggX8_drift_X1_push
set_option maxRecDepth 20000 in
theorem ggX8_drift_X0_drawOf : GoodIn wsX8_drift wsX0_drawOf := goodIn_r _ [62, 63, 64, 65, 66, 67, 141] (by decide +kernel) (by decide +kernel)
set_option maxRecDepth 20000 in
theorem gX8_drift_X0_drawOf : GoodIn wsX8_drift (wsV RX8 213 RX0 yX0_drawOf wsX0_drawOf) := goodIn_app (goodIn_of _ (by decide +kernel)) ggX8_drift_X0_drawOf
set_option maxRecDepth 20000 in
theorem ggX8_drift_X4_passOne : GoodIn wsX8_drift wsX4_passOne := goodIn_r _ [71, 47, 51, 72, 46, 48, 52, 73, 74, 75, 34, 76, 77, 49, 50, 78, 79, 80, 81, 82, 83, 84, 85, 86, 87, 88, 89, 90, 91, 92, 93, 94, 95, 96, 97, 98, 44, 99, 53, 54, 100, 33, 35, 55, 101, 102, 103, 56, 57, 114, 115, 116, 117, 118, 119, 120, 121, 122, 123, 124, 125, 126, 127, 128, 129, 130, 131, 132, 133, 134, 135, 136, 137] (by decide +kernel) (by decide +kernel)
set_option maxRecDepth 20000 in
theorem gX8_drift_X4_passOne : GoodIn wsX8_drift (wsV RX8 216 RX4 yX4_passOne wsX4_passOne) := goodIn_app (goodIn_of _ (by decide +kernel)) ggX8_drift_X4_passOne
theorem dX8_drift_0 : decode cX8_drift 0 = .ok (.aload_n 0, 1) := by decide +kernel
theorem dX8_drift_1 : decode cX8_drift 1 = .ok (.iload_n 1, 1) := by decide +kernel
theorem dX8_drift_2 : decode cX8_drift 2 = .ok (.invokevirtual 183, 3) := by decide +kernel
theorem dX8_drift_5 : decode cX8_drift 5 = .ok (.istore_n 2, 1) := by decide +kernel
theorem dX8_drift_6 : decode cX8_drift 6 = .ok (.iload_n 2, 1) := by decide +kernel
theorem dX8_drift_7 : decode cX8_drift 7 = .ok (.ifCond .eq 5, 3) := by decide +kernel
theorem dX8_drift_10 : decode cX8_drift 10 = .ok (.iload_n 2, 1) := by decide +kernel
theorem dX8_drift_11 : decode cX8_drift 11 = .ok (.ireturn, 1) := by decide +kernel
theorem dX8_drift_12 : decode cX8_drift 12 = .ok (.aload_n 0, 1) := by decide +kernel
theorem dX8_drift_13 : decode cX8_drift 13 = .ok (.getfield 45, 3) := by decide +kernel
theorem dX8_drift_16 : decode cX8_drift 16 = .ok (.aload_n 0, 1) := by decide +kernel
theorem dX8_drift_17 : decode cX8_drift 17 = .ok (.getfield 29, 3) := by decide +kernel
theorem dX8_drift_20 : decode cX8_drift 20 = .ok (.invokevirtual 186, 3) := by decide +kernel
theorem dX8_drift_23 : decode cX8_drift 23 = .ok (.iconst 0, 1) := by decide +kernel
theorem dX8_drift_24 : decode cX8_drift 24 = .ok (.istore_n 3, 1) := by decide +kernel
theorem dX8_drift_25 : decode cX8_drift 25 = .ok (.iload_n 3, 1) := by decide +kernel
theorem dX8_drift_26 : decode cX8_drift 26 = .ok (.iload_n 1, 1) := by decide +kernel
theorem dX8_drift_27 : decode cX8_drift 27 = .ok (.if_icmp .ge 74, 3) := by decide +kernel
theorem dX8_drift_30 : decode cX8_drift 30 = .ok (.aload_n 0, 1) := by decide +kernel
theorem dX8_drift_31 : decode cX8_drift 31 = .ok (.getfield 29, 3) := by decide +kernel
theorem dX8_drift_34 : decode cX8_drift 34 = .ok (.getfield 147, 3) := by decide +kernel
theorem dX8_drift_37 : decode cX8_drift 37 = .ok (.ifCond .ne 64, 3) := by decide +kernel
theorem dX8_drift_40 : decode cX8_drift 40 = .ok (.aload_n 0, 1) := by decide +kernel
theorem dX8_drift_41 : decode cX8_drift 41 = .ok (.getfield 29, 3) := by decide +kernel
theorem dX8_drift_44 : decode cX8_drift 44 = .ok (.dup, 1) := by decide +kernel
theorem dX8_drift_45 : decode cX8_drift 45 = .ok (.getfield 141, 3) := by decide +kernel
theorem dX8_drift_48 : decode cX8_drift 48 = .ok (.aload_n 0, 1) := by decide +kernel
theorem dX8_drift_49 : decode cX8_drift 49 = .ok (.getfield 59, 3) := by decide +kernel
theorem dX8_drift_52 : decode cX8_drift 52 = .ok (.iconst 5, 1) := by decide +kernel
theorem dX8_drift_53 : decode cX8_drift 53 = .ok (.invokevirtual 213, 3) := by decide +kernel
theorem dX8_drift_56 : decode cX8_drift 56 = .ok (.iconst 2, 1) := by decide +kernel
theorem dX8_drift_57 : decode cX8_drift 57 = .ok (.isub, 1) := by decide +kernel
theorem dX8_drift_58 : decode cX8_drift 58 = .ok (.iadd, 1) := by decide +kernel
theorem dX8_drift_59 : decode cX8_drift 59 = .ok (.putfield 141, 3) := by decide +kernel
theorem dX8_drift_62 : decode cX8_drift 62 = .ok (.aload_n 0, 1) := by decide +kernel
theorem dX8_drift_63 : decode cX8_drift 63 = .ok (.getfield 29, 3) := by decide +kernel
theorem dX8_drift_66 : decode cX8_drift 66 = .ok (.dup, 1) := by decide +kernel
theorem dX8_drift_67 : decode cX8_drift 67 = .ok (.getfield 144, 3) := by decide +kernel
theorem dX8_drift_70 : decode cX8_drift 70 = .ok (.aload_n 0, 1) := by decide +kernel
theorem dX8_drift_71 : decode cX8_drift 71 = .ok (.getfield 59, 3) := by decide +kernel
theorem dX8_drift_74 : decode cX8_drift 74 = .ok (.iconst 5, 1) := by decide +kernel
theorem dX8_drift_75 : decode cX8_drift 75 = .ok (.invokevirtual 213, 3) := by decide +kernel
theorem dX8_drift_78 : decode cX8_drift 78 = .ok (.iconst 2, 1) := by decide +kernel
theorem dX8_drift_79 : decode cX8_drift 79 = .ok (.isub, 1) := by decide +kernel
theorem dX8_drift_80 : decode cX8_drift 80 = .ok (.iadd, 1) := by decide +kernel
theorem dX8_drift_81 : decode cX8_drift 81 = .ok (.putfield 144, 3) := by decide +kernel
theorem dX8_drift_84 : decode cX8_drift 84 = .ok (.aload_n 0, 1) := by decide +kernel
theorem dX8_drift_85 : decode cX8_drift 85 = .ok (.getfield 29, 3) := by decide +kernel
theorem dX8_drift_88 : decode cX8_drift 88 = .ok (.aload_n 0, 1) := by decide +kernel
theorem dX8_drift_89 : decode cX8_drift 89 = .ok (.getfield 19, 3) := by decide +kernel
theorem dX8_drift_92 : decode cX8_drift 92 = .ok (.invokevirtual 216, 3) := by decide +kernel
theorem dX8_drift_95 : decode cX8_drift 95 = .ok (.iinc 3 1, 3) := by decide +kernel
theorem dX8_drift_98 : decode cX8_drift 98 = .ok (.goto (-73), 3) := by decide +kernel
theorem dX8_drift_101 : decode cX8_drift 101 = .ok (.aload_n 0, 1) := by decide +kernel
theorem dX8_drift_102 : decode cX8_drift 102 = .ok (.getfield 29, 3) := by decide +kernel
theorem dX8_drift_105 : decode cX8_drift 105 = .ok (.getfield 141, 3) := by decide +kernel
theorem dX8_drift_108 : decode cX8_drift 108 = .ok (.sipush 10000, 3) := by decide +kernel
theorem dX8_drift_111 : decode cX8_drift 111 = .ok (.iadd, 1) := by decide +kernel
theorem dX8_drift_112 : decode cX8_drift 112 = .ok (.ireturn, 1) := by decide +kernel
set_option maxRecDepth 20000 in
theorem ggX8_undo_X1_popInto : GoodIn wsX8_undo wsX1_popInto := goodIn_r _ [9, 10, 11, 12, 13, 14, 8, 15, 16, 17, 18, 19, 20, 21, 22, 23, 24, 25, 26, 27, 28, 29, 30, 31, 32, 33, 44, 45, 46, 47, 48, 49, 50, 51, 52, 53, 54, 55, 56, 57, 58] (by decide +kernel) (by decide +kernel)
set_option maxRecDepth 20000 in
theorem gX8_undo_X1_popInto : GoodIn wsX8_undo (wsV RX8 219 RX1 yX1_popInto wsX1_popInto) := goodIn_app (goodIn_of _ (by decide +kernel)) ggX8_undo_X1_popInto
theorem dX8_undo_0 : decode cX8_undo 0 = .ok (.aload_n 0, 1) := by decide +kernel
theorem dX8_undo_1 : decode cX8_undo 1 = .ok (.getfield 45, 3) := by decide +kernel
theorem dX8_undo_4 : decode cX8_undo 4 = .ok (.aload_n 0, 1) := by decide +kernel
theorem dX8_undo_5 : decode cX8_undo 5 = .ok (.getfield 29, 3) := by decide +kernel
theorem dX8_undo_8 : decode cX8_undo 8 = .ok (.invokevirtual 219, 3) := by decide +kernel
theorem dX8_undo_11 : decode cX8_undo 11 = .ok (.ifCond .eq 13, 3) := by decide +kernel
theorem dX8_undo_14 : decode cX8_undo 14 = .ok (.aload_n 0, 1) := by decide +kernel
theorem dX8_undo_15 : decode cX8_undo 15 = .ok (.getfield 45, 3) := by decide +kernel
theorem dX8_undo_18 : decode cX8_undo 18 = .ok (.getfield 169, 3) := by decide +kernel
theorem dX8_undo_21 : decode cX8_undo 21 = .ok (.goto 5, 3) := by decide +kernel
theorem dX8_undo_24 : decode cX8_undo 24 = .ok (.ldc 198, 2) := by decide +kernel
theorem dX8_undo_26 : decode cX8_undo 26 = .ok (.ireturn, 1) := by decide +kernel
set_option maxRecDepth 20000 in
theorem ggX8_where_X8_isWithin : GoodIn wsX8_where wsX8_isWithin := goodIn_r _ [12] (by decide +kernel) (by decide +kernel)
set_option maxRecDepth 20000 in
theorem gX8_where_X8_isWithin : GoodIn wsX8_where (va_wsS RX8 73 yX8_isWithin wsX8_isWithin) := goodIn_app (goodIn_of _ (by decide +kernel)) ggX8_where_X8_isWithin
set_option maxRecDepth 20000 in
theorem ggX8_where_X7_goOn : GoodIn wsX8_where wsX7_goOn := goodIn_r _ [17, 18, 19, 20, 21, 22, 23, 24, 25, 26, 27, 28, 29, 30, 31, 32, 33, 34, 35, 36, 37, 38, 39, 40, 41, 42, 43, 44, 45, 46, 47, 48, 49, 50, 51, 52, 53, 54, 55, 56, 57, 58, 59, 60, 61, 62, 63, 64, 65, 66, 67, 68, 69, 70, 71, 72, 73, 74, 75, 76, 77, 78, 79, 80, 103, 104, 105, 106, 107, 108, 109, 110, 111, 112, 113, 114, 115, 116, 117, 118, 119, 120, 91, 92, 93, 94, 95, 96, 97, 98, 99, 100, 101, 102] (by decide +kernel) (by decide +kernel)
set_option maxRecDepth 20000 in
theorem gX8_where_X7_goOn : GoodIn wsX8_where (wsV RX8 223 RX7 yX7_goOn wsX7_goOn) := goodIn_app (goodIn_of _ (by decide +kernel)) ggX8_where_X7_goOn
theorem dX8_where_0 : decode cX8_where 0 = .ok (.iload_n 1, 1) := by decide +kernel
theorem dX8_where_1 : decode cX8_where 1 = .ok (.iconst 0, 1) := by decide +kernel
theorem dX8_where_2 : decode cX8_where 2 = .ok (.sipush 999, 3) := by decide +kernel
theorem dX8_where_5 : decode cX8_where 5 = .ok (.invokestatic 73, 3) := by decide +kernel
theorem dX8_where_8 : decode cX8_where 8 = .ok (.ifCond .eq 12, 3) := by decide +kernel
theorem dX8_where_11 : decode cX8_where 11 = .ok (.iload_n 2, 1) := by decide +kernel
theorem dX8_where_12 : decode cX8_where 12 = .ok (.iconst 0, 1) := by decide +kernel
theorem dX8_where_13 : decode cX8_where 13 = .ok (.iconst 1, 1) := by decide +kernel
theorem dX8_where_14 : decode cX8_where 14 = .ok (.invokestatic 73, 3) := by decide +kernel
theorem dX8_where_17 : decode cX8_where 17 = .ok (.ifCond .ne 6, 3) := by decide +kernel
theorem dX8_where_20 : decode cX8_where 20 = .ok (.ldc 77, 2) := by decide +kernel
theorem dX8_where_22 : decode cX8_where 22 = .ok (.ireturn, 1) := by decide +kernel
theorem dX8_where_23 : decode cX8_where 23 = .ok (.aload_n 0, 1) := by decide +kernel
theorem dX8_where_24 : decode cX8_where 24 = .ok (.getfield 19, 3) := by decide +kernel
theorem dX8_where_27 : decode cX8_where 27 = .ok (.getfield 117, 3) := by decide +kernel
theorem dX8_where_30 : decode cX8_where 30 = .ok (.ifCond .ne 6, 3) := by decide +kernel
theorem dX8_where_33 : decode cX8_where 33 = .ok (.ldc 198, 2) := by decide +kernel
theorem dX8_where_35 : decode cX8_where 35 = .ok (.ireturn, 1) := by decide +kernel
theorem dX8_where_36 : decode cX8_where 36 = .ok (.aload_n 0, 1) := by decide +kernel
theorem dX8_where_37 : decode cX8_where 37 = .ok (.getfield 38, 3) := by decide +kernel
theorem dX8_where_40 : decode cX8_where 40 = .ok (.iload_n 1, 1) := by decide +kernel
theorem dX8_where_41 : decode cX8_where 41 = .ok (.invokevirtual 223, 3) := by decide +kernel
theorem dX8_where_44 : decode cX8_where 44 = .ok (.iload_n 2, 1) := by decide +kernel
theorem dX8_where_45 : decode cX8_where 45 = .ok (.ifCond .ne 16, 3) := by decide +kernel
theorem dX8_where_48 : decode cX8_where 48 = .ok (.aload_n 0, 1) := by decide +kernel
theorem dX8_where_49 : decode cX8_where 49 = .ok (.getfield 38, 3) := by decide +kernel
theorem dX8_where_52 : decode cX8_where 52 = .ok (.getfield 227, 3) := by decide +kernel
theorem dX8_where_55 : decode cX8_where 55 = .ok (.getfield 141, 3) := by decide +kernel
theorem dX8_where_58 : decode cX8_where 58 = .ok (.goto 13, 3) := by decide +kernel
theorem dX8_where_61 : decode cX8_where 61 = .ok (.aload_n 0, 1) := by decide +kernel
theorem dX8_where_62 : decode cX8_where 62 = .ok (.getfield 38, 3) := by decide +kernel
theorem dX8_where_65 : decode cX8_where 65 = .ok (.getfield 227, 3) := by decide +kernel
theorem dX8_where_68 : decode cX8_where 68 = .ok (.getfield 144, 3) := by decide +kernel
theorem dX8_where_71 : decode cX8_where 71 = .ok (.sipush 10000, 3) := by decide +kernel
theorem dX8_where_74 : decode cX8_where 74 = .ok (.iadd, 1) := by decide +kernel
theorem dX8_where_75 : decode cX8_where 75 = .ok (.ireturn, 1) := by decide +kernel
set_option maxRecDepth 20000 in
theorem ggX8_lostWhen_X8_cannotGoOn : GoodIn wsX8_lostWhen wsX8_cannotGoOn := goodIn_r _ [7, 8, 9, 10, 11, 86, 87, 88, 89, 90, 91, 92, 93, 94, 95, 96, 97, 98, 99, 100, 101, 102, 103, 104, 105, 106, 107, 108, 109, 110, 111, 112, 113, 114, 115, 116, 117, 118, 119] (by decide +kernel) (by decide +kernel)
set_option maxRecDepth 20000 in
theorem gX8_lostWhen_X8_cannotGoOn : GoodIn wsX8_lostWhen (wsV RX8 194 RX8 yX8_cannotGoOn wsX8_cannotGoOn) := goodIn_app (goodIn_of _ (by decide +kernel)) ggX8_lostWhen_X8_cannotGoOn
set_option maxRecDepth 20000 in
theorem ggX8_lostWhen_X7_minuteOfLoss : GoodIn wsX8_lostWhen wsX7_minuteOfLoss := goodIn_r _ [16, 17, 18, 19, 20, 21, 22, 15, 23, 24, 25, 26, 27, 28, 29, 30, 31, 32, 33, 34, 35, 36, 37, 38, 39, 40, 41, 42, 43, 44, 45, 46, 47, 48, 49, 50, 51, 52, 53, 54, 55, 56, 57, 58, 59, 60, 61, 62, 63, 64, 65, 66, 67, 68, 69, 70, 71, 72, 73, 74, 75, 76, 77, 78, 79, 80, 81, 82, 83, 84, 85, 120, 121, 122, 123, 124, 125, 108, 109, 110, 111, 112, 113, 114, 115, 116, 117, 118, 119, 96, 97, 98, 99, 100, 101, 102, 103, 104, 105, 106, 107] (by decide +kernel) (by decide +kernel)
set_option maxRecDepth 20000 in
theorem gX8_lostWhen_X7_minuteOfLoss : GoodIn wsX8_lostWhen (wsV RX8 230 RX7 yX7_minuteOfLoss wsX7_minuteOfLoss) := goodIn_app (goodIn_of _ (by decide +kernel)) ggX8_lostWhen_X7_minuteOfLoss
theorem dX8_lostWhen_0 : decode cX8_lostWhen 0 = .ok (.aload_n 0, 1) := by decide +kernel
theorem dX8_lostWhen_1 : decode cX8_lostWhen 1 = .ok (.invokevirtual 194, 3) := by decide +kernel
theorem dX8_lostWhen_4 : decode cX8_lostWhen 4 = .ok (.ifCond .eq 8, 3) := by decide +kernel
theorem dX8_lostWhen_7 : decode cX8_lostWhen 7 = .ok (.ldc 198, 2) := by decide +kernel
theorem dX8_lostWhen_9 : decode cX8_lostWhen 9 = .ok (.goto 10, 3) := by decide +kernel
theorem dX8_lostWhen_12 : decode cX8_lostWhen 12 = .ok (.aload_n 0, 1) := by decide +kernel
theorem dX8_lostWhen_13 : decode cX8_lostWhen 13 = .ok (.getfield 38, 3) := by decide +kernel
theorem dX8_lostWhen_16 : decode cX8_lostWhen 16 = .ok (.invokevirtual 230, 3) := by decide +kernel
theorem dX8_lostWhen_19 : decode cX8_lostWhen 19 = .ok (.ireturn, 1) := by decide +kernel
set_option maxRecDepth 20000 in
theorem ggX8_stretch_X8_isWithin : GoodIn wsX8_stretch wsX8_isWithin := goodIn_r _ [9] (by decide +kernel) (by decide +kernel)
set_option maxRecDepth 20000 in
theorem gX8_stretch_X8_isWithin : GoodIn wsX8_stretch (va_wsS RX8 73 yX8_isWithin wsX8_isWithin) := goodIn_app (goodIn_of _ (by decide +kernel)) ggX8_stretch_X8_isWithin
set_option maxRecDepth 20000 in
theorem ggX8_stretch_X7_longestWithin : GoodIn wsX8_stretch wsX7_longestWithin := goodIn_r _ [14, 15, 16, 17, 18, 19, 20, 13, 21, 22, 23, 24, 25, 26, 27, 28, 29, 30, 31, 32, 33, 34, 35, 36, 37, 38, 39, 40, 41, 42, 43, 44, 45, 46, 47, 48, 49, 50, 51, 52, 53, 54, 55, 56, 57, 58, 59, 60, 61, 62, 63, 64, 65, 66, 67, 68, 69, 70, 71, 72, 73, 74, 75, 76, 77, 78, 79, 80, 81, 82, 83, 106, 107, 108, 109, 110, 111, 112, 113, 114, 115, 116, 117, 118, 119, 120, 121, 122, 123, 94, 95, 96, 97, 98, 99, 100, 101, 102, 103, 104, 105] (by decide +kernel) (by decide +kernel)
set_option maxRecDepth 20000 in
theorem gX8_stretch_X7_longestWithin : GoodIn wsX8_stretch (wsV RX8 233 RX7 yX7_longestWithin wsX7_longestWithin) := goodIn_app (goodIn_of _ (by decide +kernel)) ggX8_stretch_X7_longestWithin
theorem dX8_stretch_0 : decode cX8_stretch 0 = .ok (.iload_n 1, 1) := by decide +kernel
theorem dX8_stretch_1 : decode cX8_stretch 1 = .ok (.iconst 0, 1) := by decide +kernel
theorem dX8_stretch_2 : decode cX8_stretch 2 = .ok (.sipush 999, 3) := by decide +kernel
theorem dX8_stretch_5 : decode cX8_stretch 5 = .ok (.invokestatic 73, 3) := by decide +kernel
theorem dX8_stretch_8 : decode cX8_stretch 8 = .ok (.ifCond .ne 6, 3) := by decide +kernel
theorem dX8_stretch_11 : decode cX8_stretch 11 = .ok (.ldc 77, 2) := by decide +kernel
theorem dX8_stretch_13 : decode cX8_stretch 13 = .ok (.ireturn, 1) := by decide +kernel
theorem dX8_stretch_14 : decode cX8_stretch 14 = .ok (.aload_n 0, 1) := by decide +kernel
theorem dX8_stretch_15 : decode cX8_stretch 15 = .ok (.getfield 19, 3) := by decide +kernel
theorem dX8_stretch_18 : decode cX8_stretch 18 = .ok (.getfield 117, 3) := by decide +kernel
theorem dX8_stretch_21 : decode cX8_stretch 21 = .ok (.ifCond .eq 14, 3) := by decide +kernel
theorem dX8_stretch_24 : decode cX8_stretch 24 = .ok (.aload_n 0, 1) := by decide +kernel
theorem dX8_stretch_25 : decode cX8_stretch 25 = .ok (.getfield 38, 3) := by decide +kernel
theorem dX8_stretch_28 : decode cX8_stretch 28 = .ok (.iload_n 1, 1) := by decide +kernel
theorem dX8_stretch_29 : decode cX8_stretch 29 = .ok (.invokevirtual 233, 3) := by decide +kernel
theorem dX8_stretch_32 : decode cX8_stretch 32 = .ok (.goto 5, 3) := by decide +kernel
theorem dX8_stretch_35 : decode cX8_stretch 35 = .ok (.ldc 198, 2) := by decide +kernel
theorem dX8_stretch_37 : decode cX8_stretch 37 = .ok (.ireturn, 1) := by decide +kernel
set_option maxRecDepth 20000 in
theorem ggX8_bestRule_X8_isWithin : GoodIn wsX8_bestRule wsX8_isWithin := goodIn_r _ [11] (by decide +kernel) (by decide +kernel)
set_option maxRecDepth 20000 in
theorem gX8_bestRule_X8_isWithin : GoodIn wsX8_bestRule (va_wsS RX8 73 yX8_isWithin wsX8_isWithin) := goodIn_app (goodIn_of _ (by decide +kernel)) ggX8_bestRule_X8_isWithin
set_option maxRecDepth 20000 in
theorem ggX8_bestRule_X7_findBestRule : GoodIn wsX8_bestRule wsX7_findBestRule := goodIn_r _ [16, 17, 18, 19, 20, 21, 22, 15, 23, 24, 25, 26, 27, 28, 29, 30, 31, 32, 33, 34, 35, 36, 37, 38, 39, 40, 41, 42, 43, 44, 45, 46, 47, 48, 49, 50, 51, 52, 53, 54, 55, 56, 57, 58, 59, 60, 61, 62, 63, 64, 65, 66, 67, 68, 69, 70, 71, 72, 73, 74, 75, 76, 77, 78, 79, 80, 81, 82, 83, 84, 85, 86, 87, 88, 89, 90, 91, 92, 93, 94, 95, 96, 97, 98, 99, 100, 101, 102, 103, 126, 127, 128, 129, 130, 131, 132, 133, 134, 135, 136, 137, 138, 139, 140, 141, 142, 143, 114, 115, 116, 117, 118, 119, 120, 121, 122, 123, 124, 125] (by decide +kernel) (by decide +kernel)
set_option maxRecDepth 20000 in
theorem gX8_bestRule_X7_findBestRule : GoodIn wsX8_bestRule (wsV RX8 236 RX7 yX7_findBestRule wsX7_findBestRule) := goodIn_app (goodIn_of _ (by decide +kernel)) ggX8_bestRule_X7_findBestRule
theorem dX8_bestRule_0 : decode cX8_bestRule 0 = .ok (.iload_n 1, 1) := by decide +kernel
theorem dX8_bestRule_1 : decode cX8_bestRule 1 = .ok (.iconst 1, 1) := by decide +kernel
theorem dX8_bestRule_2 : decode cX8_bestRule 2 = .ok (.sipush 200, 3) := by decide +kernel
theorem dX8_bestRule_5 : decode cX8_bestRule 5 = .ok (.invokestatic 73, 3) := by decide +kernel
theorem dX8_bestRule_8 : decode cX8_bestRule 8 = .ok (.ifCond .eq 12, 3) := by decide +kernel
theorem dX8_bestRule_11 : decode cX8_bestRule 11 = .ok (.iload_n 2, 1) := by decide +kernel
theorem dX8_bestRule_12 : decode cX8_bestRule 12 = .ok (.iconst 0, 1) := by decide +kernel
theorem dX8_bestRule_13 : decode cX8_bestRule 13 = .ok (.iconst 1, 1) := by decide +kernel
theorem dX8_bestRule_14 : decode cX8_bestRule 14 = .ok (.invokestatic 73, 3) := by decide +kernel
theorem dX8_bestRule_17 : decode cX8_bestRule 17 = .ok (.ifCond .ne 6, 3) := by decide +kernel
theorem dX8_bestRule_20 : decode cX8_bestRule 20 = .ok (.ldc 77, 2) := by decide +kernel
theorem dX8_bestRule_22 : decode cX8_bestRule 22 = .ok (.ireturn, 1) := by decide +kernel
theorem dX8_bestRule_23 : decode cX8_bestRule 23 = .ok (.aload_n 0, 1) := by decide +kernel
theorem dX8_bestRule_24 : decode cX8_bestRule 24 = .ok (.getfield 19, 3) := by decide +kernel
theorem dX8_bestRule_27 : decode cX8_bestRule 27 = .ok (.getfield 117, 3) := by decide +kernel
theorem dX8_bestRule_30 : decode cX8_bestRule 30 = .ok (.ifCond .ne 6, 3) := by decide +kernel
theorem dX8_bestRule_33 : decode cX8_bestRule 33 = .ok (.ldc 198, 2) := by decide +kernel
theorem dX8_bestRule_35 : decode cX8_bestRule 35 = .ok (.ireturn, 1) := by decide +kernel
theorem dX8_bestRule_36 : decode cX8_bestRule 36 = .ok (.aload_n 0, 1) := by decide +kernel
theorem dX8_bestRule_37 : decode cX8_bestRule 37 = .ok (.getfield 38, 3) := by decide +kernel
theorem dX8_bestRule_40 : decode cX8_bestRule 40 = .ok (.iload_n 1, 1) := by decide +kernel
theorem dX8_bestRule_41 : decode cX8_bestRule 41 = .ok (.invokevirtual 236, 3) := by decide +kernel
theorem dX8_bestRule_44 : decode cX8_bestRule 44 = .ok (.iload_n 2, 1) := by decide +kernel
theorem dX8_bestRule_45 : decode cX8_bestRule 45 = .ok (.ifCond .ne 13, 3) := by decide +kernel
theorem dX8_bestRule_48 : decode cX8_bestRule 48 = .ok (.aload_n 0, 1) := by decide +kernel
theorem dX8_bestRule_49 : decode cX8_bestRule 49 = .ok (.getfield 38, 3) := by decide +kernel
theorem dX8_bestRule_52 : decode cX8_bestRule 52 = .ok (.getfield 239, 3) := by decide +kernel
theorem dX8_bestRule_55 : decode cX8_bestRule 55 = .ok (.goto 10, 3) := by decide +kernel
theorem dX8_bestRule_58 : decode cX8_bestRule 58 = .ok (.aload_n 0, 1) := by decide +kernel
theorem dX8_bestRule_59 : decode cX8_bestRule 59 = .ok (.getfield 38, 3) := by decide +kernel
theorem dX8_bestRule_62 : decode cX8_bestRule 62 = .ok (.getfield 242, 3) := by decide +kernel
theorem dX8_bestRule_65 : decode cX8_bestRule 65 = .ok (.ireturn, 1) := by decide +kernel
set_option maxRecDepth 20000 in
theorem ggX8_nodded_X8_isRule : GoodIn wsX8_nodded wsX8_isRule := goodIn_r _ [9, 10, 11, 8, 12] (by decide +kernel) (by decide +kernel)
set_option maxRecDepth 20000 in
theorem gX8_nodded_X8_isRule : GoodIn wsX8_nodded (va_wsS RX8 205 yX8_isRule wsX8_isRule) := goodIn_app (goodIn_of _ (by decide +kernel)) ggX8_nodded_X8_isRule
set_option maxRecDepth 20000 in
theorem ggX8_nodded_X8_isWithin : GoodIn wsX8_nodded wsX8_isWithin := goodIn_r _ [12] (by decide +kernel) (by decide +kernel)
set_option maxRecDepth 20000 in
theorem gX8_nodded_X8_isWithin : GoodIn wsX8_nodded (va_wsS RX8 73 yX8_isWithin wsX8_isWithin) := goodIn_app (goodIn_of _ (by decide +kernel)) ggX8_nodded_X8_isWithin
set_option maxRecDepth 20000 in
theorem ggX8_nodded_X7_tailWithNod : GoodIn wsX8_nodded wsX7_tailWithNod := goodIn_r _ [17, 18, 19, 20, 21, 22, 23, 24, 16, 25, 26, 27, 28, 29, 30, 31, 32, 33, 34, 35, 36, 37, 38, 39, 40, 41, 42, 43, 44, 45, 46, 47, 48, 49, 50, 51, 52, 53, 54, 55, 56, 57, 58, 59, 60, 61, 62, 63, 64, 65, 66, 67, 68, 69, 70, 71, 72, 73, 74, 75, 76, 77, 78, 79, 80, 81, 82, 83, 84, 85, 86, 87, 88, 89, 90, 91, 92, 93, 94, 95, 96, 97, 98, 121, 122, 123, 124, 125, 126, 127, 128, 129, 130, 131, 132, 133, 134, 135, 136, 137, 138, 109, 110, 111, 112, 113, 114, 115, 116, 117, 118, 119, 120] (by decide +kernel) (by decide +kernel)
set_option maxRecDepth 20000 in
theorem gX8_nodded_X7_tailWithNod : GoodIn wsX8_nodded (wsV RX8 245 RX7 yX7_tailWithNod wsX7_tailWithNod) := goodIn_app (goodIn_of _ (by decide +kernel)) ggX8_nodded_X7_tailWithNod
theorem dX8_nodded_0 : decode cX8_nodded 0 = .ok (.iload_n 1, 1) := by decide +kernel
theorem dX8_nodded_1 : decode cX8_nodded 1 = .ok (.iload_n 2, 1) := by decide +kernel
theorem dX8_nodded_2 : decode cX8_nodded 2 = .ok (.invokestatic 205, 3) := by decide +kernel
theorem dX8_nodded_5 : decode cX8_nodded 5 = .ok (.ifCond .eq 36, 3) := by decide +kernel
theorem dX8_nodded_8 : decode cX8_nodded 8 = .ok (.iload_n 3, 1) := by decide +kernel
theorem dX8_nodded_9 : decode cX8_nodded 9 = .ok (.iconst 1, 1) := by decide +kernel
theorem dX8_nodded_10 : decode cX8_nodded 10 = .ok (.bipush 60, 2) := by decide +kernel
theorem dX8_nodded_12 : decode cX8_nodded 12 = .ok (.invokestatic 73, 3) := by decide +kernel
theorem dX8_nodded_15 : decode cX8_nodded 15 = .ok (.ifCond .eq 26, 3) := by decide +kernel
theorem dX8_nodded_18 : decode cX8_nodded 18 = .ok (.iload 4, 2) := by decide +kernel
theorem dX8_nodded_20 : decode cX8_nodded 20 = .ok (.iconst 1, 1) := by decide +kernel
theorem dX8_nodded_21 : decode cX8_nodded 21 = .ok (.bipush 20, 2) := by decide +kernel
theorem dX8_nodded_23 : decode cX8_nodded 23 = .ok (.invokestatic 73, 3) := by decide +kernel
theorem dX8_nodded_26 : decode cX8_nodded 26 = .ok (.ifCond .eq 15, 3) := by decide +kernel
theorem dX8_nodded_29 : decode cX8_nodded 29 = .ok (.iload 5, 2) := by decide +kernel
theorem dX8_nodded_31 : decode cX8_nodded 31 = .ok (.iconst 0, 1) := by decide +kernel
theorem dX8_nodded_32 : decode cX8_nodded 32 = .ok (.sipush 9999, 3) := by decide +kernel
theorem dX8_nodded_35 : decode cX8_nodded 35 = .ok (.invokestatic 73, 3) := by decide +kernel
theorem dX8_nodded_38 : decode cX8_nodded 38 = .ok (.ifCond .ne 6, 3) := by decide +kernel
theorem dX8_nodded_41 : decode cX8_nodded 41 = .ok (.ldc 77, 2) := by decide +kernel
theorem dX8_nodded_43 : decode cX8_nodded 43 = .ok (.ireturn, 1) := by decide +kernel
theorem dX8_nodded_44 : decode cX8_nodded 44 = .ok (.aload_n 0, 1) := by decide +kernel
theorem dX8_nodded_45 : decode cX8_nodded 45 = .ok (.getfield 19, 3) := by decide +kernel
theorem dX8_nodded_48 : decode cX8_nodded 48 = .ok (.getfield 117, 3) := by decide +kernel
theorem dX8_nodded_51 : decode cX8_nodded 51 = .ok (.ifCond .ne 6, 3) := by decide +kernel
theorem dX8_nodded_54 : decode cX8_nodded 54 = .ok (.ldc 198, 2) := by decide +kernel
theorem dX8_nodded_56 : decode cX8_nodded 56 = .ok (.ireturn, 1) := by decide +kernel
theorem dX8_nodded_57 : decode cX8_nodded 57 = .ok (.iconst 0, 1) := by decide +kernel
theorem dX8_nodded_58 : decode cX8_nodded 58 = .ok (.istore 7, 2) := by decide +kernel
theorem dX8_nodded_60 : decode cX8_nodded 60 = .ok (.iconst 0, 1) := by decide +kernel
theorem dX8_nodded_61 : decode cX8_nodded 61 = .ok (.istore 8, 2) := by decide +kernel
theorem dX8_nodded_63 : decode cX8_nodded 63 = .ok (.iload 8, 2) := by decide +kernel
theorem dX8_nodded_65 : decode cX8_nodded 65 = .ok (.iload_n 3, 1) := by decide +kernel
theorem dX8_nodded_66 : decode cX8_nodded 66 = .ok (.iload 4, 2) := by decide +kernel
theorem dX8_nodded_68 : decode cX8_nodded 68 = .ok (.isub, 1) := by decide +kernel
theorem dX8_nodded_69 : decode cX8_nodded 69 = .ok (.if_icmp .gt 44, 3) := by decide +kernel
theorem dX8_nodded_72 : decode cX8_nodded 72 = .ok (.aload_n 0, 1) := by decide +kernel
theorem dX8_nodded_73 : decode cX8_nodded 73 = .ok (.getfield 38, 3) := by decide +kernel
theorem dX8_nodded_76 : decode cX8_nodded 76 = .ok (.iload_n 1, 1) := by decide +kernel
theorem dX8_nodded_77 : decode cX8_nodded 77 = .ok (.iload_n 2, 1) := by decide +kernel
theorem dX8_nodded_78 : decode cX8_nodded 78 = .ok (.iload_n 3, 1) := by decide +kernel
theorem dX8_nodded_79 : decode cX8_nodded 79 = .ok (.iload 8, 2) := by decide +kernel
theorem dX8_nodded_81 : decode cX8_nodded 81 = .ok (.iload 8, 2) := by decide +kernel
theorem dX8_nodded_83 : decode cX8_nodded 83 = .ok (.iload 4, 2) := by decide +kernel
theorem dX8_nodded_85 : decode cX8_nodded 85 = .ok (.iadd, 1) := by decide +kernel
theorem dX8_nodded_86 : decode cX8_nodded 86 = .ok (.invokevirtual 245, 3) := by decide +kernel
theorem dX8_nodded_89 : decode cX8_nodded 89 = .ok (.iload 5, 2) := by decide +kernel
theorem dX8_nodded_91 : decode cX8_nodded 91 = .ok (.if_icmp .ne 16, 3) := by decide +kernel
theorem dX8_nodded_94 : decode cX8_nodded 94 = .ok (.iload 7, 2) := by decide +kernel
theorem dX8_nodded_96 : decode cX8_nodded 96 = .ok (.iload 6, 2) := by decide +kernel
theorem dX8_nodded_98 : decode cX8_nodded 98 = .ok (.if_icmp .ne 6, 3) := by decide +kernel
theorem dX8_nodded_101 : decode cX8_nodded 101 = .ok (.iload 8, 2) := by decide +kernel
theorem dX8_nodded_103 : decode cX8_nodded 103 = .ok (.ireturn, 1) := by decide +kernel
theorem dX8_nodded_104 : decode cX8_nodded 104 = .ok (.iinc 7 1, 3) := by decide +kernel
theorem dX8_nodded_107 : decode cX8_nodded 107 = .ok (.iinc 8 1, 3) := by decide +kernel
theorem dX8_nodded_110 : decode cX8_nodded 110 = .ok (.goto (-47), 3) := by decide +kernel
theorem dX8_nodded_113 : decode cX8_nodded 113 = .ok (.iload 6, 2) := by decide +kernel
theorem dX8_nodded_115 : decode cX8_nodded 115 = .ok (.iconst (-1), 1) := by decide +kernel
theorem dX8_nodded_116 : decode cX8_nodded 116 = .ok (.if_icmp .ne 8, 3) := by decide +kernel
theorem dX8_nodded_119 : decode cX8_nodded 119 = .ok (.iload 7, 2) := by decide +kernel
theorem dX8_nodded_121 : decode cX8_nodded 121 = .ok (.goto 4, 3) := by decide +kernel
theorem dX8_nodded_124 : decode cX8_nodded 124 = .ok (.iconst (-1), 1) := by decide +kernel
theorem dX8_nodded_125 : decode cX8_nodded 125 = .ok (.ireturn, 1) := by decide +kernel
set_option maxRecDepth 20000 in
theorem ggX8_guide_X8_isWithin : GoodIn wsX8_guide wsX8_isWithin := goodIn_r _ [6] (by decide +kernel) (by decide +kernel)
set_option maxRecDepth 20000 in
theorem gX8_guide_X8_isWithin : GoodIn wsX8_guide (va_wsS RX8 73 yX8_isWithin wsX8_isWithin) := goodIn_app (goodIn_of _ (by decide +kernel)) ggX8_guide_X8_isWithin
set_option maxRecDepth 20000 in
theorem ggX8_guide_X3_starToGuideBy : GoodIn wsX8_guide wsX3_starToGuideBy := goodIn_r _ [11, 12, 13, 14, 15, 10, 16, 17, 18, 19, 20, 21, 22, 23, 24, 25, 26, 37, 38, 39, 40, 41, 42, 43, 44, 45, 46, 47, 48] (by decide +kernel) (by decide +kernel)
set_option maxRecDepth 20000 in
theorem gX8_guide_X3_starToGuideBy : GoodIn wsX8_guide (wsV RX8 249 RX3 yX3_starToGuideBy wsX3_starToGuideBy) := goodIn_app (goodIn_of _ (by decide +kernel)) ggX8_guide_X3_starToGuideBy
theorem dX8_guide_0 : decode cX8_guide 0 = .ok (.iload_n 1, 1) := by decide +kernel
theorem dX8_guide_1 : decode cX8_guide 1 = .ok (.iconst 1, 1) := by decide +kernel
theorem dX8_guide_2 : decode cX8_guide 2 = .ok (.bipush 9, 2) := by decide +kernel
theorem dX8_guide_4 : decode cX8_guide 4 = .ok (.invokestatic 73, 3) := by decide +kernel
theorem dX8_guide_7 : decode cX8_guide 7 = .ok (.ifCond .eq 14, 3) := by decide +kernel
theorem dX8_guide_10 : decode cX8_guide 10 = .ok (.aload_n 0, 1) := by decide +kernel
theorem dX8_guide_11 : decode cX8_guide 11 = .ok (.getfield 19, 3) := by decide +kernel
theorem dX8_guide_14 : decode cX8_guide 14 = .ok (.iload_n 1, 1) := by decide +kernel
theorem dX8_guide_15 : decode cX8_guide 15 = .ok (.invokevirtual 249, 3) := by decide +kernel
theorem dX8_guide_18 : decode cX8_guide 18 = .ok (.goto 5, 3) := by decide +kernel
theorem dX8_guide_21 : decode cX8_guide 21 = .ok (.ldc 77, 2) := by decide +kernel
theorem dX8_guide_23 : decode cX8_guide 23 = .ok (.ireturn, 1) := by decide +kernel
set_option maxRecDepth 20000 in
theorem ggX8_turns_X8_isWithin : GoodIn wsX8_turns wsX8_isWithin := goodIn_r _ [13] (by decide +kernel) (by decide +kernel)
set_option maxRecDepth 20000 in
theorem gX8_turns_X8_isWithin : GoodIn wsX8_turns (va_wsS RX8 73 yX8_isWithin wsX8_isWithin) := goodIn_app (goodIn_of _ (by decide +kernel)) ggX8_turns_X8_isWithin
theorem dX8_turns_0 : decode cX8_turns 0 = .ok (.iload_n 1, 1) := by decide +kernel
theorem dX8_turns_1 : decode cX8_turns 1 = .ok (.iconst 0, 1) := by decide +kernel
theorem dX8_turns_2 : decode cX8_turns 2 = .ok (.bipush 99, 2) := by decide +kernel
theorem dX8_turns_4 : decode cX8_turns 4 = .ok (.invokestatic 73, 3) := by decide +kernel
theorem dX8_turns_7 : decode cX8_turns 7 = .ok (.ifCond .eq 14, 3) := by decide +kernel
theorem dX8_turns_10 : decode cX8_turns 10 = .ok (.iload_n 2, 1) := by decide +kernel
theorem dX8_turns_11 : decode cX8_turns 11 = .ok (.iconst 0, 1) := by decide +kernel
theorem dX8_turns_12 : decode cX8_turns 12 = .ok (.sipush 999, 3) := by decide +kernel
theorem dX8_turns_15 : decode cX8_turns 15 = .ok (.invokestatic 73, 3) := by decide +kernel
theorem dX8_turns_18 : decode cX8_turns 18 = .ok (.ifCond .ne 6, 3) := by decide +kernel
theorem dX8_turns_21 : decode cX8_turns 21 = .ok (.ldc 77, 2) := by decide +kernel
theorem dX8_turns_23 : decode cX8_turns 23 = .ok (.ireturn, 1) := by decide +kernel
theorem dX8_turns_24 : decode cX8_turns 24 = .ok (.aload_n 0, 1) := by decide +kernel
theorem dX8_turns_25 : decode cX8_turns 25 = .ok (.getfield 19, 3) := by decide +kernel
theorem dX8_turns_28 : decode cX8_turns 28 = .ok (.getfield 117, 3) := by decide +kernel
theorem dX8_turns_31 : decode cX8_turns 31 = .ok (.ifCond .eq 23, 3) := by decide +kernel
theorem dX8_turns_34 : decode cX8_turns 34 = .ok (.iload_n 1, 1) := by decide +kernel
theorem dX8_turns_35 : decode cX8_turns 35 = .ok (.aload_n 0, 1) := by decide +kernel
theorem dX8_turns_36 : decode cX8_turns 36 = .ok (.getfield 19, 3) := by decide +kernel
theorem dX8_turns_39 : decode cX8_turns 39 = .ok (.getfield 123, 3) := by decide +kernel
theorem dX8_turns_42 : decode cX8_turns 42 = .ok (.invokestatic 252, 3) := by decide +kernel
theorem dX8_turns_45 : decode cX8_turns 45 = .ok (.imul, 1) := by decide +kernel
theorem dX8_turns_46 : decode cX8_turns 46 = .ok (.iload_n 2, 1) := by decide +kernel
theorem dX8_turns_47 : decode cX8_turns 47 = .ok (.imul, 1) := by decide +kernel
theorem dX8_turns_48 : decode cX8_turns 48 = .ok (.bipush 100, 2) := by decide +kernel
theorem dX8_turns_50 : decode cX8_turns 50 = .ok (.idiv, 1) := by decide +kernel
theorem dX8_turns_51 : decode cX8_turns 51 = .ok (.goto 5, 3) := by decide +kernel
theorem dX8_turns_54 : decode cX8_turns 54 = .ok (.ldc 198, 2) := by decide +kernel
theorem dX8_turns_56 : decode cX8_turns 56 = .ok (.ireturn, 1) := by decide +kernel
set_option maxRecDepth 20000 in
theorem ggX8_stop_X8_isWithin : GoodIn wsX8_stop wsX8_isWithin := goodIn_r _ [7] (by decide +kernel) (by decide +kernel)
set_option maxRecDepth 20000 in
theorem gX8_stop_X8_isWithin : GoodIn wsX8_stop (va_wsS RX8 73 yX8_isWithin wsX8_isWithin) := goodIn_app (goodIn_of _ (by decide +kernel)) ggX8_stop_X8_isWithin
set_option maxRecDepth 20000 in
theorem ggX8_stop_X8_cannotGoOn : GoodIn wsX8_stop wsX8_cannotGoOn := goodIn_r _ [11, 12, 13, 14, 15, 91, 92, 93, 94, 95, 96, 97, 98, 99, 100, 101, 102, 103, 104, 105, 106, 107, 108, 109, 110, 111, 112, 113, 114, 115, 116, 117, 118, 119, 120, 121, 122, 123, 124] (by decide +kernel) (by decide +kernel)
set_option maxRecDepth 20000 in
theorem gX8_stop_X8_cannotGoOn : GoodIn wsX8_stop (wsV RX8 194 RX8 yX8_cannotGoOn wsX8_cannotGoOn) := goodIn_app (goodIn_of _ (by decide +kernel)) ggX8_stop_X8_cannotGoOn
set_option maxRecDepth 20000 in
theorem ggX8_stop_X7_minutesToLight : GoodIn wsX8_stop wsX7_minutesToLight := goodIn_r _ [20, 21, 22, 23, 24, 25, 26, 27, 28, 29, 30, 31, 19, 32, 33, 34, 35, 36, 37, 38, 39, 40, 41, 42, 43, 44, 45, 46, 47, 48, 49, 50, 51, 52, 53, 54, 55, 56, 57, 58, 59, 60, 61, 62, 63, 64, 65, 66, 67, 68, 69, 70, 71, 72, 73, 74, 75, 76, 77, 78, 79, 80, 81, 82, 83, 84, 85, 86, 87, 88, 89, 90, 125, 126, 127, 128, 129, 130, 113, 114, 115, 116, 117, 118, 119, 120, 121, 122, 123, 124, 101, 102, 103, 104, 105, 106, 107, 108, 109, 110, 111, 112] (by decide +kernel) (by decide +kernel)
set_option maxRecDepth 20000 in
theorem gX8_stop_X7_minutesToLight : GoodIn wsX8_stop (wsV RX8 257 RX7 yX7_minutesToLight wsX7_minutesToLight) := goodIn_app (goodIn_of _ (by decide +kernel)) ggX8_stop_X7_minutesToLight
theorem dX8_stop_0 : decode cX8_stop 0 = .ok (.iload_n 1, 1) := by decide +kernel
theorem dX8_stop_1 : decode cX8_stop 1 = .ok (.iconst 0, 1) := by decide +kernel
theorem dX8_stop_2 : decode cX8_stop 2 = .ok (.sipush 999, 3) := by decide +kernel
theorem dX8_stop_5 : decode cX8_stop 5 = .ok (.invokestatic 73, 3) := by decide +kernel
theorem dX8_stop_8 : decode cX8_stop 8 = .ok (.ifCond .ne 6, 3) := by decide +kernel
theorem dX8_stop_11 : decode cX8_stop 11 = .ok (.ldc 77, 2) := by decide +kernel
theorem dX8_stop_13 : decode cX8_stop 13 = .ok (.ireturn, 1) := by decide +kernel
theorem dX8_stop_14 : decode cX8_stop 14 = .ok (.aload_n 0, 1) := by decide +kernel
theorem dX8_stop_15 : decode cX8_stop 15 = .ok (.invokevirtual 194, 3) := by decide +kernel
theorem dX8_stop_18 : decode cX8_stop 18 = .ok (.ifCond .eq 8, 3) := by decide +kernel
theorem dX8_stop_21 : decode cX8_stop 21 = .ok (.ldc 198, 2) := by decide +kernel
theorem dX8_stop_23 : decode cX8_stop 23 = .ok (.goto 11, 3) := by decide +kernel
theorem dX8_stop_26 : decode cX8_stop 26 = .ok (.aload_n 0, 1) := by decide +kernel
theorem dX8_stop_27 : decode cX8_stop 27 = .ok (.getfield 38, 3) := by decide +kernel
theorem dX8_stop_30 : decode cX8_stop 30 = .ok (.iload_n 1, 1) := by decide +kernel
theorem dX8_stop_31 : decode cX8_stop 31 = .ok (.invokevirtual 257, 3) := by decide +kernel
theorem dX8_stop_34 : decode cX8_stop 34 = .ok (.ireturn, 1) := by decide +kernel
set_option maxRecDepth 20000 in
theorem ggX8_nods_X8_isWithin : GoodIn wsX8_nods wsX8_isWithin := goodIn_r _ [7] (by decide +kernel) (by decide +kernel)
set_option maxRecDepth 20000 in
theorem gX8_nods_X8_isWithin : GoodIn wsX8_nods (va_wsS RX8 73 yX8_isWithin wsX8_isWithin) := goodIn_app (goodIn_of _ (by decide +kernel)) ggX8_nods_X8_isWithin
theorem dX8_nods_0 : decode cX8_nods 0 = .ok (.iload_n 1, 1) := by decide +kernel
theorem dX8_nods_1 : decode cX8_nods 1 = .ok (.iconst 0, 1) := by decide +kernel
theorem dX8_nods_2 : decode cX8_nods 2 = .ok (.bipush 99, 2) := by decide +kernel
theorem dX8_nods_4 : decode cX8_nods 4 = .ok (.invokestatic 73, 3) := by decide +kernel
theorem dX8_nods_7 : decode cX8_nods 7 = .ok (.ifCond .eq 13, 3) := by decide +kernel
theorem dX8_nods_10 : decode cX8_nods 10 = .ok (.iload_n 2, 1) := by decide +kernel
theorem dX8_nods_11 : decode cX8_nods 11 = .ok (.iconst 0, 1) := by decide +kernel
theorem dX8_nods_12 : decode cX8_nods 12 = .ok (.bipush 100, 2) := by decide +kernel
theorem dX8_nods_14 : decode cX8_nods 14 = .ok (.invokestatic 73, 3) := by decide +kernel
theorem dX8_nods_17 : decode cX8_nods 17 = .ok (.ifCond .ne 6, 3) := by decide +kernel
theorem dX8_nods_20 : decode cX8_nods 20 = .ok (.ldc 77, 2) := by decide +kernel
theorem dX8_nods_22 : decode cX8_nods 22 = .ok (.ireturn, 1) := by decide +kernel
theorem dX8_nods_23 : decode cX8_nods 23 = .ok (.ldc2_w 260, 3) := by decide +kernel
theorem dX8_nods_26 : decode cX8_nods 26 = .ok (.lstore_n 3, 1) := by decide +kernel
theorem dX8_nods_27 : decode cX8_nods 27 = .ok (.iconst 0, 1) := by decide +kernel
theorem dX8_nods_28 : decode cX8_nods 28 = .ok (.istore 5, 2) := by decide +kernel
theorem dX8_nods_30 : decode cX8_nods 30 = .ok (.iload 5, 2) := by decide +kernel
theorem dX8_nods_32 : decode cX8_nods 32 = .ok (.iload_n 1, 1) := by decide +kernel
theorem dX8_nods_33 : decode cX8_nods 33 = .ok (.if_icmp .ge 21, 3) := by decide +kernel
theorem dX8_nods_36 : decode cX8_nods 36 = .ok (.lload_n 3, 1) := by decide +kernel
theorem dX8_nods_37 : decode cX8_nods 37 = .ok (.bipush 100, 2) := by decide +kernel
theorem dX8_nods_39 : decode cX8_nods 39 = .ok (.iload_n 2, 1) := by decide +kernel
theorem dX8_nods_40 : decode cX8_nods 40 = .ok (.isub, 1) := by decide +kernel
theorem dX8_nods_41 : decode cX8_nods 41 = .ok (.i2l, 1) := by decide +kernel
theorem dX8_nods_42 : decode cX8_nods 42 = .ok (.lmul, 1) := by decide +kernel
theorem dX8_nods_43 : decode cX8_nods 43 = .ok (.ldc2_w 262, 3) := by decide +kernel
theorem dX8_nods_46 : decode cX8_nods 46 = .ok (.ldiv, 1) := by decide +kernel
theorem dX8_nods_47 : decode cX8_nods 47 = .ok (.lstore_n 3, 1) := by decide +kernel
theorem dX8_nods_48 : decode cX8_nods 48 = .ok (.iinc 5 1, 3) := by decide +kernel
theorem dX8_nods_51 : decode cX8_nods 51 = .ok (.goto (-21), 3) := by decide +kernel
theorem dX8_nods_54 : decode cX8_nods 54 = .ok (.lload_n 3, 1) := by decide +kernel
theorem dX8_nods_55 : decode cX8_nods 55 = .ok (.l2i, 1) := by decide +kernel
theorem dX8_nods_56 : decode cX8_nods 56 = .ok (.ireturn, 1) := by decide +kernel
set_option maxRecDepth 20000 in
theorem ggX8_see_X8_isWithin : GoodIn wsX8_see wsX8_isWithin := goodIn_r _ [8] (by decide +kernel) (by decide +kernel)
set_option maxRecDepth 20000 in
theorem gX8_see_X8_isWithin : GoodIn wsX8_see (va_wsS RX8 73 yX8_isWithin wsX8_isWithin) := goodIn_app (goodIn_of _ (by decide +kernel)) ggX8_see_X8_isWithin
set_option maxRecDepth 20000 in
theorem ggX8_see_X5_addSeen : GoodIn wsX8_see wsX5_addSeen := goodIn_r _ [13, 14, 15, 16, 17, 18, 12, 19, 30, 31, 32, 33, 34, 35, 36, 37, 38] (by decide +kernel) (by decide +kernel)
set_option maxRecDepth 20000 in
theorem gX8_see_X5_addSeen : GoodIn wsX8_see (wsV RX8 264 RX5 yX5_addSeen wsX5_addSeen) := goodIn_app (goodIn_of _ (by decide +kernel)) ggX8_see_X5_addSeen
theorem dX8_see_0 : decode cX8_see 0 = .ok (.iload_n 1, 1) := by decide +kernel
theorem dX8_see_1 : decode cX8_see 1 = .ok (.iconst 0, 1) := by decide +kernel
theorem dX8_see_2 : decode cX8_see 2 = .ok (.sipush 999, 3) := by decide +kernel
theorem dX8_see_5 : decode cX8_see 5 = .ok (.invokestatic 73, 3) := by decide +kernel
theorem dX8_see_8 : decode cX8_see 8 = .ok (.ifCond .eq 16, 3) := by decide +kernel
theorem dX8_see_11 : decode cX8_see 11 = .ok (.iload_n 2, 1) := by decide +kernel
theorem dX8_see_12 : decode cX8_see 12 = .ok (.sipush (-150), 3) := by decide +kernel
theorem dX8_see_15 : decode cX8_see 15 = .ok (.sipush 150, 3) := by decide +kernel
theorem dX8_see_18 : decode cX8_see 18 = .ok (.invokestatic 73, 3) := by decide +kernel
theorem dX8_see_21 : decode cX8_see 21 = .ok (.ifCond .ne 6, 3) := by decide +kernel
theorem dX8_see_24 : decode cX8_see 24 = .ok (.ldc 77, 2) := by decide +kernel
theorem dX8_see_26 : decode cX8_see 26 = .ok (.ireturn, 1) := by decide +kernel
theorem dX8_see_27 : decode cX8_see 27 = .ok (.aload_n 0, 1) := by decide +kernel
theorem dX8_see_28 : decode cX8_see 28 = .ok (.getfield 52, 3) := by decide +kernel
theorem dX8_see_31 : decode cX8_see 31 = .ok (.iload_n 1, 1) := by decide +kernel
theorem dX8_see_32 : decode cX8_see 32 = .ok (.iload_n 2, 1) := by decide +kernel
theorem dX8_see_33 : decode cX8_see 33 = .ok (.invokevirtual 264, 3) := by decide +kernel
theorem dX8_see_36 : decode cX8_see 36 = .ok (.ifCond .eq 13, 3) := by decide +kernel
theorem dX8_see_39 : decode cX8_see 39 = .ok (.aload_n 0, 1) := by decide +kernel
theorem dX8_see_40 : decode cX8_see 40 = .ok (.getfield 52, 3) := by decide +kernel
theorem dX8_see_43 : decode cX8_see 43 = .ok (.getfield 160, 3) := by decide +kernel
theorem dX8_see_46 : decode cX8_see 46 = .ok (.goto 5, 3) := by decide +kernel
theorem dX8_see_49 : decode cX8_see 49 = .ok (.ldc 86, 2) := by decide +kernel
theorem dX8_see_51 : decode cX8_see 51 = .ok (.ireturn, 1) := by decide +kernel
set_option maxRecDepth 20000 in
theorem ggX8_fits_X8_isWithin : GoodIn wsX8_fits wsX8_isWithin := goodIn_r _ [8] (by decide +kernel) (by decide +kernel)
set_option maxRecDepth 20000 in
theorem gX8_fits_X8_isWithin : GoodIn wsX8_fits (va_wsS RX8 73 yX8_isWithin wsX8_isWithin) := goodIn_app (goodIn_of _ (by decide +kernel)) ggX8_fits_X8_isWithin
set_option maxRecDepth 20000 in
theorem ggX8_fits_X5_isWormFit : GoodIn wsX8_fits wsX5_isWormFit := goodIn_r _ [13, 14, 15, 16, 17, 18, 19, 12, 20, 21, 22, 23, 24, 25, 26, 27, 28, 29, 30, 53, 54, 55, 56, 57, 58, 59, 60, 61, 41, 42, 43, 44, 45, 46, 47, 48, 49, 50, 51, 52] (by decide +kernel) (by decide +kernel)
set_option maxRecDepth 20000 in
theorem gX8_fits_X5_isWormFit : GoodIn wsX8_fits (wsV RX8 267 RX5 yX5_isWormFit wsX5_isWormFit) := goodIn_app (goodIn_of _ (by decide +kernel)) ggX8_fits_X5_isWormFit
theorem dX8_fits_0 : decode cX8_fits 0 = .ok (.iload_n 1, 1) := by decide +kernel
theorem dX8_fits_1 : decode cX8_fits 1 = .ok (.iconst 0, 1) := by decide +kernel
theorem dX8_fits_2 : decode cX8_fits 2 = .ok (.aload_n 0, 1) := by decide +kernel
theorem dX8_fits_3 : decode cX8_fits 3 = .ok (.getfield 19, 3) := by decide +kernel
theorem dX8_fits_6 : decode cX8_fits 6 = .ok (.getfield 129, 3) := by decide +kernel
theorem dX8_fits_9 : decode cX8_fits 9 = .ok (.iconst 1, 1) := by decide +kernel
theorem dX8_fits_10 : decode cX8_fits 10 = .ok (.isub, 1) := by decide +kernel
theorem dX8_fits_11 : decode cX8_fits 11 = .ok (.invokestatic 73, 3) := by decide +kernel
theorem dX8_fits_14 : decode cX8_fits 14 = .ok (.ifCond .eq 12, 3) := by decide +kernel
theorem dX8_fits_17 : decode cX8_fits 17 = .ok (.iload_n 2, 1) := by decide +kernel
theorem dX8_fits_18 : decode cX8_fits 18 = .ok (.iconst 0, 1) := by decide +kernel
theorem dX8_fits_19 : decode cX8_fits 19 = .ok (.iconst 1, 1) := by decide +kernel
theorem dX8_fits_20 : decode cX8_fits 20 = .ok (.invokestatic 73, 3) := by decide +kernel
theorem dX8_fits_23 : decode cX8_fits 23 = .ok (.ifCond .ne 6, 3) := by decide +kernel
theorem dX8_fits_26 : decode cX8_fits 26 = .ok (.ldc 77, 2) := by decide +kernel
theorem dX8_fits_28 : decode cX8_fits 28 = .ok (.ireturn, 1) := by decide +kernel
theorem dX8_fits_29 : decode cX8_fits 29 = .ok (.iconst 0, 1) := by decide +kernel
theorem dX8_fits_30 : decode cX8_fits 30 = .ok (.istore_n 3, 1) := by decide +kernel
theorem dX8_fits_31 : decode cX8_fits 31 = .ok (.iconst (-1), 1) := by decide +kernel
theorem dX8_fits_32 : decode cX8_fits 32 = .ok (.istore 4, 2) := by decide +kernel
theorem dX8_fits_34 : decode cX8_fits 34 = .ok (.bipush (-9), 2) := by decide +kernel
theorem dX8_fits_36 : decode cX8_fits 36 = .ok (.istore 5, 2) := by decide +kernel
theorem dX8_fits_38 : decode cX8_fits 38 = .ok (.iload 5, 2) := by decide +kernel
theorem dX8_fits_40 : decode cX8_fits 40 = .ok (.bipush 9, 2) := by decide +kernel
theorem dX8_fits_42 : decode cX8_fits 42 = .ok (.if_icmp .gt 52, 3) := by decide +kernel
theorem dX8_fits_45 : decode cX8_fits 45 = .ok (.aload_n 0, 1) := by decide +kernel
theorem dX8_fits_46 : decode cX8_fits 46 = .ok (.getfield 52, 3) := by decide +kernel
theorem dX8_fits_49 : decode cX8_fits 49 = .ok (.aload_n 0, 1) := by decide +kernel
theorem dX8_fits_50 : decode cX8_fits 50 = .ok (.getfield 19, 3) := by decide +kernel
theorem dX8_fits_53 : decode cX8_fits 53 = .ok (.aload_n 0, 1) := by decide +kernel
theorem dX8_fits_54 : decode cX8_fits 54 = .ok (.getfield 19, 3) := by decide +kernel
theorem dX8_fits_57 : decode cX8_fits 57 = .ok (.getfield 129, 3) := by decide +kernel
theorem dX8_fits_60 : decode cX8_fits 60 = .ok (.iload_n 1, 1) := by decide +kernel
theorem dX8_fits_61 : decode cX8_fits 61 = .ok (.iload 5, 2) := by decide +kernel
theorem dX8_fits_63 : decode cX8_fits 63 = .ok (.invokevirtual 267, 3) := by decide +kernel
theorem dX8_fits_66 : decode cX8_fits 66 = .ok (.ifCond .eq 22, 3) := by decide +kernel
theorem dX8_fits_69 : decode cX8_fits 69 = .ok (.iload_n 3, 1) := by decide +kernel
theorem dX8_fits_70 : decode cX8_fits 70 = .ok (.ifCond .ne 11, 3) := by decide +kernel
theorem dX8_fits_73 : decode cX8_fits 73 = .ok (.iload 5, 2) := by decide +kernel
theorem dX8_fits_75 : decode cX8_fits 75 = .ok (.bipush 9, 2) := by decide +kernel
theorem dX8_fits_77 : decode cX8_fits 77 = .ok (.iadd, 1) := by decide +kernel
theorem dX8_fits_78 : decode cX8_fits 78 = .ok (.goto 5, 3) := by decide +kernel
theorem dX8_fits_81 : decode cX8_fits 81 = .ok (.iload 4, 2) := by decide +kernel
theorem dX8_fits_83 : decode cX8_fits 83 = .ok (.istore 4, 2) := by decide +kernel
theorem dX8_fits_85 : decode cX8_fits 85 = .ok (.iinc 3 1, 3) := by decide +kernel
theorem dX8_fits_88 : decode cX8_fits 88 = .ok (.iinc 5 1, 3) := by decide +kernel
theorem dX8_fits_91 : decode cX8_fits 91 = .ok (.goto (-53), 3) := by decide +kernel
theorem dX8_fits_94 : decode cX8_fits 94 = .ok (.iload_n 2, 1) := by decide +kernel
theorem dX8_fits_95 : decode cX8_fits 95 = .ok (.ifCond .ne 7, 3) := by decide +kernel
theorem dX8_fits_98 : decode cX8_fits 98 = .ok (.iload_n 3, 1) := by decide +kernel
theorem dX8_fits_99 : decode cX8_fits 99 = .ok (.goto 5, 3) := by decide +kernel
theorem dX8_fits_102 : decode cX8_fits 102 = .ok (.iload 4, 2) := by decide +kernel
theorem dX8_fits_104 : decode cX8_fits 104 = .ok (.ireturn, 1) := by decide +kernel
set_option maxRecDepth 20000 in
theorem ggX8_periods_X5_isPeriod : GoodIn wsX8_periods wsX5_isPeriod := goodIn_r _ [7, 8, 9, 10, 6, 11, 12, 13, 14, 15, 16, 17, 18, 19, 20, 21, 22, 23, 24, 25, 26, 27, 28, 39, 40, 41, 42, 43, 44, 45, 46, 47, 48, 49, 50, 51, 52, 53, 54, 55, 56, 57, 58, 59] (by decide +kernel) (by decide +kernel)
set_option maxRecDepth 20000 in
theorem gX8_periods_X5_isPeriod : GoodIn wsX8_periods (wsV RX8 271 RX5 yX5_isPeriod wsX5_isPeriod) := goodIn_app (goodIn_of _ (by decide +kernel)) ggX8_periods_X5_isPeriod
theorem dX8_periods_0 : decode cX8_periods 0 = .ok (.iconst 0, 1) := by decide +kernel
theorem dX8_periods_1 : decode cX8_periods 1 = .ok (.istore_n 1, 1) := by decide +kernel
theorem dX8_periods_2 : decode cX8_periods 2 = .ok (.iconst 1, 1) := by decide +kernel
theorem dX8_periods_3 : decode cX8_periods 3 = .ok (.istore_n 2, 1) := by decide +kernel
theorem dX8_periods_4 : decode cX8_periods 4 = .ok (.iload_n 2, 1) := by decide +kernel
theorem dX8_periods_5 : decode cX8_periods 5 = .ok (.bipush 9, 2) := by decide +kernel
theorem dX8_periods_7 : decode cX8_periods 7 = .ok (.if_icmp .gt 30, 3) := by decide +kernel
theorem dX8_periods_10 : decode cX8_periods 10 = .ok (.aload_n 0, 1) := by decide +kernel
theorem dX8_periods_11 : decode cX8_periods 11 = .ok (.getfield 52, 3) := by decide +kernel
theorem dX8_periods_14 : decode cX8_periods 14 = .ok (.aload_n 0, 1) := by decide +kernel
theorem dX8_periods_15 : decode cX8_periods 15 = .ok (.getfield 19, 3) := by decide +kernel
theorem dX8_periods_18 : decode cX8_periods 18 = .ok (.iload_n 2, 1) := by decide +kernel
theorem dX8_periods_19 : decode cX8_periods 19 = .ok (.invokevirtual 271, 3) := by decide +kernel
theorem dX8_periods_22 : decode cX8_periods 22 = .ok (.ifCond .eq 9, 3) := by decide +kernel
theorem dX8_periods_25 : decode cX8_periods 25 = .ok (.iload_n 1, 1) := by decide +kernel
theorem dX8_periods_26 : decode cX8_periods 26 = .ok (.iconst 1, 1) := by decide +kernel
theorem dX8_periods_27 : decode cX8_periods 27 = .ok (.iload_n 2, 1) := by decide +kernel
theorem dX8_periods_28 : decode cX8_periods 28 = .ok (.ishl, 1) := by decide +kernel
theorem dX8_periods_29 : decode cX8_periods 29 = .ok (.ior, 1) := by decide +kernel
theorem dX8_periods_30 : decode cX8_periods 30 = .ok (.istore_n 1, 1) := by decide +kernel
theorem dX8_periods_31 : decode cX8_periods 31 = .ok (.iinc 2 1, 3) := by decide +kernel
theorem dX8_periods_34 : decode cX8_periods 34 = .ok (.goto (-30), 3) := by decide +kernel
theorem dX8_periods_37 : decode cX8_periods 37 = .ok (.iload_n 1, 1) := by decide +kernel
theorem dX8_periods_38 : decode cX8_periods 38 = .ok (.ireturn, 1) := by decide +kernel
set_option maxRecDepth 20000 in
theorem ggX8_look_X5_hasSeenPlaceOf : GoodIn wsX8_look wsX5_hasSeenPlaceOf := goodIn_r _ [12, 13, 14, 15, 16, 11, 17, 18, 19, 20, 55, 56, 57, 58, 59, 60, 61, 62, 63] (by decide +kernel) (by decide +kernel)
set_option maxRecDepth 20000 in
theorem gX8_look_X5_hasSeenPlaceOf : GoodIn wsX8_look (wsV RX8 275 RX5 yX5_hasSeenPlaceOf wsX5_hasSeenPlaceOf) := goodIn_app (goodIn_of _ (by decide +kernel)) ggX8_look_X5_hasSeenPlaceOf
theorem dX8_look_0 : decode cX8_look 0 = .ok (.aload_n 0, 1) := by decide +kernel
theorem dX8_look_1 : decode cX8_look 1 = .ok (.getfield 19, 3) := by decide +kernel
theorem dX8_look_4 : decode cX8_look 4 = .ok (.getfield 117, 3) := by decide +kernel
theorem dX8_look_7 : decode cX8_look 7 = .ok (.ifCond .ne 6, 3) := by decide +kernel
theorem dX8_look_10 : decode cX8_look 10 = .ok (.ldc 198, 2) := by decide +kernel
theorem dX8_look_12 : decode cX8_look 12 = .ok (.ireturn, 1) := by decide +kernel
theorem dX8_look_13 : decode cX8_look 13 = .ok (.aload_n 0, 1) := by decide +kernel
theorem dX8_look_14 : decode cX8_look 14 = .ok (.getfield 29, 3) := by decide +kernel
theorem dX8_look_17 : decode cX8_look 17 = .ok (.getfield 97, 3) := by decide +kernel
theorem dX8_look_20 : decode cX8_look 20 = .ok (.istore_n 1, 1) := by decide +kernel
theorem dX8_look_21 : decode cX8_look 21 = .ok (.iload_n 1, 1) := by decide +kernel
theorem dX8_look_22 : decode cX8_look 22 = .ok (.aload_n 0, 1) := by decide +kernel
theorem dX8_look_23 : decode cX8_look 23 = .ok (.getfield 29, 3) := by decide +kernel
theorem dX8_look_26 : decode cX8_look 26 = .ok (.getfield 97, 3) := by decide +kernel
theorem dX8_look_29 : decode cX8_look 29 = .ok (.bipush 99, 2) := by decide +kernel
theorem dX8_look_31 : decode cX8_look 31 = .ok (.iadd, 1) := by decide +kernel
theorem dX8_look_32 : decode cX8_look 32 = .ok (.if_icmp .ge 29, 3) := by decide +kernel
theorem dX8_look_35 : decode cX8_look 35 = .ok (.aload_n 0, 1) := by decide +kernel
theorem dX8_look_36 : decode cX8_look 36 = .ok (.getfield 52, 3) := by decide +kernel
theorem dX8_look_39 : decode cX8_look 39 = .ok (.iload_n 1, 1) := by decide +kernel
theorem dX8_look_40 : decode cX8_look 40 = .ok (.aload_n 0, 1) := by decide +kernel
theorem dX8_look_41 : decode cX8_look 41 = .ok (.getfield 19, 3) := by decide +kernel
theorem dX8_look_44 : decode cX8_look 44 = .ok (.getfield 129, 3) := by decide +kernel
theorem dX8_look_47 : decode cX8_look 47 = .ok (.invokevirtual 275, 3) := by decide +kernel
theorem dX8_look_50 : decode cX8_look 50 = .ok (.ifCond .ne 5, 3) := by decide +kernel
theorem dX8_look_53 : decode cX8_look 53 = .ok (.iload_n 1, 1) := by decide +kernel
theorem dX8_look_54 : decode cX8_look 54 = .ok (.ireturn, 1) := by decide +kernel
theorem dX8_look_55 : decode cX8_look 55 = .ok (.iinc 1 1, 3) := by decide +kernel
theorem dX8_look_58 : decode cX8_look 58 = .ok (.goto (-37), 3) := by decide +kernel
theorem dX8_look_61 : decode cX8_look 61 = .ok (.iconst (-1), 1) := by decide +kernel
theorem dX8_look_62 : decode cX8_look 62 = .ok (.ireturn, 1) := by decide +kernel
set_option maxRecDepth 20000 in
theorem ggX8_tail_X8_isWithin : GoodIn wsX8_tail wsX8_isWithin := goodIn_r _ [8] (by decide +kernel) (by decide +kernel)
set_option maxRecDepth 20000 in
theorem gX8_tail_X8_isWithin : GoodIn wsX8_tail (va_wsS RX8 73 yX8_isWithin wsX8_isWithin) := goodIn_app (goodIn_of _ (by decide +kernel)) ggX8_tail_X8_isWithin
set_option maxRecDepth 20000 in
theorem ggX8_tail_X5_addTail : GoodIn wsX8_tail wsX5_addTail := goodIn_r _ [13, 14, 15, 16, 17, 18, 12, 19, 30, 31, 32, 33, 34, 35, 36, 37, 38] (by decide +kernel) (by decide +kernel)
set_option maxRecDepth 20000 in
theorem gX8_tail_X5_addTail : GoodIn wsX8_tail (wsV RX8 278 RX5 yX5_addTail wsX5_addTail) := goodIn_app (goodIn_of _ (by decide +kernel)) ggX8_tail_X5_addTail
theorem dX8_tail_0 : decode cX8_tail 0 = .ok (.iload_n 1, 1) := by decide +kernel
theorem dX8_tail_1 : decode cX8_tail 1 = .ok (.iconst 0, 1) := by decide +kernel
theorem dX8_tail_2 : decode cX8_tail 2 = .ok (.sipush 999, 3) := by decide +kernel
theorem dX8_tail_5 : decode cX8_tail 5 = .ok (.invokestatic 73, 3) := by decide +kernel
theorem dX8_tail_8 : decode cX8_tail 8 = .ok (.ifCond .eq 32, 3) := by decide +kernel
theorem dX8_tail_11 : decode cX8_tail 11 = .ok (.iload_n 2, 1) := by decide +kernel
theorem dX8_tail_12 : decode cX8_tail 12 = .ok (.iconst 0, 1) := by decide +kernel
theorem dX8_tail_13 : decode cX8_tail 13 = .ok (.sipush 999, 3) := by decide +kernel
theorem dX8_tail_16 : decode cX8_tail 16 = .ok (.invokestatic 73, 3) := by decide +kernel
theorem dX8_tail_19 : decode cX8_tail 19 = .ok (.ifCond .eq 21, 3) := by decide +kernel
theorem dX8_tail_22 : decode cX8_tail 22 = .ok (.iload_n 1, 1) := by decide +kernel
theorem dX8_tail_23 : decode cX8_tail 23 = .ok (.iload_n 2, 1) := by decide +kernel
theorem dX8_tail_24 : decode cX8_tail 24 = .ok (.if_icmp .ge 16, 3) := by decide +kernel
theorem dX8_tail_27 : decode cX8_tail 27 = .ok (.iload_n 3, 1) := by decide +kernel
theorem dX8_tail_28 : decode cX8_tail 28 = .ok (.sipush (-9000), 3) := by decide +kernel
theorem dX8_tail_31 : decode cX8_tail 31 = .ok (.sipush 9000, 3) := by decide +kernel
theorem dX8_tail_34 : decode cX8_tail 34 = .ok (.invokestatic 73, 3) := by decide +kernel
theorem dX8_tail_37 : decode cX8_tail 37 = .ok (.ifCond .ne 6, 3) := by decide +kernel
theorem dX8_tail_40 : decode cX8_tail 40 = .ok (.ldc 77, 2) := by decide +kernel
theorem dX8_tail_42 : decode cX8_tail 42 = .ok (.ireturn, 1) := by decide +kernel
theorem dX8_tail_43 : decode cX8_tail 43 = .ok (.aload_n 0, 1) := by decide +kernel
theorem dX8_tail_44 : decode cX8_tail 44 = .ok (.getfield 52, 3) := by decide +kernel
theorem dX8_tail_47 : decode cX8_tail 47 = .ok (.iload_n 2, 1) := by decide +kernel
theorem dX8_tail_48 : decode cX8_tail 48 = .ok (.iload_n 1, 1) := by decide +kernel
theorem dX8_tail_49 : decode cX8_tail 49 = .ok (.isub, 1) := by decide +kernel
theorem dX8_tail_50 : decode cX8_tail 50 = .ok (.iload_n 3, 1) := by decide +kernel
theorem dX8_tail_51 : decode cX8_tail 51 = .ok (.invokevirtual 278, 3) := by decide +kernel
theorem dX8_tail_54 : decode cX8_tail 54 = .ok (.ifCond .eq 13, 3) := by decide +kernel
theorem dX8_tail_57 : decode cX8_tail 57 = .ok (.aload_n 0, 1) := by decide +kernel
theorem dX8_tail_58 : decode cX8_tail 58 = .ok (.getfield 52, 3) := by decide +kernel
theorem dX8_tail_61 : decode cX8_tail 61 = .ok (.getfield 163, 3) := by decide +kernel
theorem dX8_tail_64 : decode cX8_tail 64 = .ok (.goto 5, 3) := by decide +kernel
theorem dX8_tail_67 : decode cX8_tail 67 = .ok (.ldc 86, 2) := by decide +kernel
theorem dX8_tail_69 : decode cX8_tail 69 = .ok (.ireturn, 1) := by decide +kernel
set_option maxRecDepth 20000 in
theorem ggX8_axes_X5_isAxisFit : GoodIn wsX8_axes wsX5_isAxisFit := goodIn_r _ [6, 7, 8, 9, 10, 11, 5, 12, 23, 24, 25, 26, 27, 28, 29, 30, 31] (by decide +kernel) (by decide +kernel)
set_option maxRecDepth 20000 in
theorem gX8_axes_X5_isAxisFit : GoodIn wsX8_axes (wsV RX8 281 RX5 yX5_isAxisFit wsX5_isAxisFit) := goodIn_app (goodIn_of _ (by decide +kernel)) ggX8_axes_X5_isAxisFit
theorem dX8_axes_0 : decode cX8_axes 0 = .ok (.iconst 0, 1) := by decide +kernel
theorem dX8_axes_1 : decode cX8_axes 1 = .ok (.istore_n 1, 1) := by decide +kernel
theorem dX8_axes_2 : decode cX8_axes 2 = .ok (.bipush (-9), 2) := by decide +kernel
theorem dX8_axes_4 : decode cX8_axes 4 = .ok (.istore_n 2, 1) := by decide +kernel
theorem dX8_axes_5 : decode cX8_axes 5 = .ok (.iload_n 2, 1) := by decide +kernel
theorem dX8_axes_6 : decode cX8_axes 6 = .ok (.bipush 9, 2) := by decide +kernel
theorem dX8_axes_8 : decode cX8_axes 8 = .ok (.if_icmp .gt 29, 3) := by decide +kernel
theorem dX8_axes_11 : decode cX8_axes 11 = .ok (.aload_n 0, 1) := by decide +kernel
theorem dX8_axes_12 : decode cX8_axes 12 = .ok (.getfield 52, 3) := by decide +kernel
theorem dX8_axes_15 : decode cX8_axes 15 = .ok (.iload_n 2, 1) := by decide +kernel
theorem dX8_axes_16 : decode cX8_axes 16 = .ok (.invokevirtual 281, 3) := by decide +kernel
theorem dX8_axes_19 : decode cX8_axes 19 = .ok (.ifCond .eq 12, 3) := by decide +kernel
theorem dX8_axes_22 : decode cX8_axes 22 = .ok (.iload_n 1, 1) := by decide +kernel
theorem dX8_axes_23 : decode cX8_axes 23 = .ok (.iconst 1, 1) := by decide +kernel
theorem dX8_axes_24 : decode cX8_axes 24 = .ok (.iload_n 2, 1) := by decide +kernel
theorem dX8_axes_25 : decode cX8_axes 25 = .ok (.bipush 9, 2) := by decide +kernel
theorem dX8_axes_27 : decode cX8_axes 27 = .ok (.iadd, 1) := by decide +kernel
theorem dX8_axes_28 : decode cX8_axes 28 = .ok (.ishl, 1) := by decide +kernel
theorem dX8_axes_29 : decode cX8_axes 29 = .ok (.ior, 1) := by decide +kernel
theorem dX8_axes_30 : decode cX8_axes 30 = .ok (.istore_n 1, 1) := by decide +kernel
theorem dX8_axes_31 : decode cX8_axes 31 = .ok (.iinc 2 1, 3) := by decide +kernel
theorem dX8_axes_34 : decode cX8_axes 34 = .ok (.goto (-29), 3) := by decide +kernel
theorem dX8_axes_37 : decode cX8_axes 37 = .ok (.iload_n 1, 1) := by decide +kernel
theorem dX8_axes_38 : decode cX8_axes 38 = .ok (.ireturn, 1) := by decide +kernel
set_option maxRecDepth 20000 in
theorem ggX8_write_X8_isWithin : GoodIn wsX8_write wsX8_isWithin := goodIn_r _ [8] (by decide +kernel) (by decide +kernel)
set_option maxRecDepth 20000 in
theorem gX8_write_X8_isWithin : GoodIn wsX8_write (va_wsS RX8 73 yX8_isWithin wsX8_isWithin) := goodIn_app (goodIn_of _ (by decide +kernel)) ggX8_write_X8_isWithin
set_option maxRecDepth 20000 in
theorem ggX8_write_X5_addToBook : GoodIn wsX8_write wsX5_addToBook := goodIn_r _ [13, 14, 15, 16, 17, 18, 12, 19, 30, 31, 32, 33, 34, 35, 36, 37, 38] (by decide +kernel) (by decide +kernel)
set_option maxRecDepth 20000 in
theorem gX8_write_X5_addToBook : GoodIn wsX8_write (wsV RX8 284 RX5 yX5_addToBook wsX5_addToBook) := goodIn_app (goodIn_of _ (by decide +kernel)) ggX8_write_X5_addToBook
theorem dX8_write_0 : decode cX8_write 0 = .ok (.iload_n 1, 1) := by decide +kernel
theorem dX8_write_1 : decode cX8_write 1 = .ok (.sipush (-2000), 3) := by decide +kernel
theorem dX8_write_4 : decode cX8_write 4 = .ok (.sipush 2000, 3) := by decide +kernel
theorem dX8_write_7 : decode cX8_write 7 = .ok (.invokestatic 73, 3) := by decide +kernel
theorem dX8_write_10 : decode cX8_write 10 = .ok (.ifCond .eq 16, 3) := by decide +kernel
theorem dX8_write_13 : decode cX8_write 13 = .ok (.iload_n 2, 1) := by decide +kernel
theorem dX8_write_14 : decode cX8_write 14 = .ok (.sipush (-2000), 3) := by decide +kernel
theorem dX8_write_17 : decode cX8_write 17 = .ok (.sipush 2000, 3) := by decide +kernel
theorem dX8_write_20 : decode cX8_write 20 = .ok (.invokestatic 73, 3) := by decide +kernel
theorem dX8_write_23 : decode cX8_write 23 = .ok (.ifCond .ne 6, 3) := by decide +kernel
theorem dX8_write_26 : decode cX8_write 26 = .ok (.ldc 77, 2) := by decide +kernel
theorem dX8_write_28 : decode cX8_write 28 = .ok (.ireturn, 1) := by decide +kernel
theorem dX8_write_29 : decode cX8_write 29 = .ok (.aload_n 0, 1) := by decide +kernel
theorem dX8_write_30 : decode cX8_write 30 = .ok (.getfield 52, 3) := by decide +kernel
theorem dX8_write_33 : decode cX8_write 33 = .ok (.iload_n 1, 1) := by decide +kernel
theorem dX8_write_34 : decode cX8_write 34 = .ok (.iload_n 2, 1) := by decide +kernel
theorem dX8_write_35 : decode cX8_write 35 = .ok (.invokevirtual 284, 3) := by decide +kernel
theorem dX8_write_38 : decode cX8_write 38 = .ok (.ifCond .eq 13, 3) := by decide +kernel
theorem dX8_write_41 : decode cX8_write 41 = .ok (.aload_n 0, 1) := by decide +kernel
theorem dX8_write_42 : decode cX8_write 42 = .ok (.getfield 52, 3) := by decide +kernel
theorem dX8_write_45 : decode cX8_write 45 = .ok (.getfield 166, 3) := by decide +kernel
theorem dX8_write_48 : decode cX8_write 48 = .ok (.goto 5, 3) := by decide +kernel
theorem dX8_write_51 : decode cX8_write 51 = .ok (.ldc 86, 2) := by decide +kernel
theorem dX8_write_53 : decode cX8_write 53 = .ok (.ireturn, 1) := by decide +kernel
set_option maxRecDepth 20000 in
theorem ggX8_tear_X5_clear : GoodIn wsX8_tear wsX5_clear := goodIn_r _ [9, 10, 11, 12, 23, 24, 25, 26, 27, 28, 29, 30, 31] (by decide +kernel) (by decide +kernel)
set_option maxRecDepth 20000 in
theorem gX8_tear_X5_clear : GoodIn wsX8_tear (wsV RX8 103 RX5 yX5_clear wsX5_clear) := goodIn_app (goodIn_of _ (by decide +kernel)) ggX8_tear_X5_clear
theorem dX8_tear_0 : decode cX8_tear 0 = .ok (.aload_n 0, 1) := by decide +kernel
theorem dX8_tear_1 : decode cX8_tear 1 = .ok (.getfield 52, 3) := by decide +kernel
theorem dX8_tear_4 : decode cX8_tear 4 = .ok (.getfield 160, 3) := by decide +kernel
theorem dX8_tear_7 : decode cX8_tear 7 = .ok (.aload_n 0, 1) := by decide +kernel
theorem dX8_tear_8 : decode cX8_tear 8 = .ok (.getfield 52, 3) := by decide +kernel
theorem dX8_tear_11 : decode cX8_tear 11 = .ok (.getfield 163, 3) := by decide +kernel
theorem dX8_tear_14 : decode cX8_tear 14 = .ok (.iadd, 1) := by decide +kernel
theorem dX8_tear_15 : decode cX8_tear 15 = .ok (.aload_n 0, 1) := by decide +kernel
theorem dX8_tear_16 : decode cX8_tear 16 = .ok (.getfield 52, 3) := by decide +kernel
theorem dX8_tear_19 : decode cX8_tear 19 = .ok (.getfield 166, 3) := by decide +kernel
theorem dX8_tear_22 : decode cX8_tear 22 = .ok (.iadd, 1) := by decide +kernel
theorem dX8_tear_23 : decode cX8_tear 23 = .ok (.istore_n 1, 1) := by decide +kernel
theorem dX8_tear_24 : decode cX8_tear 24 = .ok (.aload_n 0, 1) := by decide +kernel
theorem dX8_tear_25 : decode cX8_tear 25 = .ok (.getfield 52, 3) := by decide +kernel
theorem dX8_tear_28 : decode cX8_tear 28 = .ok (.invokevirtual 103, 3) := by decide +kernel
theorem dX8_tear_31 : decode cX8_tear 31 = .ok (.iload_n 1, 1) := by decide +kernel
theorem dX8_tear_32 : decode cX8_tear 32 = .ok (.ireturn, 1) := by decide +kernel
set_option maxRecDepth 20000 in
theorem ggX8_judge_X5_firstWrong : GoodIn wsX8_judge wsX5_firstWrong := goodIn_r _ [9, 10, 11, 12, 13, 14, 8, 15, 38, 39, 40, 41, 42, 43, 44, 45, 46] (by decide +kernel) (by decide +kernel)
set_option maxRecDepth 20000 in
theorem gX8_judge_X5_firstWrong : GoodIn wsX8_judge (wsV RX8 287 RX5 yX5_firstWrong wsX5_firstWrong) := goodIn_app (goodIn_of _ (by decide +kernel)) ggX8_judge_X5_firstWrong
theorem dX8_judge_0 : decode cX8_judge 0 = .ok (.aload_n 0, 1) := by decide +kernel
theorem dX8_judge_1 : decode cX8_judge 1 = .ok (.getfield 52, 3) := by decide +kernel
theorem dX8_judge_4 : decode cX8_judge 4 = .ok (.aload_n 0, 1) := by decide +kernel
theorem dX8_judge_5 : decode cX8_judge 5 = .ok (.getfield 29, 3) := by decide +kernel
theorem dX8_judge_8 : decode cX8_judge 8 = .ok (.getfield 141, 3) := by decide +kernel
theorem dX8_judge_11 : decode cX8_judge 11 = .ok (.aload_n 0, 1) := by decide +kernel
theorem dX8_judge_12 : decode cX8_judge 12 = .ok (.getfield 29, 3) := by decide +kernel
theorem dX8_judge_15 : decode cX8_judge 15 = .ok (.getfield 144, 3) := by decide +kernel
theorem dX8_judge_18 : decode cX8_judge 18 = .ok (.invokevirtual 287, 3) := by decide +kernel
theorem dX8_judge_21 : decode cX8_judge 21 = .ok (.ireturn, 1) := by decide +kernel
theorem dX8_seed_0 : decode cX8_seed 0 = .ok (.iload_n 1, 1) := by decide +kernel
theorem dX8_seed_1 : decode cX8_seed 1 = .ok (.ifCond .ge 6, 3) := by decide +kernel
theorem dX8_seed_4 : decode cX8_seed 4 = .ok (.ldc 77, 2) := by decide +kernel
theorem dX8_seed_6 : decode cX8_seed 6 = .ok (.ireturn, 1) := by decide +kernel
theorem dX8_seed_7 : decode cX8_seed 7 = .ok (.aload_n 0, 1) := by decide +kernel
theorem dX8_seed_8 : decode cX8_seed 8 = .ok (.getfield 59, 3) := by decide +kernel
theorem dX8_seed_11 : decode cX8_seed 11 = .ok (.getfield 291, 3) := by decide +kernel
theorem dX8_seed_14 : decode cX8_seed 14 = .ok (.istore_n 2, 1) := by decide +kernel
theorem dX8_seed_15 : decode cX8_seed 15 = .ok (.aload_n 0, 1) := by decide +kernel
theorem dX8_seed_16 : decode cX8_seed 16 = .ok (.getfield 59, 3) := by decide +kernel
theorem dX8_seed_19 : decode cX8_seed 19 = .ok (.iload_n 1, 1) := by decide +kernel
theorem dX8_seed_20 : decode cX8_seed 20 = .ok (.putfield 291, 3) := by decide +kernel
theorem dX8_seed_23 : decode cX8_seed 23 = .ok (.iload_n 2, 1) := by decide +kernel
theorem dX8_seed_24 : decode cX8_seed 24 = .ok (.ireturn, 1) := by decide +kernel
set_option maxRecDepth 20000 in
theorem ggX8_keep_X8_imageAt : GoodIn wsX8_keep wsX8_imageAt := goodIn_r _ [13, 14, 15, 42, 43, 44, 45, 46, 47, 48, 49, 50, 51] (by decide +kernel) (by decide +kernel)
set_option maxRecDepth 20000 in
theorem gX8_keep_X8_imageAt : GoodIn wsX8_keep (wsV RX8 294 RX8 yX8_imageAt wsX8_imageAt) := goodIn_app (goodIn_of _ (by decide +kernel)) ggX8_keep_X8_imageAt
set_option maxRecDepth 20000 in
theorem ggX8_keep_X4_copyFrom : GoodIn wsX8_keep wsX4_copyFrom := goodIn_r _ [20, 21, 22, 23, 24, 25, 26, 27, 28, 29, 30, 31, 32, 53, 54, 55, 56, 57, 58, 59, 60, 61, 62, 63, 64] (by decide +kernel) (by decide +kernel)
set_option maxRecDepth 20000 in
theorem gX8_keep_X4_copyFrom : GoodIn wsX8_keep (wsV RX8 301 RX4 yX4_copyFrom wsX4_copyFrom) := goodIn_app (goodIn_of _ (by decide +kernel)) ggX8_keep_X4_copyFrom
set_option maxRecDepth 20000 in
theorem ggX8_keep_X1_clear : GoodIn wsX8_keep wsX1_clear := goodIn_r _ [37, 38, 65, 66, 67] (by decide +kernel) (by decide +kernel)
set_option maxRecDepth 20000 in
theorem gX8_keep_X1_clear : GoodIn wsX8_keep (wsV RX8 106 RX1 yX1_clear wsX1_clear) := goodIn_app (goodIn_of _ (by decide +kernel)) ggX8_keep_X1_clear
theorem dX8_keep_0 : decode cX8_keep 0 = .ok (.aload_n 0, 1) := by decide +kernel
theorem dX8_keep_1 : decode cX8_keep 1 = .ok (.iload_n 1, 1) := by decide +kernel
theorem dX8_keep_2 : decode cX8_keep 2 = .ok (.invokevirtual 294, 3) := by decide +kernel
theorem dX8_keep_5 : decode cX8_keep 5 = .ok (.astore_n 2, 1) := by decide +kernel
theorem dX8_keep_6 : decode cX8_keep 6 = .ok (.aload_n 2, 1) := by decide +kernel
theorem dX8_keep_7 : decode cX8_keep 7 = .ok (.ifnonnull 6, 3) := by decide +kernel
theorem dX8_keep_10 : decode cX8_keep 10 = .ok (.ldc 176, 2) := by decide +kernel
theorem dX8_keep_12 : decode cX8_keep 12 = .ok (.ireturn, 1) := by decide +kernel
theorem dX8_keep_13 : decode cX8_keep 13 = .ok (.aload_n 2, 1) := by decide +kernel
theorem dX8_keep_14 : decode cX8_keep 14 = .ok (.iconst 1, 1) := by decide +kernel
theorem dX8_keep_15 : decode cX8_keep 15 = .ok (.putfield 107, 3) := by decide +kernel
theorem dX8_keep_18 : decode cX8_keep 18 = .ok (.aload_n 2, 1) := by decide +kernel
theorem dX8_keep_19 : decode cX8_keep 19 = .ok (.getfield 298, 3) := by decide +kernel
theorem dX8_keep_22 : decode cX8_keep 22 = .ok (.aload_n 0, 1) := by decide +kernel
theorem dX8_keep_23 : decode cX8_keep 23 = .ok (.getfield 29, 3) := by decide +kernel
theorem dX8_keep_26 : decode cX8_keep 26 = .ok (.invokevirtual 301, 3) := by decide +kernel
theorem dX8_keep_29 : decode cX8_keep 29 = .ok (.aload_n 2, 1) := by decide +kernel
theorem dX8_keep_30 : decode cX8_keep 30 = .ok (.aload_n 0, 1) := by decide +kernel
theorem dX8_keep_31 : decode cX8_keep 31 = .ok (.getfield 59, 3) := by decide +kernel
theorem dX8_keep_34 : decode cX8_keep 34 = .ok (.getfield 291, 3) := by decide +kernel
theorem dX8_keep_37 : decode cX8_keep 37 = .ok (.putfield 303, 3) := by decide +kernel
theorem dX8_keep_40 : decode cX8_keep 40 = .ok (.aload_n 0, 1) := by decide +kernel
theorem dX8_keep_41 : decode cX8_keep 41 = .ok (.getfield 45, 3) := by decide +kernel
theorem dX8_keep_44 : decode cX8_keep 44 = .ok (.invokevirtual 106, 3) := by decide +kernel
theorem dX8_keep_47 : decode cX8_keep 47 = .ok (.iconst 1, 1) := by decide +kernel
theorem dX8_keep_48 : decode cX8_keep 48 = .ok (.ireturn, 1) := by decide +kernel
set_option maxRecDepth 20000 in
theorem ggX8_goBack_X8_imageAt : GoodIn wsX8_goBack wsX8_imageAt := goodIn_r _ [14, 15, 16, 43, 44, 45, 46, 47, 48, 49, 50, 51, 52] (by decide +kernel) (by decide +kernel)
set_option maxRecDepth 20000 in
theorem gX8_goBack_X8_imageAt : GoodIn wsX8_goBack (wsV RX8 294 RX8 yX8_imageAt wsX8_imageAt) := goodIn_app (goodIn_of _ (by decide +kernel)) ggX8_goBack_X8_imageAt
set_option maxRecDepth 20000 in
theorem ggX8_goBack_X4_copyFrom : GoodIn wsX8_goBack wsX4_copyFrom := goodIn_r _ [21, 22, 23, 24, 25, 26, 27, 28, 29, 30, 31, 32, 33, 54, 55, 56, 57, 58, 59, 60, 61, 62, 63, 64, 65] (by decide +kernel) (by decide +kernel)
set_option maxRecDepth 20000 in
theorem gX8_goBack_X4_copyFrom : GoodIn wsX8_goBack (wsV RX8 301 RX4 yX4_copyFrom wsX4_copyFrom) := goodIn_app (goodIn_of _ (by decide +kernel)) ggX8_goBack_X4_copyFrom
set_option maxRecDepth 20000 in
theorem ggX8_goBack_X1_clear : GoodIn wsX8_goBack wsX1_clear := goodIn_r _ [38, 39, 66, 67, 68] (by decide +kernel) (by decide +kernel)
set_option maxRecDepth 20000 in
theorem gX8_goBack_X1_clear : GoodIn wsX8_goBack (wsV RX8 106 RX1 yX1_clear wsX1_clear) := goodIn_app (goodIn_of _ (by decide +kernel)) ggX8_goBack_X1_clear
theorem dX8_goBack_0 : decode cX8_goBack 0 = .ok (.aload_n 0, 1) := by decide +kernel
theorem dX8_goBack_1 : decode cX8_goBack 1 = .ok (.iload_n 1, 1) := by decide +kernel
theorem dX8_goBack_2 : decode cX8_goBack 2 = .ok (.invokevirtual 294, 3) := by decide +kernel
theorem dX8_goBack_5 : decode cX8_goBack 5 = .ok (.astore_n 2, 1) := by decide +kernel
theorem dX8_goBack_6 : decode cX8_goBack 6 = .ok (.aload_n 2, 1) := by decide +kernel
theorem dX8_goBack_7 : decode cX8_goBack 7 = .ok (.ifnonnull 6, 3) := by decide +kernel
theorem dX8_goBack_10 : decode cX8_goBack 10 = .ok (.ldc 176, 2) := by decide +kernel
theorem dX8_goBack_12 : decode cX8_goBack 12 = .ok (.ireturn, 1) := by decide +kernel
theorem dX8_goBack_13 : decode cX8_goBack 13 = .ok (.aload_n 2, 1) := by decide +kernel
theorem dX8_goBack_14 : decode cX8_goBack 14 = .ok (.getfield 107, 3) := by decide +kernel
theorem dX8_goBack_17 : decode cX8_goBack 17 = .ok (.ifCond .ne 6, 3) := by decide +kernel
theorem dX8_goBack_20 : decode cX8_goBack 20 = .ok (.ldc 198, 2) := by decide +kernel
theorem dX8_goBack_22 : decode cX8_goBack 22 = .ok (.ireturn, 1) := by decide +kernel
theorem dX8_goBack_23 : decode cX8_goBack 23 = .ok (.aload_n 0, 1) := by decide +kernel
theorem dX8_goBack_24 : decode cX8_goBack 24 = .ok (.getfield 29, 3) := by decide +kernel
theorem dX8_goBack_27 : decode cX8_goBack 27 = .ok (.aload_n 2, 1) := by decide +kernel
theorem dX8_goBack_28 : decode cX8_goBack 28 = .ok (.getfield 298, 3) := by decide +kernel
theorem dX8_goBack_31 : decode cX8_goBack 31 = .ok (.invokevirtual 301, 3) := by decide +kernel
theorem dX8_goBack_34 : decode cX8_goBack 34 = .ok (.aload_n 0, 1) := by decide +kernel
theorem dX8_goBack_35 : decode cX8_goBack 35 = .ok (.getfield 59, 3) := by decide +kernel
theorem dX8_goBack_38 : decode cX8_goBack 38 = .ok (.aload_n 2, 1) := by decide +kernel
theorem dX8_goBack_39 : decode cX8_goBack 39 = .ok (.getfield 303, 3) := by decide +kernel
theorem dX8_goBack_42 : decode cX8_goBack 42 = .ok (.putfield 291, 3) := by decide +kernel
theorem dX8_goBack_45 : decode cX8_goBack 45 = .ok (.aload_n 0, 1) := by decide +kernel
theorem dX8_goBack_46 : decode cX8_goBack 46 = .ok (.getfield 45, 3) := by decide +kernel
theorem dX8_goBack_49 : decode cX8_goBack 49 = .ok (.invokevirtual 106, 3) := by decide +kernel
theorem dX8_goBack_52 : decode cX8_goBack 52 = .ok (.iconst 1, 1) := by decide +kernel
theorem dX8_goBack_53 : decode cX8_goBack 53 = .ok (.ireturn, 1) := by decide +kernel
theorem dX8_imageAt_0 : decode cX8_imageAt 0 = .ok (.iload_n 1, 1) := by decide +kernel
theorem dX8_imageAt_1 : decode cX8_imageAt 1 = .ok (.ifCond .ne 8, 3) := by decide +kernel
theorem dX8_imageAt_4 : decode cX8_imageAt 4 = .ok (.aload_n 0, 1) := by decide +kernel
theorem dX8_imageAt_5 : decode cX8_imageAt 5 = .ok (.getfield 66, 3) := by decide +kernel
theorem dX8_imageAt_8 : decode cX8_imageAt 8 = .ok (.areturn, 1) := by decide +kernel
theorem dX8_imageAt_9 : decode cX8_imageAt 9 = .ok (.iload_n 1, 1) := by decide +kernel
theorem dX8_imageAt_10 : decode cX8_imageAt 10 = .ok (.iconst 1, 1) := by decide +kernel
theorem dX8_imageAt_11 : decode cX8_imageAt 11 = .ok (.if_icmp .ne 10, 3) := by decide +kernel
theorem dX8_imageAt_14 : decode cX8_imageAt 14 = .ok (.aload_n 0, 1) := by decide +kernel
theorem dX8_imageAt_15 : decode cX8_imageAt 15 = .ok (.getfield 70, 3) := by decide +kernel
theorem dX8_imageAt_18 : decode cX8_imageAt 18 = .ok (.goto 4, 3) := by decide +kernel
theorem dX8_imageAt_21 : decode cX8_imageAt 21 = .ok (.aconst_null, 1) := by decide +kernel
theorem dX8_imageAt_22 : decode cX8_imageAt 22 = .ok (.areturn, 1) := by decide +kernel
theorem dX8_cannotGoOn_0 : decode cX8_cannotGoOn 0 = .ok (.aload_n 0, 1) := by decide +kernel
theorem dX8_cannotGoOn_1 : decode cX8_cannotGoOn 1 = .ok (.getfield 19, 3) := by decide +kernel
theorem dX8_cannotGoOn_4 : decode cX8_cannotGoOn 4 = .ok (.getfield 117, 3) := by decide +kernel
theorem dX8_cannotGoOn_7 : decode cX8_cannotGoOn 7 = .ok (.ifCond .eq 13, 3) := by decide +kernel
theorem dX8_cannotGoOn_10 : decode cX8_cannotGoOn 10 = .ok (.aload_n 0, 1) := by decide +kernel
theorem dX8_cannotGoOn_11 : decode cX8_cannotGoOn 11 = .ok (.getfield 29, 3) := by decide +kernel
theorem dX8_cannotGoOn_14 : decode cX8_cannotGoOn 14 = .ok (.getfield 147, 3) := by decide +kernel
theorem dX8_cannotGoOn_17 : decode cX8_cannotGoOn 17 = .ok (.ifCond .eq 7, 3) := by decide +kernel
theorem dX8_cannotGoOn_20 : decode cX8_cannotGoOn 20 = .ok (.iconst 1, 1) := by decide +kernel
theorem dX8_cannotGoOn_21 : decode cX8_cannotGoOn 21 = .ok (.goto 4, 3) := by decide +kernel
theorem dX8_cannotGoOn_24 : decode cX8_cannotGoOn 24 = .ok (.iconst 0, 1) := by decide +kernel
theorem dX8_cannotGoOn_25 : decode cX8_cannotGoOn 25 = .ok (.ireturn, 1) := by decide +kernel
set_option maxRecDepth 20000 in
theorem ggX8_refusalOfMinutes_X8_isWithin : GoodIn wsX8_refusalOfMinutes wsX8_isWithin := goodIn_r _ [9] (by decide +kernel) (by decide +kernel)
set_option maxRecDepth 20000 in
theorem gX8_refusalOfMinutes_X8_isWithin : GoodIn wsX8_refusalOfMinutes (va_wsS RX8 73 yX8_isWithin wsX8_isWithin) := goodIn_app (goodIn_of _ (by decide +kernel)) ggX8_refusalOfMinutes_X8_isWithin
set_option maxRecDepth 20000 in
theorem ggX8_refusalOfMinutes_X8_cannotGoOn : GoodIn wsX8_refusalOfMinutes wsX8_cannotGoOn := goodIn_r _ [13, 14, 15, 3, 16, 17, 18, 19, 20, 21, 22, 23, 24, 25, 26, 39, 40, 41, 42, 43, 44, 45, 46, 47, 48, 49, 50, 27, 28, 29, 30, 31, 32, 33, 34, 35, 36, 37, 38] (by decide +kernel) (by decide +kernel)
set_option maxRecDepth 20000 in
theorem gX8_refusalOfMinutes_X8_cannotGoOn : GoodIn wsX8_refusalOfMinutes (wsV RX8 194 RX8 yX8_cannotGoOn wsX8_cannotGoOn) := goodIn_app (goodIn_of _ (by decide +kernel)) ggX8_refusalOfMinutes_X8_cannotGoOn
theorem dX8_refusalOfMinutes_0 : decode cX8_refusalOfMinutes 0 = .ok (.iload_n 1, 1) := by decide +kernel
theorem dX8_refusalOfMinutes_1 : decode cX8_refusalOfMinutes 1 = .ok (.iconst 1, 1) := by decide +kernel
theorem dX8_refusalOfMinutes_2 : decode cX8_refusalOfMinutes 2 = .ok (.bipush 99, 2) := by decide +kernel
theorem dX8_refusalOfMinutes_4 : decode cX8_refusalOfMinutes 4 = .ok (.invokestatic 73, 3) := by decide +kernel
theorem dX8_refusalOfMinutes_7 : decode cX8_refusalOfMinutes 7 = .ok (.ifCond .ne 6, 3) := by decide +kernel
theorem dX8_refusalOfMinutes_10 : decode cX8_refusalOfMinutes 10 = .ok (.ldc 77, 2) := by decide +kernel
theorem dX8_refusalOfMinutes_12 : decode cX8_refusalOfMinutes 12 = .ok (.ireturn, 1) := by decide +kernel
theorem dX8_refusalOfMinutes_13 : decode cX8_refusalOfMinutes 13 = .ok (.aload_n 0, 1) := by decide +kernel
theorem dX8_refusalOfMinutes_14 : decode cX8_refusalOfMinutes 14 = .ok (.invokevirtual 194, 3) := by decide +kernel
theorem dX8_refusalOfMinutes_17 : decode cX8_refusalOfMinutes 17 = .ok (.ifCond .eq 6, 3) := by decide +kernel
theorem dX8_refusalOfMinutes_20 : decode cX8_refusalOfMinutes 20 = .ok (.ldc 198, 2) := by decide +kernel
theorem dX8_refusalOfMinutes_22 : decode cX8_refusalOfMinutes 22 = .ok (.ireturn, 1) := by decide +kernel
theorem dX8_refusalOfMinutes_23 : decode cX8_refusalOfMinutes 23 = .ok (.aload_n 0, 1) := by decide +kernel
theorem dX8_refusalOfMinutes_24 : decode cX8_refusalOfMinutes 24 = .ok (.getfield 29, 3) := by decide +kernel
theorem dX8_refusalOfMinutes_27 : decode cX8_refusalOfMinutes 27 = .ok (.getfield 97, 3) := by decide +kernel
theorem dX8_refusalOfMinutes_30 : decode cX8_refusalOfMinutes 30 = .ok (.sipush 9000, 3) := by decide +kernel
theorem dX8_refusalOfMinutes_33 : decode cX8_refusalOfMinutes 33 = .ok (.if_icmp .le 8, 3) := by decide +kernel
theorem dX8_refusalOfMinutes_36 : decode cX8_refusalOfMinutes 36 = .ok (.ldc 86, 2) := by decide +kernel
theorem dX8_refusalOfMinutes_38 : decode cX8_refusalOfMinutes 38 = .ok (.goto 4, 3) := by decide +kernel
theorem dX8_refusalOfMinutes_41 : decode cX8_refusalOfMinutes 41 = .ok (.iconst 0, 1) := by decide +kernel
theorem dX8_refusalOfMinutes_42 : decode cX8_refusalOfMinutes 42 = .ok (.ireturn, 1) := by decide +kernel
set_option maxRecDepth 20000 in
theorem ggX8_isRule_X8_isWithin : GoodIn wsX8_isRule wsX8_isWithin := goodIn_r _ [4] (by decide +kernel) (by decide +kernel)
set_option maxRecDepth 20000 in
theorem gX8_isRule_X8_isWithin : GoodIn wsX8_isRule (va_wsS RX8 73 yX8_isWithin wsX8_isWithin) := goodIn_app (goodIn_of _ (by decide +kernel)) ggX8_isRule_X8_isWithin
theorem dX8_isRule_0 : decode cX8_isRule 0 = .ok (.iload_n 0, 1) := by decide +kernel
theorem dX8_isRule_1 : decode cX8_isRule 1 = .ok (.iconst 0, 1) := by decide +kernel
theorem dX8_isRule_2 : decode cX8_isRule 2 = .ok (.bipush 99, 2) := by decide +kernel
theorem dX8_isRule_4 : decode cX8_isRule 4 = .ok (.invokestatic 73, 3) := by decide +kernel
theorem dX8_isRule_7 : decode cX8_isRule 7 = .ok (.ifCond .eq 17, 3) := by decide +kernel
theorem dX8_isRule_10 : decode cX8_isRule 10 = .ok (.iload_n 1, 1) := by decide +kernel
theorem dX8_isRule_11 : decode cX8_isRule 11 = .ok (.iconst 0, 1) := by decide +kernel
theorem dX8_isRule_12 : decode cX8_isRule 12 = .ok (.bipush 20, 2) := by decide +kernel
theorem dX8_isRule_14 : decode cX8_isRule 14 = .ok (.invokestatic 73, 3) := by decide +kernel
theorem dX8_isRule_17 : decode cX8_isRule 17 = .ok (.ifCond .eq 7, 3) := by decide +kernel
theorem dX8_isRule_20 : decode cX8_isRule 20 = .ok (.iconst 1, 1) := by decide +kernel
theorem dX8_isRule_21 : decode cX8_isRule 21 = .ok (.goto 4, 3) := by decide +kernel
theorem dX8_isRule_24 : decode cX8_isRule 24 = .ok (.iconst 0, 1) := by decide +kernel
theorem dX8_isRule_25 : decode cX8_isRule 25 = .ok (.ireturn, 1) := by decide +kernel
theorem dX8_isWithin_0 : decode cX8_isWithin 0 = .ok (.iload_n 0, 1) := by decide +kernel
theorem dX8_isWithin_1 : decode cX8_isWithin 1 = .ok (.iload_n 1, 1) := by decide +kernel
theorem dX8_isWithin_2 : decode cX8_isWithin 2 = .ok (.if_icmp .lt 12, 3) := by decide +kernel
theorem dX8_isWithin_5 : decode cX8_isWithin 5 = .ok (.iload_n 0, 1) := by decide +kernel
theorem dX8_isWithin_6 : decode cX8_isWithin 6 = .ok (.iload_n 2, 1) := by decide +kernel
theorem dX8_isWithin_7 : decode cX8_isWithin 7 = .ok (.if_icmp .gt 7, 3) := by decide +kernel
theorem dX8_isWithin_10 : decode cX8_isWithin 10 = .ok (.iconst 1, 1) := by decide +kernel
theorem dX8_isWithin_11 : decode cX8_isWithin 11 = .ok (.goto 4, 3) := by decide +kernel
theorem dX8_isWithin_14 : decode cX8_isWithin 14 = .ok (.iconst 0, 1) := by decide +kernel
theorem dX8_isWithin_15 : decode cX8_isWithin 15 = .ok (.ireturn, 1) := by decide +kernel
