theorem dX9_init_0 : decode cX9_init 0 = .ok (.aload_n 0, 1) := by decide +kernel
theorem dX9_init_1 : decode cX9_init 1 = .ok (.invokespecial 1, 3) := by decide +kernel
theorem dX9_init_4 : decode cX9_init 4 = .ok (.aload_n 0, 1) := by decide +kernel
theorem dX9_init_5 : decode cX9_init 5 = .ok (.iconst 1, 1) := by decide +kernel
theorem dX9_init_6 : decode cX9_init 6 = .ok (.putfield 7, 3) := by decide +kernel
theorem dX9_init_9 : decode cX9_init 9 = .ok (.aload_n 0, 1) := by decide +kernel
theorem dX9_init_10 : decode cX9_init 10 = .ok (.bipush 9, 2) := by decide +kernel
theorem dX9_init_12 : decode cX9_init 12 = .ok (.newarray .int, 2) := by decide +kernel
theorem dX9_init_14 : decode cX9_init 14 = .ok (.putfield 13, 3) := by decide +kernel
theorem dX9_init_17 : decode cX9_init 17 = .ok (.aload_n 0, 1) := by decide +kernel
theorem dX9_init_18 : decode cX9_init 18 = .ok (.iconst (-1), 1) := by decide +kernel
theorem dX9_init_19 : decode cX9_init 19 = .ok (.putfield 17, 3) := by decide +kernel
theorem dX9_init_22 : decode cX9_init 22 = .ok (.aload_n 0, 1) := by decide +kernel
theorem dX9_init_23 : decode cX9_init 23 = .ok (.iconst 1, 1) := by decide +kernel
theorem dX9_init_24 : decode cX9_init 24 = .ok (.putfield 20, 3) := by decide +kernel
theorem dX9_init_27 : decode cX9_init 27 = .ok (.aload_n 0, 1) := by decide +kernel
theorem dX9_init_28 : decode cX9_init 28 = .ok (.bipush 6, 2) := by decide +kernel
theorem dX9_init_30 : decode cX9_init 30 = .ok (.newarray .int, 2) := by decide +kernel
theorem dX9_init_32 : decode cX9_init 32 = .ok (.putfield 23, 3) := by decide +kernel
theorem dX9_init_35 : decode cX9_init 35 = .ok (.aload_n 0, 1) := by decide +kernel
theorem dX9_init_36 : decode cX9_init 36 = .ok (.bipush 6, 2) := by decide +kernel
theorem dX9_init_38 : decode cX9_init 38 = .ok (.newarray .int, 2) := by decide +kernel
theorem dX9_init_40 : decode cX9_init 40 = .ok (.putfield 26, 3) := by decide +kernel
theorem dX9_init_43 : decode cX9_init 43 = .ok (.aload_n 0, 1) := by decide +kernel
theorem dX9_init_44 : decode cX9_init 44 = .ok (.bipush 12, 2) := by decide +kernel
theorem dX9_init_46 : decode cX9_init 46 = .ok (.newarray .int, 2) := by decide +kernel
theorem dX9_init_48 : decode cX9_init 48 = .ok (.putfield 29, 3) := by decide +kernel
theorem dX9_init_51 : decode cX9_init 51 = .ok (.aload_n 0, 1) := by decide +kernel
theorem dX9_init_52 : decode cX9_init 52 = .ok (.sipush 230, 3) := by decide +kernel
theorem dX9_init_55 : decode cX9_init 55 = .ok (.newarray .int, 2) := by decide +kernel
theorem dX9_init_57 : decode cX9_init 57 = .ok (.putfield 32, 3) := by decide +kernel
theorem dX9_init_60 : decode cX9_init 60 = .ok (.aload_n 0, 1) := by decide +kernel
theorem dX9_init_61 : decode cX9_init 61 = .ok (.iconst (-1), 1) := by decide +kernel
theorem dX9_init_62 : decode cX9_init 62 = .ok (.putfield 35, 3) := by decide +kernel
theorem dX9_init_65 : decode cX9_init 65 = .ok (.aload_n 0, 1) := by decide +kernel
theorem dX9_init_66 : decode cX9_init 66 = .ok (.iconst 3, 1) := by decide +kernel
theorem dX9_init_67 : decode cX9_init 67 = .ok (.newarray .int, 2) := by decide +kernel
theorem dX9_init_69 : decode cX9_init 69 = .ok (.putfield 38, 3) := by decide +kernel
theorem dX9_init_72 : decode cX9_init 72 = .ok (.aload_n 0, 1) := by decide +kernel
theorem dX9_init_73 : decode cX9_init 73 = .ok (.bipush 9, 2) := by decide +kernel
theorem dX9_init_75 : decode cX9_init 75 = .ok (.newarray .int, 2) := by decide +kernel
theorem dX9_init_77 : decode cX9_init 77 = .ok (.putfield 41, 3) := by decide +kernel
theorem dX9_init_80 : decode cX9_init 80 = .ok (.aload_n 0, 1) := by decide +kernel
theorem dX9_init_81 : decode cX9_init 81 = .ok (.iconst 2, 1) := by decide +kernel
theorem dX9_init_82 : decode cX9_init 82 = .ok (.newarray .int, 2) := by decide +kernel
theorem dX9_init_84 : decode cX9_init 84 = .ok (.putfield 44, 3) := by decide +kernel
theorem dX9_init_87 : decode cX9_init 87 = .ok (.aload_n 0, 1) := by decide +kernel
theorem dX9_init_88 : decode cX9_init 88 = .ok (.iconst 1, 1) := by decide +kernel
theorem dX9_init_89 : decode cX9_init 89 = .ok (.newarray .int, 2) := by decide +kernel
theorem dX9_init_91 : decode cX9_init 91 = .ok (.putfield 47, 3) := by decide +kernel
theorem dX9_init_94 : decode cX9_init 94 = .ok (.aload_n 0, 1) := by decide +kernel
theorem dX9_init_95 : decode cX9_init 95 = .ok (.bipush 6, 2) := by decide +kernel
theorem dX9_init_97 : decode cX9_init 97 = .ok (.newarray .int, 2) := by decide +kernel
theorem dX9_init_99 : decode cX9_init 99 = .ok (.putfield 50, 3) := by decide +kernel
theorem dX9_init_102 : decode cX9_init 102 = .ok (.aload_n 0, 1) := by decide +kernel
theorem dX9_init_103 : decode cX9_init 103 = .ok (.bipush 6, 2) := by decide +kernel
theorem dX9_init_105 : decode cX9_init 105 = .ok (.newarray .int, 2) := by decide +kernel
theorem dX9_init_107 : decode cX9_init 107 = .ok (.putfield 53, 3) := by decide +kernel
theorem dX9_init_110 : decode cX9_init 110 = .ok (.aload_n 0, 1) := by decide +kernel
theorem dX9_init_111 : decode cX9_init 111 = .ok (.sipush 240, 3) := by decide +kernel
theorem dX9_init_114 : decode cX9_init 114 = .ok (.newarray .int, 2) := by decide +kernel
theorem dX9_init_116 : decode cX9_init 116 = .ok (.putfield 56, 3) := by decide +kernel
theorem dX9_init_119 : decode cX9_init 119 = .ok (.aload_n 0, 1) := by decide +kernel
theorem dX9_init_120 : decode cX9_init 120 = .ok (.bipush 12, 2) := by decide +kernel
theorem dX9_init_122 : decode cX9_init 122 = .ok (.newarray .int, 2) := by decide +kernel
theorem dX9_init_124 : decode cX9_init 124 = .ok (.putfield 59, 3) := by decide +kernel
theorem dX9_init_127 : decode cX9_init 127 = .ok (.aload_n 0, 1) := by decide +kernel
theorem dX9_init_128 : decode cX9_init 128 = .ok (.bipush 10, 2) := by decide +kernel
theorem dX9_init_130 : decode cX9_init 130 = .ok (.newarray .int, 2) := by decide +kernel
theorem dX9_init_132 : decode cX9_init 132 = .ok (.putfield 62, 3) := by decide +kernel
theorem dX9_init_135 : decode cX9_init 135 = .ok (.aload_n 0, 1) := by decide +kernel
theorem dX9_init_136 : decode cX9_init 136 = .ok (.bipush 10, 2) := by decide +kernel
theorem dX9_init_138 : decode cX9_init 138 = .ok (.newarray .int, 2) := by decide +kernel
theorem dX9_init_140 : decode cX9_init 140 = .ok (.putfield 65, 3) := by decide +kernel
theorem dX9_init_143 : decode cX9_init 143 = .ok (.aload_n 0, 1) := by decide +kernel
theorem dX9_init_144 : decode cX9_init 144 = .ok (.bipush 6, 2) := by decide +kernel
theorem dX9_init_146 : decode cX9_init 146 = .ok (.newarray .int, 2) := by decide +kernel
theorem dX9_init_148 : decode cX9_init 148 = .ok (.putfield 68, 3) := by decide +kernel
theorem dX9_init_151 : decode cX9_init 151 = .ok (.aload_n 0, 1) := by decide +kernel
theorem dX9_init_152 : decode cX9_init 152 = .ok (.bipush 6, 2) := by decide +kernel
theorem dX9_init_154 : decode cX9_init 154 = .ok (.newarray .int, 2) := by decide +kernel
theorem dX9_init_156 : decode cX9_init 156 = .ok (.putfield 71, 3) := by decide +kernel
theorem dX9_init_159 : decode cX9_init 159 = .ok (.aload_n 0, 1) := by decide +kernel
theorem dX9_init_160 : decode cX9_init 160 = .ok (.bipush 6, 2) := by decide +kernel
theorem dX9_init_162 : decode cX9_init 162 = .ok (.newarray .int, 2) := by decide +kernel
theorem dX9_init_164 : decode cX9_init 164 = .ok (.putfield 74, 3) := by decide +kernel
theorem dX9_init_167 : decode cX9_init 167 = .ok (.aload_n 0, 1) := by decide +kernel
theorem dX9_init_168 : decode cX9_init 168 = .ok (.bipush 15, 2) := by decide +kernel
theorem dX9_init_170 : decode cX9_init 170 = .ok (.newarray .int, 2) := by decide +kernel
theorem dX9_init_172 : decode cX9_init 172 = .ok (.putfield 77, 3) := by decide +kernel
theorem dX9_init_175 : decode cX9_init 175 = .ok (.aload_n 0, 1) := by decide +kernel
theorem dX9_init_176 : decode cX9_init 176 = .ok (.bipush 15, 2) := by decide +kernel
theorem dX9_init_178 : decode cX9_init 178 = .ok (.newarray .int, 2) := by decide +kernel
theorem dX9_init_180 : decode cX9_init 180 = .ok (.putfield 80, 3) := by decide +kernel
theorem dX9_init_183 : decode cX9_init 183 = .ok (.aload_n 0, 1) := by decide +kernel
theorem dX9_init_184 : decode cX9_init 184 = .ok (.bipush 26, 2) := by decide +kernel
theorem dX9_init_186 : decode cX9_init 186 = .ok (.newarray .int, 2) := by decide +kernel
theorem dX9_init_188 : decode cX9_init 188 = .ok (.putfield 83, 3) := by decide +kernel
theorem dX9_init_191 : decode cX9_init 191 = .ok (.aload_n 0, 1) := by decide +kernel
theorem dX9_init_192 : decode cX9_init 192 = .ok (.iconst 2, 1) := by decide +kernel
theorem dX9_init_193 : decode cX9_init 193 = .ok (.newarray .boolean, 2) := by decide +kernel
theorem dX9_init_195 : decode cX9_init 195 = .ok (.putfield 86, 3) := by decide +kernel
theorem dX9_init_198 : decode cX9_init 198 = .ok (.aload_n 0, 1) := by decide +kernel
theorem dX9_init_199 : decode cX9_init 199 = .ok (.iconst 0, 1) := by decide +kernel
theorem dX9_init_200 : decode cX9_init 200 = .ok (.putfield 90, 3) := by decide +kernel
theorem dX9_init_203 : decode cX9_init 203 = .ok (.return_, 1) := by decide +kernel
theorem dX9_in_0 : decode cX9_in 0 = .ok (.lload_n 0, 1) := by decide +kernel
theorem dX9_in_1 : decode cX9_in 1 = .ok (.lload_n 2, 1) := by decide +kernel
theorem dX9_in_2 : decode cX9_in 2 = .ok (.lcmp, 1) := by decide +kernel
theorem dX9_in_3 : decode cX9_in 3 = .ok (.ifCond .lt 14, 3) := by decide +kernel
theorem dX9_in_6 : decode cX9_in 6 = .ok (.lload_n 0, 1) := by decide +kernel
theorem dX9_in_7 : decode cX9_in 7 = .ok (.lload 4, 2) := by decide +kernel
theorem dX9_in_9 : decode cX9_in 9 = .ok (.lcmp, 1) := by decide +kernel
theorem dX9_in_10 : decode cX9_in 10 = .ok (.ifCond .gt 7, 3) := by decide +kernel
theorem dX9_in_13 : decode cX9_in 13 = .ok (.iconst 1, 1) := by decide +kernel
theorem dX9_in_14 : decode cX9_in 14 = .ok (.goto 4, 3) := by decide +kernel
theorem dX9_in_17 : decode cX9_in 17 = .ok (.iconst 0, 1) := by decide +kernel
theorem dX9_in_18 : decode cX9_in 18 = .ok (.ireturn, 1) := by decide +kernel
theorem dX9_has_0 : decode cX9_has 0 = .ok (.iload_n 0, 1) := by decide +kernel
theorem dX9_has_1 : decode cX9_has 1 = .ok (.iload_n 1, 1) := by decide +kernel
theorem dX9_has_2 : decode cX9_has 2 = .ok (.ishr, 1) := by decide +kernel
theorem dX9_has_3 : decode cX9_has 3 = .ok (.iconst 1, 1) := by decide +kernel
theorem dX9_has_4 : decode cX9_has 4 = .ok (.iand, 1) := by decide +kernel
theorem dX9_has_5 : decode cX9_has 5 = .ok (.iconst 1, 1) := by decide +kernel
theorem dX9_has_6 : decode cX9_has 6 = .ok (.if_icmp .ne 7, 3) := by decide +kernel
theorem dX9_has_9 : decode cX9_has 9 = .ok (.iconst 1, 1) := by decide +kernel
theorem dX9_has_10 : decode cX9_has 10 = .ok (.goto 4, 3) := by decide +kernel
theorem dX9_has_13 : decode cX9_has 13 = .ok (.iconst 0, 1) := by decide +kernel
theorem dX9_has_14 : decode cX9_has 14 = .ok (.ireturn, 1) := by decide +kernel
theorem dX9_size_0 : decode cX9_size 0 = .ok (.iload_n 0, 1) := by decide +kernel
theorem dX9_size_1 : decode cX9_size 1 = .ok (.ifCond .ge 8, 3) := by decide +kernel
theorem dX9_size_4 : decode cX9_size 4 = .ok (.iload_n 0, 1) := by decide +kernel
theorem dX9_size_5 : decode cX9_size 5 = .ok (.ineg, 1) := by decide +kernel
theorem dX9_size_6 : decode cX9_size 6 = .ok (.goto 4, 3) := by decide +kernel
theorem dX9_size_9 : decode cX9_size 9 = .ok (.iload_n 0, 1) := by decide +kernel
theorem dX9_size_10 : decode cX9_size 10 = .ok (.ireturn, 1) := by decide +kernel
set_option maxRecDepth 20000 in
theorem ggX9_feed_X9_in : GoodIn wsX9_feed wsX9_in := goodIn_r _ [9] (by decide +kernel) (by decide +kernel)
set_option maxRecDepth 20000 in
theorem gX9_feed_X9_in : GoodIn wsX9_feed (va_wsS RX9 96 yX9_in wsX9_in) := goodIn_app (goodIn_of _ (by decide +kernel)) ggX9_feed_X9_in
theorem dX9_feed_0 : decode cX9_feed 0 = .ok (.iload_n 1, 1) := by decide +kernel
theorem dX9_feed_1 : decode cX9_feed 1 = .ok (.i2l, 1) := by decide +kernel
theorem dX9_feed_2 : decode cX9_feed 2 = .ok (.lconst 0, 1) := by decide +kernel
theorem dX9_feed_3 : decode cX9_feed 3 = .ok (.ldc2_w 94, 3) := by decide +kernel
theorem dX9_feed_6 : decode cX9_feed 6 = .ok (.invokestatic 96, 3) := by decide +kernel
theorem dX9_feed_9 : decode cX9_feed 9 = .ok (.ifCond .ne 6, 3) := by decide +kernel
theorem dX9_feed_12 : decode cX9_feed 12 = .ok (.ldc 100, 2) := by decide +kernel
theorem dX9_feed_14 : decode cX9_feed 14 = .ok (.ireturn, 1) := by decide +kernel
theorem dX9_feed_15 : decode cX9_feed 15 = .ok (.aload_n 0, 1) := by decide +kernel
theorem dX9_feed_16 : decode cX9_feed 16 = .ok (.getfield 101, 3) := by decide +kernel
theorem dX9_feed_19 : decode cX9_feed 19 = .ok (.sipush 230, 3) := by decide +kernel
theorem dX9_feed_22 : decode cX9_feed 22 = .ok (.if_icmp .ne 6, 3) := by decide +kernel
theorem dX9_feed_25 : decode cX9_feed 25 = .ok (.ldc 104, 2) := by decide +kernel
theorem dX9_feed_27 : decode cX9_feed 27 = .ok (.ireturn, 1) := by decide +kernel
theorem dX9_feed_28 : decode cX9_feed 28 = .ok (.aload_n 0, 1) := by decide +kernel
theorem dX9_feed_29 : decode cX9_feed 29 = .ok (.getfield 32, 3) := by decide +kernel
theorem dX9_feed_32 : decode cX9_feed 32 = .ok (.aload_n 0, 1) := by decide +kernel
theorem dX9_feed_33 : decode cX9_feed 33 = .ok (.getfield 101, 3) := by decide +kernel
theorem dX9_feed_36 : decode cX9_feed 36 = .ok (.iload_n 1, 1) := by decide +kernel
theorem dX9_feed_37 : decode cX9_feed 37 = .ok (.iastore, 1) := by decide +kernel
theorem dX9_feed_38 : decode cX9_feed 38 = .ok (.aload_n 0, 1) := by decide +kernel
theorem dX9_feed_39 : decode cX9_feed 39 = .ok (.dup, 1) := by decide +kernel
theorem dX9_feed_40 : decode cX9_feed 40 = .ok (.getfield 101, 3) := by decide +kernel
theorem dX9_feed_43 : decode cX9_feed 43 = .ok (.iconst 1, 1) := by decide +kernel
theorem dX9_feed_44 : decode cX9_feed 44 = .ok (.iadd, 1) := by decide +kernel
theorem dX9_feed_45 : decode cX9_feed 45 = .ok (.putfield 101, 3) := by decide +kernel
theorem dX9_feed_48 : decode cX9_feed 48 = .ok (.aload_n 0, 1) := by decide +kernel
theorem dX9_feed_49 : decode cX9_feed 49 = .ok (.getfield 101, 3) := by decide +kernel
theorem dX9_feed_52 : decode cX9_feed 52 = .ok (.ireturn, 1) := by decide +kernel
theorem dX9_here_0 : decode cX9_here 0 = .ok (.aload_n 0, 1) := by decide +kernel
theorem dX9_here_1 : decode cX9_here 1 = .ok (.getfield 105, 3) := by decide +kernel
theorem dX9_here_4 : decode cX9_here 4 = .ok (.aload_n 0, 1) := by decide +kernel
theorem dX9_here_5 : decode cX9_here 5 = .ok (.getfield 101, 3) := by decide +kernel
theorem dX9_here_8 : decode cX9_here 8 = .ok (.if_icmp .ge 30, 3) := by decide +kernel
theorem dX9_here_11 : decode cX9_here 11 = .ok (.aload_n 0, 1) := by decide +kernel
theorem dX9_here_12 : decode cX9_here 12 = .ok (.getfield 32, 3) := by decide +kernel
theorem dX9_here_15 : decode cX9_here 15 = .ok (.aload_n 0, 1) := by decide +kernel
theorem dX9_here_16 : decode cX9_here 16 = .ok (.getfield 105, 3) := by decide +kernel
theorem dX9_here_19 : decode cX9_here 19 = .ok (.iaload, 1) := by decide +kernel
theorem dX9_here_20 : decode cX9_here 20 = .ok (.bipush 32, 2) := by decide +kernel
theorem dX9_here_22 : decode cX9_here 22 = .ok (.if_icmp .ne 16, 3) := by decide +kernel
theorem dX9_here_25 : decode cX9_here 25 = .ok (.aload_n 0, 1) := by decide +kernel
theorem dX9_here_26 : decode cX9_here 26 = .ok (.dup, 1) := by decide +kernel
theorem dX9_here_27 : decode cX9_here 27 = .ok (.getfield 105, 3) := by decide +kernel
theorem dX9_here_30 : decode cX9_here 30 = .ok (.iconst 1, 1) := by decide +kernel
theorem dX9_here_31 : decode cX9_here 31 = .ok (.iadd, 1) := by decide +kernel
theorem dX9_here_32 : decode cX9_here 32 = .ok (.putfield 105, 3) := by decide +kernel
theorem dX9_here_35 : decode cX9_here 35 = .ok (.goto (-35), 3) := by decide +kernel
theorem dX9_here_38 : decode cX9_here 38 = .ok (.aload_n 0, 1) := by decide +kernel
theorem dX9_here_39 : decode cX9_here 39 = .ok (.getfield 105, 3) := by decide +kernel
theorem dX9_here_42 : decode cX9_here 42 = .ok (.aload_n 0, 1) := by decide +kernel
theorem dX9_here_43 : decode cX9_here 43 = .ok (.getfield 101, 3) := by decide +kernel
theorem dX9_here_46 : decode cX9_here 46 = .ok (.if_icmp .ge 15, 3) := by decide +kernel
theorem dX9_here_49 : decode cX9_here 49 = .ok (.aload_n 0, 1) := by decide +kernel
theorem dX9_here_50 : decode cX9_here 50 = .ok (.getfield 32, 3) := by decide +kernel
theorem dX9_here_53 : decode cX9_here 53 = .ok (.aload_n 0, 1) := by decide +kernel
theorem dX9_here_54 : decode cX9_here 54 = .ok (.getfield 105, 3) := by decide +kernel
theorem dX9_here_57 : decode cX9_here 57 = .ok (.iaload, 1) := by decide +kernel
theorem dX9_here_58 : decode cX9_here 58 = .ok (.goto 4, 3) := by decide +kernel
theorem dX9_here_61 : decode cX9_here 61 = .ok (.iconst (-1), 1) := by decide +kernel
theorem dX9_here_62 : decode cX9_here 62 = .ok (.ireturn, 1) := by decide +kernel
theorem dX9_fails_0 : decode cX9_fails 0 = .ok (.aload_n 0, 1) := by decide +kernel
theorem dX9_fails_1 : decode cX9_fails 1 = .ok (.iload_n 2, 1) := by decide +kernel
theorem dX9_fails_2 : decode cX9_fails 2 = .ok (.putfield 35, 3) := by decide +kernel
theorem dX9_fails_5 : decode cX9_fails 5 = .ok (.iload_n 1, 1) := by decide +kernel
theorem dX9_fails_6 : decode cX9_fails 6 = .ok (.ireturn, 1) := by decide +kernel
set_option maxRecDepth 20000 in
theorem ggX9_takeNumber_X9_here : GoodIn wsX9_takeNumber wsX9_here := goodIn_r _ [12, 3, 6, 7, 21, 22, 23, 24, 25, 26, 27, 28, 29, 30, 31, 32, 33, 34, 35, 36, 37, 38, 39, 40, 41, 42, 43, 44, 45, 46, 47, 48, 49, 50, 51, 52, 53, 54, 55, 56, 57, 58, 59, 60, 61, 62, 63, 64, 65, 66, 67] (by decide +kernel) (by decide +kernel)
set_option maxRecDepth 20000 in
theorem gX9_takeNumber_X9_here : GoodIn wsX9_takeNumber (wsV RX9 108 RX9 yX9_here wsX9_here) := goodIn_app (goodIn_of _ (by decide +kernel)) ggX9_takeNumber_X9_here
set_option maxRecDepth 20000 in
theorem ggX9_takeNumber_X9_in : GoodIn wsX9_takeNumber wsX9_in := goodIn_r _ [15] (by decide +kernel) (by decide +kernel)
set_option maxRecDepth 20000 in
theorem gX9_takeNumber_X9_in : GoodIn wsX9_takeNumber (va_wsS RX9 96 yX9_in wsX9_in) := goodIn_app (goodIn_of _ (by decide +kernel)) ggX9_takeNumber_X9_in
set_option maxRecDepth 20000 in
theorem ggX9_takeNumber_X9_fails : GoodIn wsX9_takeNumber wsX9_fails := goodIn_r _ [19, 20, 21, 22, 23, 24, 25, 26, 27, 28, 29, 30, 31, 32, 33, 34, 35, 36, 37, 38, 39, 40, 41, 42, 43, 44, 45, 46, 47, 48, 49, 50, 51, 52, 53, 54, 55, 56, 57, 58, 59, 60, 61, 62, 63, 64, 65, 66, 67] (by decide +kernel) (by decide +kernel)
set_option maxRecDepth 20000 in
theorem gX9_takeNumber_X9_fails : GoodIn wsX9_takeNumber (wsV RX9 116 RX9 yX9_fails wsX9_fails) := goodIn_app (goodIn_of _ (by decide +kernel)) ggX9_takeNumber_X9_fails
theorem dX9_takeNumber_0 : decode cX9_takeNumber 0 = .ok (.aload_n 0, 1) := by decide +kernel
theorem dX9_takeNumber_1 : decode cX9_takeNumber 1 = .ok (.invokevirtual 108, 3) := by decide +kernel
theorem dX9_takeNumber_4 : decode cX9_takeNumber 4 = .ok (.istore_n 3, 1) := by decide +kernel
theorem dX9_takeNumber_5 : decode cX9_takeNumber 5 = .ok (.iload_n 3, 1) := by decide +kernel
theorem dX9_takeNumber_6 : decode cX9_takeNumber 6 = .ok (.i2l, 1) := by decide +kernel
theorem dX9_takeNumber_7 : decode cX9_takeNumber 7 = .ok (.ldc2_w 112, 3) := by decide +kernel
theorem dX9_takeNumber_10 : decode cX9_takeNumber 10 = .ok (.ldc2_w 114, 3) := by decide +kernel
theorem dX9_takeNumber_13 : decode cX9_takeNumber 13 = .ok (.invokestatic 96, 3) := by decide +kernel
theorem dX9_takeNumber_16 : decode cX9_takeNumber 16 = .ok (.ifCond .ne 13, 3) := by decide +kernel
theorem dX9_takeNumber_19 : decode cX9_takeNumber 19 = .ok (.aload_n 0, 1) := by decide +kernel
theorem dX9_takeNumber_20 : decode cX9_takeNumber 20 = .ok (.iconst 1, 1) := by decide +kernel
theorem dX9_takeNumber_21 : decode cX9_takeNumber 21 = .ok (.aload_n 0, 1) := by decide +kernel
theorem dX9_takeNumber_22 : decode cX9_takeNumber 22 = .ok (.getfield 105, 3) := by decide +kernel
theorem dX9_takeNumber_25 : decode cX9_takeNumber 25 = .ok (.invokevirtual 116, 3) := by decide +kernel
theorem dX9_takeNumber_28 : decode cX9_takeNumber 28 = .ok (.ireturn, 1) := by decide +kernel
theorem dX9_takeNumber_29 : decode cX9_takeNumber 29 = .ok (.aload_n 0, 1) := by decide +kernel
theorem dX9_takeNumber_30 : decode cX9_takeNumber 30 = .ok (.aload_n 0, 1) := by decide +kernel
theorem dX9_takeNumber_31 : decode cX9_takeNumber 31 = .ok (.getfield 105, 3) := by decide +kernel
theorem dX9_takeNumber_34 : decode cX9_takeNumber 34 = .ok (.putfield 120, 3) := by decide +kernel
theorem dX9_takeNumber_37 : decode cX9_takeNumber 37 = .ok (.aload_n 0, 1) := by decide +kernel
theorem dX9_takeNumber_38 : decode cX9_takeNumber 38 = .ok (.iconst 0, 1) := by decide +kernel
theorem dX9_takeNumber_39 : decode cX9_takeNumber 39 = .ok (.putfield 123, 3) := by decide +kernel
theorem dX9_takeNumber_42 : decode cX9_takeNumber 42 = .ok (.aload_n 0, 1) := by decide +kernel
theorem dX9_takeNumber_43 : decode cX9_takeNumber 43 = .ok (.getfield 105, 3) := by decide +kernel
theorem dX9_takeNumber_46 : decode cX9_takeNumber 46 = .ok (.aload_n 0, 1) := by decide +kernel
theorem dX9_takeNumber_47 : decode cX9_takeNumber 47 = .ok (.getfield 101, 3) := by decide +kernel
theorem dX9_takeNumber_50 : decode cX9_takeNumber 50 = .ok (.if_icmp .ge 79, 3) := by decide +kernel
theorem dX9_takeNumber_53 : decode cX9_takeNumber 53 = .ok (.aload_n 0, 1) := by decide +kernel
theorem dX9_takeNumber_54 : decode cX9_takeNumber 54 = .ok (.getfield 32, 3) := by decide +kernel
theorem dX9_takeNumber_57 : decode cX9_takeNumber 57 = .ok (.aload_n 0, 1) := by decide +kernel
theorem dX9_takeNumber_58 : decode cX9_takeNumber 58 = .ok (.getfield 105, 3) := by decide +kernel
theorem dX9_takeNumber_61 : decode cX9_takeNumber 61 = .ok (.iaload, 1) := by decide +kernel
theorem dX9_takeNumber_62 : decode cX9_takeNumber 62 = .ok (.i2l, 1) := by decide +kernel
theorem dX9_takeNumber_63 : decode cX9_takeNumber 63 = .ok (.ldc2_w 112, 3) := by decide +kernel
theorem dX9_takeNumber_66 : decode cX9_takeNumber 66 = .ok (.ldc2_w 114, 3) := by decide +kernel
theorem dX9_takeNumber_69 : decode cX9_takeNumber 69 = .ok (.invokestatic 96, 3) := by decide +kernel
theorem dX9_takeNumber_72 : decode cX9_takeNumber 72 = .ok (.ifCond .eq 57, 3) := by decide +kernel
theorem dX9_takeNumber_75 : decode cX9_takeNumber 75 = .ok (.aload_n 0, 1) := by decide +kernel
theorem dX9_takeNumber_76 : decode cX9_takeNumber 76 = .ok (.aload_n 0, 1) := by decide +kernel
theorem dX9_takeNumber_77 : decode cX9_takeNumber 77 = .ok (.getfield 123, 3) := by decide +kernel
theorem dX9_takeNumber_80 : decode cX9_takeNumber 80 = .ok (.sipush 10000, 3) := by decide +kernel
theorem dX9_takeNumber_83 : decode cX9_takeNumber 83 = .ok (.if_icmp .le 10, 3) := by decide +kernel
theorem dX9_takeNumber_86 : decode cX9_takeNumber 86 = .ok (.aload_n 0, 1) := by decide +kernel
theorem dX9_takeNumber_87 : decode cX9_takeNumber 87 = .ok (.getfield 123, 3) := by decide +kernel
theorem dX9_takeNumber_90 : decode cX9_takeNumber 90 = .ok (.goto 23, 3) := by decide +kernel
theorem dX9_takeNumber_93 : decode cX9_takeNumber 93 = .ok (.bipush 10, 2) := by decide +kernel
theorem dX9_takeNumber_95 : decode cX9_takeNumber 95 = .ok (.aload_n 0, 1) := by decide +kernel
theorem dX9_takeNumber_96 : decode cX9_takeNumber 96 = .ok (.getfield 123, 3) := by decide +kernel
theorem dX9_takeNumber_99 : decode cX9_takeNumber 99 = .ok (.imul, 1) := by decide +kernel
theorem dX9_takeNumber_100 : decode cX9_takeNumber 100 = .ok (.aload_n 0, 1) := by decide +kernel
theorem dX9_takeNumber_101 : decode cX9_takeNumber 101 = .ok (.getfield 32, 3) := by decide +kernel
theorem dX9_takeNumber_104 : decode cX9_takeNumber 104 = .ok (.aload_n 0, 1) := by decide +kernel
theorem dX9_takeNumber_105 : decode cX9_takeNumber 105 = .ok (.getfield 105, 3) := by decide +kernel
theorem dX9_takeNumber_108 : decode cX9_takeNumber 108 = .ok (.iaload, 1) := by decide +kernel
theorem dX9_takeNumber_109 : decode cX9_takeNumber 109 = .ok (.iadd, 1) := by decide +kernel
theorem dX9_takeNumber_110 : decode cX9_takeNumber 110 = .ok (.bipush 48, 2) := by decide +kernel
theorem dX9_takeNumber_112 : decode cX9_takeNumber 112 = .ok (.isub, 1) := by decide +kernel
theorem dX9_takeNumber_113 : decode cX9_takeNumber 113 = .ok (.putfield 123, 3) := by decide +kernel
theorem dX9_takeNumber_116 : decode cX9_takeNumber 116 = .ok (.aload_n 0, 1) := by decide +kernel
theorem dX9_takeNumber_117 : decode cX9_takeNumber 117 = .ok (.dup, 1) := by decide +kernel
theorem dX9_takeNumber_118 : decode cX9_takeNumber 118 = .ok (.getfield 105, 3) := by decide +kernel
theorem dX9_takeNumber_121 : decode cX9_takeNumber 121 = .ok (.iconst 1, 1) := by decide +kernel
theorem dX9_takeNumber_122 : decode cX9_takeNumber 122 = .ok (.iadd, 1) := by decide +kernel
theorem dX9_takeNumber_123 : decode cX9_takeNumber 123 = .ok (.putfield 105, 3) := by decide +kernel
theorem dX9_takeNumber_126 : decode cX9_takeNumber 126 = .ok (.goto (-84), 3) := by decide +kernel
theorem dX9_takeNumber_129 : decode cX9_takeNumber 129 = .ok (.aload_n 0, 1) := by decide +kernel
theorem dX9_takeNumber_130 : decode cX9_takeNumber 130 = .ok (.getfield 105, 3) := by decide +kernel
theorem dX9_takeNumber_133 : decode cX9_takeNumber 133 = .ok (.aload_n 0, 1) := by decide +kernel
theorem dX9_takeNumber_134 : decode cX9_takeNumber 134 = .ok (.getfield 120, 3) := by decide +kernel
theorem dX9_takeNumber_137 : decode cX9_takeNumber 137 = .ok (.isub, 1) := by decide +kernel
theorem dX9_takeNumber_138 : decode cX9_takeNumber 138 = .ok (.iconst 3, 1) := by decide +kernel
theorem dX9_takeNumber_139 : decode cX9_takeNumber 139 = .ok (.if_icmp .gt 18, 3) := by decide +kernel
theorem dX9_takeNumber_142 : decode cX9_takeNumber 142 = .ok (.aload_n 0, 1) := by decide +kernel
theorem dX9_takeNumber_143 : decode cX9_takeNumber 143 = .ok (.getfield 123, 3) := by decide +kernel
theorem dX9_takeNumber_146 : decode cX9_takeNumber 146 = .ok (.i2l, 1) := by decide +kernel
theorem dX9_takeNumber_147 : decode cX9_takeNumber 147 = .ok (.iload_n 1, 1) := by decide +kernel
theorem dX9_takeNumber_148 : decode cX9_takeNumber 148 = .ok (.i2l, 1) := by decide +kernel
theorem dX9_takeNumber_149 : decode cX9_takeNumber 149 = .ok (.iload_n 2, 1) := by decide +kernel
theorem dX9_takeNumber_150 : decode cX9_takeNumber 150 = .ok (.i2l, 1) := by decide +kernel
theorem dX9_takeNumber_151 : decode cX9_takeNumber 151 = .ok (.invokestatic 96, 3) := by decide +kernel
theorem dX9_takeNumber_154 : decode cX9_takeNumber 154 = .ok (.ifCond .ne 15, 3) := by decide +kernel
theorem dX9_takeNumber_157 : decode cX9_takeNumber 157 = .ok (.aload_n 0, 1) := by decide +kernel
theorem dX9_takeNumber_158 : decode cX9_takeNumber 158 = .ok (.iconst 2, 1) := by decide +kernel
theorem dX9_takeNumber_159 : decode cX9_takeNumber 159 = .ok (.aload_n 0, 1) := by decide +kernel
theorem dX9_takeNumber_160 : decode cX9_takeNumber 160 = .ok (.getfield 120, 3) := by decide +kernel
theorem dX9_takeNumber_163 : decode cX9_takeNumber 163 = .ok (.invokevirtual 116, 3) := by decide +kernel
theorem dX9_takeNumber_166 : decode cX9_takeNumber 166 = .ok (.goto 4, 3) := by decide +kernel
theorem dX9_takeNumber_169 : decode cX9_takeNumber 169 = .ok (.iconst 0, 1) := by decide +kernel
theorem dX9_takeNumber_170 : decode cX9_takeNumber 170 = .ok (.ireturn, 1) := by decide +kernel
set_option maxRecDepth 20000 in
theorem ggX9_into_X9_takeNumber : GoodIn wsX9_into wsX9_takeNumber := goodIn_r _ [6, 7, 8, 9, 10, 1, 11, 12, 13, 14, 15, 5, 16, 17, 18, 19, 20, 21, 22, 23, 24, 25, 26, 27, 28, 29, 30, 31, 32, 33, 34, 35, 36, 37, 38, 39, 40, 41, 42, 43, 44, 45, 46, 47, 48, 49, 50, 51, 52, 53, 54, 55, 56, 57, 58, 59, 60, 61, 62, 63, 64, 65, 66, 67, 68, 69, 70, 71] (by decide +kernel) (by decide +kernel)
set_option maxRecDepth 20000 in
theorem gX9_into_X9_takeNumber : GoodIn wsX9_into (wsV RX9 126 RX9 yX9_takeNumber wsX9_takeNumber) := goodIn_app (goodIn_of _ (by decide +kernel)) ggX9_into_X9_takeNumber
theorem dX9_into_0 : decode cX9_into 0 = .ok (.aload_n 0, 1) := by decide +kernel
theorem dX9_into_1 : decode cX9_into 1 = .ok (.iload_n 3, 1) := by decide +kernel
theorem dX9_into_2 : decode cX9_into 2 = .ok (.iload 4, 2) := by decide +kernel
theorem dX9_into_4 : decode cX9_into 4 = .ok (.invokevirtual 126, 3) := by decide +kernel
theorem dX9_into_7 : decode cX9_into 7 = .ok (.istore 5, 2) := by decide +kernel
theorem dX9_into_9 : decode cX9_into 9 = .ok (.aload_n 1, 1) := by decide +kernel
theorem dX9_into_10 : decode cX9_into 10 = .ok (.iload_n 2, 1) := by decide +kernel
theorem dX9_into_11 : decode cX9_into 11 = .ok (.aload_n 0, 1) := by decide +kernel
theorem dX9_into_12 : decode cX9_into 12 = .ok (.getfield 123, 3) := by decide +kernel
theorem dX9_into_15 : decode cX9_into 15 = .ok (.iastore, 1) := by decide +kernel
theorem dX9_into_16 : decode cX9_into 16 = .ok (.iload 5, 2) := by decide +kernel
theorem dX9_into_18 : decode cX9_into 18 = .ok (.ireturn, 1) := by decide +kernel
set_option maxRecDepth 20000 in
theorem ggX9_takeMount_X9_into : GoodIn wsX9_takeMount wsX9_into := goodIn_r _ [7, 8, 9, 10, 11, 6, 12, 13, 14, 15, 16, 17, 18, 19, 20, 21, 22, 23, 24, 25, 26, 27, 28, 29, 30, 31, 32, 33, 34, 35, 36, 37, 38, 39, 40, 41, 42, 43, 44, 45, 46, 47, 48, 49, 50, 51, 52, 53, 54, 55, 56, 57, 58, 59, 60, 61, 62, 63, 64, 65, 66, 67, 68, 69, 70, 71, 72, 73, 74, 75, 76, 77] (by decide +kernel) (by decide +kernel)
set_option maxRecDepth 20000 in
theorem gX9_takeMount_X9_into : GoodIn wsX9_takeMount (wsV RX9 132 RX9 yX9_into wsX9_into) := goodIn_app (goodIn_of _ (by decide +kernel)) ggX9_takeMount_X9_into
theorem dX9_takeMount_0 : decode cX9_takeMount 0 = .ok (.aload_n 0, 1) := by decide +kernel
theorem dX9_takeMount_1 : decode cX9_takeMount 1 = .ok (.iconst 1, 1) := by decide +kernel
theorem dX9_takeMount_2 : decode cX9_takeMount 2 = .ok (.putfield 129, 3) := by decide +kernel
theorem dX9_takeMount_5 : decode cX9_takeMount 5 = .ok (.aload_n 0, 1) := by decide +kernel
theorem dX9_takeMount_6 : decode cX9_takeMount 6 = .ok (.aload_n 0, 1) := by decide +kernel
theorem dX9_takeMount_7 : decode cX9_takeMount 7 = .ok (.getfield 38, 3) := by decide +kernel
theorem dX9_takeMount_10 : decode cX9_takeMount 10 = .ok (.iconst 0, 1) := by decide +kernel
theorem dX9_takeMount_11 : decode cX9_takeMount 11 = .ok (.iconst 0, 1) := by decide +kernel
theorem dX9_takeMount_12 : decode cX9_takeMount 12 = .ok (.bipush 18, 2) := by decide +kernel
theorem dX9_takeMount_14 : decode cX9_takeMount 14 = .ok (.invokevirtual 132, 3) := by decide +kernel
theorem dX9_takeMount_17 : decode cX9_takeMount 17 = .ok (.istore_n 1, 1) := by decide +kernel
theorem dX9_takeMount_18 : decode cX9_takeMount 18 = .ok (.iload_n 1, 1) := by decide +kernel
theorem dX9_takeMount_19 : decode cX9_takeMount 19 = .ok (.ifCond .le 7, 3) := by decide +kernel
theorem dX9_takeMount_22 : decode cX9_takeMount 22 = .ok (.iload_n 1, 1) := by decide +kernel
theorem dX9_takeMount_23 : decode cX9_takeMount 23 = .ok (.goto 15, 3) := by decide +kernel
theorem dX9_takeMount_26 : decode cX9_takeMount 26 = .ok (.aload_n 0, 1) := by decide +kernel
theorem dX9_takeMount_27 : decode cX9_takeMount 27 = .ok (.aload_n 0, 1) := by decide +kernel
theorem dX9_takeMount_28 : decode cX9_takeMount 28 = .ok (.getfield 38, 3) := by decide +kernel
theorem dX9_takeMount_31 : decode cX9_takeMount 31 = .ok (.iconst 1, 1) := by decide +kernel
theorem dX9_takeMount_32 : decode cX9_takeMount 32 = .ok (.iconst 0, 1) := by decide +kernel
theorem dX9_takeMount_33 : decode cX9_takeMount 33 = .ok (.bipush 18, 2) := by decide +kernel
theorem dX9_takeMount_35 : decode cX9_takeMount 35 = .ok (.invokevirtual 132, 3) := by decide +kernel
theorem dX9_takeMount_38 : decode cX9_takeMount 38 = .ok (.istore_n 1, 1) := by decide +kernel
theorem dX9_takeMount_39 : decode cX9_takeMount 39 = .ok (.iload_n 1, 1) := by decide +kernel
theorem dX9_takeMount_40 : decode cX9_takeMount 40 = .ok (.ifCond .le 7, 3) := by decide +kernel
theorem dX9_takeMount_43 : decode cX9_takeMount 43 = .ok (.iload_n 1, 1) := by decide +kernel
theorem dX9_takeMount_44 : decode cX9_takeMount 44 = .ok (.goto 16, 3) := by decide +kernel
theorem dX9_takeMount_47 : decode cX9_takeMount 47 = .ok (.aload_n 0, 1) := by decide +kernel
theorem dX9_takeMount_48 : decode cX9_takeMount 48 = .ok (.aload_n 0, 1) := by decide +kernel
theorem dX9_takeMount_49 : decode cX9_takeMount 49 = .ok (.getfield 38, 3) := by decide +kernel
theorem dX9_takeMount_52 : decode cX9_takeMount 52 = .ok (.iconst 2, 1) := by decide +kernel
theorem dX9_takeMount_53 : decode cX9_takeMount 53 = .ok (.iconst 1, 1) := by decide +kernel
theorem dX9_takeMount_54 : decode cX9_takeMount 54 = .ok (.sipush 999, 3) := by decide +kernel
theorem dX9_takeMount_57 : decode cX9_takeMount 57 = .ok (.invokevirtual 132, 3) := by decide +kernel
theorem dX9_takeMount_60 : decode cX9_takeMount 60 = .ok (.ireturn, 1) := by decide +kernel
set_option maxRecDepth 20000 in
theorem ggX9_takeWorm_X9_into : GoodIn wsX9_takeWorm wsX9_into := goodIn_r _ [8, 9, 10, 11, 12, 7, 13, 14, 15, 3, 16, 17, 18, 19, 20, 21, 22, 23, 24, 25, 26, 27, 28, 29, 30, 31, 32, 33, 34, 35, 36, 37, 38, 39, 40, 41, 42, 43, 44, 45, 46, 47, 48, 49, 50, 51, 52, 53, 54, 55, 56, 57, 58, 59, 60, 61, 62, 63, 64, 65, 66, 67, 68, 69, 70, 71, 72, 73, 74, 75, 76, 77] (by decide +kernel) (by decide +kernel)
set_option maxRecDepth 20000 in
theorem gX9_takeWorm_X9_into : GoodIn wsX9_takeWorm (wsV RX9 132 RX9 yX9_into wsX9_into) := goodIn_app (goodIn_of _ (by decide +kernel)) ggX9_takeWorm_X9_into
set_option maxRecDepth 20000 in
theorem ggX9_takeWorm_X9_here : GoodIn wsX9_takeWorm wsX9_here := goodIn_r _ [22, 3, 17, 18, 31, 32, 33, 34, 35, 36, 37, 38, 39, 40, 41, 42, 43, 44, 45, 46, 47, 48, 49, 50, 51, 52, 53, 54, 55, 56, 57, 58, 59, 60, 61, 62, 63, 64, 65, 66, 67, 68, 69, 70, 71, 72, 73, 74, 75, 76, 77] (by decide +kernel) (by decide +kernel)
set_option maxRecDepth 20000 in
theorem gX9_takeWorm_X9_here : GoodIn wsX9_takeWorm (wsV RX9 108 RX9 yX9_here wsX9_here) := goodIn_app (goodIn_of _ (by decide +kernel)) ggX9_takeWorm_X9_here
set_option maxRecDepth 20000 in
theorem ggX9_takeWorm_X9_fails : GoodIn wsX9_takeWorm wsX9_fails := goodIn_r _ [29, 30, 31, 32, 33, 34, 35, 36, 37, 38, 39, 40, 41, 42, 43, 44, 45, 46, 47, 48, 49, 50, 51, 52, 53, 54, 55, 56, 57, 58, 59, 60, 61, 62, 63, 64, 65, 66, 67, 68, 69, 70, 71, 72, 73, 74, 75, 76, 77] (by decide +kernel) (by decide +kernel)
set_option maxRecDepth 20000 in
theorem gX9_takeWorm_X9_fails : GoodIn wsX9_takeWorm (wsV RX9 116 RX9 yX9_fails wsX9_fails) := goodIn_app (goodIn_of _ (by decide +kernel)) ggX9_takeWorm_X9_fails
theorem dX9_takeWorm_0 : decode cX9_takeWorm 0 = .ok (.aload_n 0, 1) := by decide +kernel
theorem dX9_takeWorm_1 : decode cX9_takeWorm 1 = .ok (.aload_n 0, 1) := by decide +kernel
theorem dX9_takeWorm_2 : decode cX9_takeWorm 2 = .ok (.getfield 41, 3) := by decide +kernel
theorem dX9_takeWorm_5 : decode cX9_takeWorm 5 = .ok (.iconst 0, 1) := by decide +kernel
theorem dX9_takeWorm_6 : decode cX9_takeWorm 6 = .ok (.iconst 0, 1) := by decide +kernel
theorem dX9_takeWorm_7 : decode cX9_takeWorm 7 = .ok (.bipush 18, 2) := by decide +kernel
theorem dX9_takeWorm_9 : decode cX9_takeWorm 9 = .ok (.invokevirtual 132, 3) := by decide +kernel
theorem dX9_takeWorm_12 : decode cX9_takeWorm 12 = .ok (.istore_n 1, 1) := by decide +kernel
theorem dX9_takeWorm_13 : decode cX9_takeWorm 13 = .ok (.aload_n 0, 1) := by decide +kernel
theorem dX9_takeWorm_14 : decode cX9_takeWorm 14 = .ok (.iconst 1, 1) := by decide +kernel
theorem dX9_takeWorm_15 : decode cX9_takeWorm 15 = .ok (.putfield 136, 3) := by decide +kernel
theorem dX9_takeWorm_18 : decode cX9_takeWorm 18 = .ok (.iload_n 1, 1) := by decide +kernel
theorem dX9_takeWorm_19 : decode cX9_takeWorm 19 = .ok (.ifCond .ne 70, 3) := by decide +kernel
theorem dX9_takeWorm_22 : decode cX9_takeWorm 22 = .ok (.aload_n 0, 1) := by decide +kernel
theorem dX9_takeWorm_23 : decode cX9_takeWorm 23 = .ok (.invokevirtual 108, 3) := by decide +kernel
theorem dX9_takeWorm_26 : decode cX9_takeWorm 26 = .ok (.bipush 44, 2) := by decide +kernel
theorem dX9_takeWorm_28 : decode cX9_takeWorm 28 = .ok (.if_icmp .ne 61, 3) := by decide +kernel
theorem dX9_takeWorm_31 : decode cX9_takeWorm 31 = .ok (.aload_n 0, 1) := by decide +kernel
theorem dX9_takeWorm_32 : decode cX9_takeWorm 32 = .ok (.getfield 136, 3) := by decide +kernel
theorem dX9_takeWorm_35 : decode cX9_takeWorm 35 = .ok (.bipush 9, 2) := by decide +kernel
theorem dX9_takeWorm_37 : decode cX9_takeWorm 37 = .ok (.if_icmp .ne 13, 3) := by decide +kernel
theorem dX9_takeWorm_40 : decode cX9_takeWorm 40 = .ok (.aload_n 0, 1) := by decide +kernel
theorem dX9_takeWorm_41 : decode cX9_takeWorm 41 = .ok (.iconst 1, 1) := by decide +kernel
theorem dX9_takeWorm_42 : decode cX9_takeWorm 42 = .ok (.aload_n 0, 1) := by decide +kernel
theorem dX9_takeWorm_43 : decode cX9_takeWorm 43 = .ok (.getfield 105, 3) := by decide +kernel
theorem dX9_takeWorm_46 : decode cX9_takeWorm 46 = .ok (.invokevirtual 116, 3) := by decide +kernel
theorem dX9_takeWorm_49 : decode cX9_takeWorm 49 = .ok (.ireturn, 1) := by decide +kernel
theorem dX9_takeWorm_50 : decode cX9_takeWorm 50 = .ok (.aload_n 0, 1) := by decide +kernel
theorem dX9_takeWorm_51 : decode cX9_takeWorm 51 = .ok (.dup, 1) := by decide +kernel
theorem dX9_takeWorm_52 : decode cX9_takeWorm 52 = .ok (.getfield 105, 3) := by decide +kernel
theorem dX9_takeWorm_55 : decode cX9_takeWorm 55 = .ok (.iconst 1, 1) := by decide +kernel
theorem dX9_takeWorm_56 : decode cX9_takeWorm 56 = .ok (.iadd, 1) := by decide +kernel
theorem dX9_takeWorm_57 : decode cX9_takeWorm 57 = .ok (.putfield 105, 3) := by decide +kernel
theorem dX9_takeWorm_60 : decode cX9_takeWorm 60 = .ok (.aload_n 0, 1) := by decide +kernel
theorem dX9_takeWorm_61 : decode cX9_takeWorm 61 = .ok (.aload_n 0, 1) := by decide +kernel
theorem dX9_takeWorm_62 : decode cX9_takeWorm 62 = .ok (.getfield 41, 3) := by decide +kernel
theorem dX9_takeWorm_65 : decode cX9_takeWorm 65 = .ok (.aload_n 0, 1) := by decide +kernel
theorem dX9_takeWorm_66 : decode cX9_takeWorm 66 = .ok (.getfield 136, 3) := by decide +kernel
theorem dX9_takeWorm_69 : decode cX9_takeWorm 69 = .ok (.iconst 0, 1) := by decide +kernel
theorem dX9_takeWorm_70 : decode cX9_takeWorm 70 = .ok (.bipush 18, 2) := by decide +kernel
theorem dX9_takeWorm_72 : decode cX9_takeWorm 72 = .ok (.invokevirtual 132, 3) := by decide +kernel
theorem dX9_takeWorm_75 : decode cX9_takeWorm 75 = .ok (.istore_n 1, 1) := by decide +kernel
theorem dX9_takeWorm_76 : decode cX9_takeWorm 76 = .ok (.aload_n 0, 1) := by decide +kernel
theorem dX9_takeWorm_77 : decode cX9_takeWorm 77 = .ok (.dup, 1) := by decide +kernel
theorem dX9_takeWorm_78 : decode cX9_takeWorm 78 = .ok (.getfield 136, 3) := by decide +kernel
theorem dX9_takeWorm_81 : decode cX9_takeWorm 81 = .ok (.iconst 1, 1) := by decide +kernel
theorem dX9_takeWorm_82 : decode cX9_takeWorm 82 = .ok (.iadd, 1) := by decide +kernel
theorem dX9_takeWorm_83 : decode cX9_takeWorm 83 = .ok (.putfield 136, 3) := by decide +kernel
theorem dX9_takeWorm_86 : decode cX9_takeWorm 86 = .ok (.goto (-68), 3) := by decide +kernel
theorem dX9_takeWorm_89 : decode cX9_takeWorm 89 = .ok (.iload_n 1, 1) := by decide +kernel
theorem dX9_takeWorm_90 : decode cX9_takeWorm 90 = .ok (.ireturn, 1) := by decide +kernel
set_option maxRecDepth 20000 in
theorem ggX9_takeJump_X9_into : GoodIn wsX9_takeJump wsX9_into := goodIn_r _ [7, 8, 9, 10, 11, 6, 12, 13, 14, 15, 16, 17, 18, 19, 20, 21, 22, 23, 24, 25, 26, 27, 28, 29, 30, 31, 32, 33, 34, 35, 36, 37, 38, 39, 40, 41, 42, 43, 44, 45, 46, 47, 48, 49, 50, 51, 52, 53, 54, 55, 56, 57, 58, 59, 60, 61, 62, 63, 64, 65, 66, 67, 68, 69, 70, 71, 72, 73, 74, 75, 76, 77] (by decide +kernel) (by decide +kernel)
set_option maxRecDepth 20000 in
theorem gX9_takeJump_X9_into : GoodIn wsX9_takeJump (wsV RX9 132 RX9 yX9_into wsX9_into) := goodIn_app (goodIn_of _ (by decide +kernel)) ggX9_takeJump_X9_into
theorem dX9_takeJump_0 : decode cX9_takeJump 0 = .ok (.aload_n 0, 1) := by decide +kernel
theorem dX9_takeJump_1 : decode cX9_takeJump 1 = .ok (.iconst 1, 1) := by decide +kernel
theorem dX9_takeJump_2 : decode cX9_takeJump 2 = .ok (.putfield 139, 3) := by decide +kernel
theorem dX9_takeJump_5 : decode cX9_takeJump 5 = .ok (.aload_n 0, 1) := by decide +kernel
theorem dX9_takeJump_6 : decode cX9_takeJump 6 = .ok (.aload_n 0, 1) := by decide +kernel
theorem dX9_takeJump_7 : decode cX9_takeJump 7 = .ok (.getfield 44, 3) := by decide +kernel
theorem dX9_takeJump_10 : decode cX9_takeJump 10 = .ok (.iconst 0, 1) := by decide +kernel
theorem dX9_takeJump_11 : decode cX9_takeJump 11 = .ok (.iconst 0, 1) := by decide +kernel
theorem dX9_takeJump_12 : decode cX9_takeJump 12 = .ok (.sipush 999, 3) := by decide +kernel
theorem dX9_takeJump_15 : decode cX9_takeJump 15 = .ok (.invokevirtual 132, 3) := by decide +kernel
theorem dX9_takeJump_18 : decode cX9_takeJump 18 = .ok (.istore_n 1, 1) := by decide +kernel
theorem dX9_takeJump_19 : decode cX9_takeJump 19 = .ok (.iload_n 1, 1) := by decide +kernel
theorem dX9_takeJump_20 : decode cX9_takeJump 20 = .ok (.ifCond .le 7, 3) := by decide +kernel
theorem dX9_takeJump_23 : decode cX9_takeJump 23 = .ok (.iload_n 1, 1) := by decide +kernel
theorem dX9_takeJump_24 : decode cX9_takeJump 24 = .ok (.goto 16, 3) := by decide +kernel
theorem dX9_takeJump_27 : decode cX9_takeJump 27 = .ok (.aload_n 0, 1) := by decide +kernel
theorem dX9_takeJump_28 : decode cX9_takeJump 28 = .ok (.aload_n 0, 1) := by decide +kernel
theorem dX9_takeJump_29 : decode cX9_takeJump 29 = .ok (.getfield 44, 3) := by decide +kernel
theorem dX9_takeJump_32 : decode cX9_takeJump 32 = .ok (.iconst 1, 1) := by decide +kernel
theorem dX9_takeJump_33 : decode cX9_takeJump 33 = .ok (.iconst 0, 1) := by decide +kernel
theorem dX9_takeJump_34 : decode cX9_takeJump 34 = .ok (.sipush 198, 3) := by decide +kernel
theorem dX9_takeJump_37 : decode cX9_takeJump 37 = .ok (.invokevirtual 132, 3) := by decide +kernel
theorem dX9_takeJump_40 : decode cX9_takeJump 40 = .ok (.ireturn, 1) := by decide +kernel
set_option maxRecDepth 20000 in
theorem ggX9_takeStar_X9_into : GoodIn wsX9_takeStar wsX9_into := goodIn_r _ [8, 9, 10, 11, 12, 7, 13, 14, 15, 16, 17, 18, 19, 20, 21, 22, 23, 24, 25, 26, 27, 28, 29, 30, 31, 32, 33, 34, 35, 36, 37, 38, 39, 40, 41, 42, 43, 44, 45, 46, 47, 48, 49, 50, 51, 52, 53, 54, 55, 56, 57, 58, 59, 60, 61, 62, 63, 64, 65, 66, 67, 68, 69, 70, 71, 72, 73, 74, 75, 76, 77, 78] (by decide +kernel) (by decide +kernel)
set_option maxRecDepth 20000 in
theorem gX9_takeStar_X9_into : GoodIn wsX9_takeStar (wsV RX9 132 RX9 yX9_into wsX9_into) := goodIn_app (goodIn_of _ (by decide +kernel)) ggX9_takeStar_X9_into
theorem dX9_takeStar_0 : decode cX9_takeStar 0 = .ok (.aload_n 0, 1) := by decide +kernel
theorem dX9_takeStar_1 : decode cX9_takeStar 1 = .ok (.getfield 142, 3) := by decide +kernel
theorem dX9_takeStar_4 : decode cX9_takeStar 4 = .ok (.istore_n 1, 1) := by decide +kernel
theorem dX9_takeStar_5 : decode cX9_takeStar 5 = .ok (.aload_n 0, 1) := by decide +kernel
theorem dX9_takeStar_6 : decode cX9_takeStar 6 = .ok (.dup, 1) := by decide +kernel
theorem dX9_takeStar_7 : decode cX9_takeStar 7 = .ok (.getfield 142, 3) := by decide +kernel
theorem dX9_takeStar_10 : decode cX9_takeStar 10 = .ok (.iconst 1, 1) := by decide +kernel
theorem dX9_takeStar_11 : decode cX9_takeStar 11 = .ok (.iadd, 1) := by decide +kernel
theorem dX9_takeStar_12 : decode cX9_takeStar 12 = .ok (.putfield 142, 3) := by decide +kernel
theorem dX9_takeStar_15 : decode cX9_takeStar 15 = .ok (.aload_n 0, 1) := by decide +kernel
theorem dX9_takeStar_16 : decode cX9_takeStar 16 = .ok (.aload_n 0, 1) := by decide +kernel
theorem dX9_takeStar_17 : decode cX9_takeStar 17 = .ok (.getfield 50, 3) := by decide +kernel
theorem dX9_takeStar_20 : decode cX9_takeStar 20 = .ok (.iload_n 1, 1) := by decide +kernel
theorem dX9_takeStar_21 : decode cX9_takeStar 21 = .ok (.iconst 0, 1) := by decide +kernel
theorem dX9_takeStar_22 : decode cX9_takeStar 22 = .ok (.bipush 99, 2) := by decide +kernel
theorem dX9_takeStar_24 : decode cX9_takeStar 24 = .ok (.invokevirtual 132, 3) := by decide +kernel
theorem dX9_takeStar_27 : decode cX9_takeStar 27 = .ok (.istore_n 2, 1) := by decide +kernel
theorem dX9_takeStar_28 : decode cX9_takeStar 28 = .ok (.iload_n 2, 1) := by decide +kernel
theorem dX9_takeStar_29 : decode cX9_takeStar 29 = .ok (.ifCond .le 7, 3) := by decide +kernel
theorem dX9_takeStar_32 : decode cX9_takeStar 32 = .ok (.iload_n 2, 1) := by decide +kernel
theorem dX9_takeStar_33 : decode cX9_takeStar 33 = .ok (.goto 15, 3) := by decide +kernel
theorem dX9_takeStar_36 : decode cX9_takeStar 36 = .ok (.aload_n 0, 1) := by decide +kernel
theorem dX9_takeStar_37 : decode cX9_takeStar 37 = .ok (.aload_n 0, 1) := by decide +kernel
theorem dX9_takeStar_38 : decode cX9_takeStar 38 = .ok (.getfield 53, 3) := by decide +kernel
theorem dX9_takeStar_41 : decode cX9_takeStar 41 = .ok (.iload_n 1, 1) := by decide +kernel
theorem dX9_takeStar_42 : decode cX9_takeStar 42 = .ok (.iconst 1, 1) := by decide +kernel
theorem dX9_takeStar_43 : decode cX9_takeStar 43 = .ok (.bipush 9, 2) := by decide +kernel
theorem dX9_takeStar_45 : decode cX9_takeStar 45 = .ok (.invokevirtual 132, 3) := by decide +kernel
theorem dX9_takeStar_48 : decode cX9_takeStar 48 = .ok (.ireturn, 1) := by decide +kernel
set_option maxRecDepth 20000 in
theorem ggX9_takePress_X9_into : GoodIn wsX9_takePress wsX9_into := goodIn_r _ [7, 8, 9, 10, 11, 6, 12, 13, 14, 15, 16, 17, 18, 19, 20, 21, 22, 23, 24, 25, 26, 27, 28, 29, 30, 31, 32, 33, 34, 35, 36, 37, 38, 39, 40, 41, 42, 43, 44, 45, 46, 47, 48, 49, 50, 51, 52, 53, 54, 55, 56, 57, 58, 59, 60, 61, 62, 63, 64, 65, 66, 67, 68, 69, 70, 71, 72, 73, 74, 75, 76, 77] (by decide +kernel) (by decide +kernel)
set_option maxRecDepth 20000 in
theorem gX9_takePress_X9_into : GoodIn wsX9_takePress (wsV RX9 132 RX9 yX9_into wsX9_into) := goodIn_app (goodIn_of _ (by decide +kernel)) ggX9_takePress_X9_into
theorem dX9_takePress_0 : decode cX9_takePress 0 = .ok (.aload_n 0, 1) := by decide +kernel
theorem dX9_takePress_1 : decode cX9_takePress 1 = .ok (.iconst 1, 1) := by decide +kernel
theorem dX9_takePress_2 : decode cX9_takePress 2 = .ok (.putfield 145, 3) := by decide +kernel
theorem dX9_takePress_5 : decode cX9_takePress 5 = .ok (.aload_n 0, 1) := by decide +kernel
theorem dX9_takePress_6 : decode cX9_takePress 6 = .ok (.aload_n 0, 1) := by decide +kernel
theorem dX9_takePress_7 : decode cX9_takePress 7 = .ok (.getfield 47, 3) := by decide +kernel
theorem dX9_takePress_10 : decode cX9_takePress 10 = .ok (.iconst 0, 1) := by decide +kernel
theorem dX9_takePress_11 : decode cX9_takePress 11 = .ok (.iconst 1, 1) := by decide +kernel
theorem dX9_takePress_12 : decode cX9_takePress 12 = .ok (.bipush 9, 2) := by decide +kernel
theorem dX9_takePress_14 : decode cX9_takePress 14 = .ok (.invokevirtual 132, 3) := by decide +kernel
theorem dX9_takePress_17 : decode cX9_takePress 17 = .ok (.ireturn, 1) := by decide +kernel
set_option maxRecDepth 20000 in
theorem ggX9_takeClause_X9_here : GoodIn wsX9_takeClause wsX9_here := goodIn_r _ [11, 2, 12, 13, 60, 61, 62, 63, 64, 65, 66, 67, 68, 69, 70, 71, 72, 73, 74, 75, 76, 77, 78, 79, 80, 81, 82, 83, 84, 85, 86, 87, 88, 89, 90, 91, 92, 93, 94, 95, 96, 97, 98, 99, 100, 101, 102, 103, 104, 105, 106] (by decide +kernel) (by decide +kernel)
set_option maxRecDepth 20000 in
theorem gX9_takeClause_X9_here : GoodIn wsX9_takeClause (wsV RX9 108 RX9 yX9_here wsX9_here) := goodIn_app (goodIn_of _ (by decide +kernel)) ggX9_takeClause_X9_here
set_option maxRecDepth 20000 in
theorem ggX9_takeClause_X9_fails : GoodIn wsX9_takeClause wsX9_fails := goodIn_r _ [17, 18, 60, 61, 62, 63, 64, 65, 66, 67, 68, 69, 70, 71, 72, 73, 74, 75, 76, 77, 78, 79, 80, 81, 82, 83, 84, 85, 86, 87, 88, 89, 90, 91, 92, 93, 94, 95, 96, 97, 98, 99, 100, 101, 102, 103, 104, 105, 106] (by decide +kernel) (by decide +kernel)
set_option maxRecDepth 20000 in
theorem gX9_takeClause_X9_fails : GoodIn wsX9_takeClause (wsV RX9 116 RX9 yX9_fails wsX9_fails) := goodIn_app (goodIn_of _ (by decide +kernel)) ggX9_takeClause_X9_fails
set_option maxRecDepth 20000 in
theorem ggX9_takeClause_X9_takeMount : GoodIn wsX9_takeClause wsX9_takeMount := goodIn_r _ [22, 1, 23, 24, 25, 26, 10, 27, 28, 29, 30, 31, 32, 33, 34, 2, 35, 12, 13, 7, 8, 9, 11, 36, 37, 38, 14, 15, 16, 17, 18, 60, 61, 62, 63, 64, 65, 66, 67, 68, 69, 70, 71, 72, 73, 74, 75, 76, 77, 78, 79, 80, 81, 82, 83, 84, 85, 86, 87, 88, 89, 90, 91, 92, 93, 94, 95, 96, 97, 98, 99, 100, 101, 102, 103, 104, 105, 106] (by decide +kernel) (by decide +kernel)
set_option maxRecDepth 20000 in
theorem gX9_takeClause_X9_takeMount : GoodIn wsX9_takeClause (wsV RX9 148 RX9 yX9_takeMount wsX9_takeMount) := goodIn_app (goodIn_of _ (by decide +kernel)) ggX9_takeClause_X9_takeMount
set_option maxRecDepth 20000 in
theorem ggX9_takeClause_X9_takeWorm : GoodIn wsX9_takeClause wsX9_takeWorm := goodIn_r _ [42, 43, 3, 2, 24, 25, 26, 10, 27, 28, 29, 30, 31, 32, 33, 34, 35, 12, 13, 7, 8, 9, 11, 36, 37, 38, 14, 15, 16, 17, 18, 60, 61, 62, 63, 64, 65, 66, 67, 68, 69, 70, 71, 72, 73, 74, 75, 76, 77, 78, 79, 80, 81, 82, 83, 84, 85, 86, 87, 88, 89, 90, 91, 92, 93, 94, 95, 96, 97, 98, 99, 100, 101, 102, 103, 104, 105, 106] (by decide +kernel) (by decide +kernel)
set_option maxRecDepth 20000 in
theorem gX9_takeClause_X9_takeWorm : GoodIn wsX9_takeClause (wsV RX9 151 RX9 yX9_takeWorm wsX9_takeWorm) := goodIn_app (goodIn_of _ (by decide +kernel)) ggX9_takeClause_X9_takeWorm
set_option maxRecDepth 20000 in
theorem ggX9_takeClause_X9_takeJump : GoodIn wsX9_takeClause wsX9_takeJump := goodIn_r _ [47, 4, 48, 24, 25, 26, 10, 27, 28, 29, 30, 31, 32, 33, 34, 2, 35, 12, 13, 7, 8, 9, 11, 36, 37, 38, 14, 15, 16, 17, 18, 60, 61, 62, 63, 64, 65, 66, 67, 68, 69, 70, 71, 72, 73, 74, 75, 76, 77, 78, 79, 80, 81, 82, 83, 84, 85, 86, 87, 88, 89, 90, 91, 92, 93, 94, 95, 96, 97, 98, 99, 100, 101, 102, 103, 104, 105, 106] (by decide +kernel) (by decide +kernel)
set_option maxRecDepth 20000 in
theorem gX9_takeClause_X9_takeJump : GoodIn wsX9_takeClause (wsV RX9 154 RX9 yX9_takeJump wsX9_takeJump) := goodIn_app (goodIn_of _ (by decide +kernel)) ggX9_takeClause_X9_takeJump
set_option maxRecDepth 20000 in
theorem ggX9_takeClause_X9_takeStar : GoodIn wsX9_takeClause wsX9_takeStar := goodIn_r _ [52, 5, 53, 54, 24, 25, 26, 10, 27, 28, 29, 30, 31, 32, 33, 34, 2, 35, 12, 13, 7, 8, 9, 11, 36, 37, 38, 14, 15, 16, 17, 18, 60, 61, 62, 63, 64, 65, 66, 67, 68, 69, 70, 71, 72, 73, 74, 75, 76, 77, 78, 79, 80, 81, 82, 83, 84, 85, 86, 87, 88, 89, 90, 91, 92, 93, 94, 95, 96, 97, 98, 99, 100, 101, 102, 103, 104, 105, 106] (by decide +kernel) (by decide +kernel)
set_option maxRecDepth 20000 in
theorem gX9_takeClause_X9_takeStar : GoodIn wsX9_takeClause (wsV RX9 157 RX9 yX9_takeStar wsX9_takeStar) := goodIn_app (goodIn_of _ (by decide +kernel)) ggX9_takeClause_X9_takeStar
set_option maxRecDepth 20000 in
theorem ggX9_takeClause_X9_takePress : GoodIn wsX9_takeClause wsX9_takePress := goodIn_r _ [58, 6, 59, 24, 25, 26, 10, 27, 28, 29, 30, 31, 32, 33, 34, 2, 35, 12, 13, 7, 8, 9, 11, 36, 37, 38, 14, 15, 16, 17, 18, 60, 61, 62, 63, 64, 65, 66, 67, 68, 69, 70, 71, 72, 73, 74, 75, 76, 77, 78, 79, 80, 81, 82, 83, 84, 85, 86, 87, 88, 89, 90, 91, 92, 93, 94, 95, 96, 97, 98, 99, 100, 101, 102, 103, 104, 105, 106] (by decide +kernel) (by decide +kernel)
set_option maxRecDepth 20000 in
theorem gX9_takeClause_X9_takePress : GoodIn wsX9_takeClause (wsV RX9 160 RX9 yX9_takePress wsX9_takePress) := goodIn_app (goodIn_of _ (by decide +kernel)) ggX9_takeClause_X9_takePress
theorem dX9_takeClause_0 : decode cX9_takeClause 0 = .ok (.aload_n 0, 1) := by decide +kernel
theorem dX9_takeClause_1 : decode cX9_takeClause 1 = .ok (.invokevirtual 108, 3) := by decide +kernel
theorem dX9_takeClause_4 : decode cX9_takeClause 4 = .ok (.istore_n 1, 1) := by decide +kernel
theorem dX9_takeClause_5 : decode cX9_takeClause 5 = .ok (.iload_n 1, 1) := by decide +kernel
theorem dX9_takeClause_6 : decode cX9_takeClause 6 = .ok (.bipush 109, 2) := by decide +kernel
theorem dX9_takeClause_8 : decode cX9_takeClause 8 = .ok (.if_icmp .ne 7, 3) := by decide +kernel
theorem dX9_takeClause_11 : decode cX9_takeClause 11 = .ok (.iconst 0, 1) := by decide +kernel
theorem dX9_takeClause_12 : decode cX9_takeClause 12 = .ok (.goto 44, 3) := by decide +kernel
theorem dX9_takeClause_15 : decode cX9_takeClause 15 = .ok (.iload_n 1, 1) := by decide +kernel
theorem dX9_takeClause_16 : decode cX9_takeClause 16 = .ok (.bipush 119, 2) := by decide +kernel
theorem dX9_takeClause_18 : decode cX9_takeClause 18 = .ok (.if_icmp .ne 7, 3) := by decide +kernel
theorem dX9_takeClause_21 : decode cX9_takeClause 21 = .ok (.iconst 1, 1) := by decide +kernel
theorem dX9_takeClause_22 : decode cX9_takeClause 22 = .ok (.goto 34, 3) := by decide +kernel
theorem dX9_takeClause_25 : decode cX9_takeClause 25 = .ok (.iload_n 1, 1) := by decide +kernel
theorem dX9_takeClause_26 : decode cX9_takeClause 26 = .ok (.bipush 106, 2) := by decide +kernel
theorem dX9_takeClause_28 : decode cX9_takeClause 28 = .ok (.if_icmp .ne 7, 3) := by decide +kernel
theorem dX9_takeClause_31 : decode cX9_takeClause 31 = .ok (.iconst 2, 1) := by decide +kernel
theorem dX9_takeClause_32 : decode cX9_takeClause 32 = .ok (.goto 24, 3) := by decide +kernel
theorem dX9_takeClause_35 : decode cX9_takeClause 35 = .ok (.iload_n 1, 1) := by decide +kernel
theorem dX9_takeClause_36 : decode cX9_takeClause 36 = .ok (.bipush 115, 2) := by decide +kernel
theorem dX9_takeClause_38 : decode cX9_takeClause 38 = .ok (.if_icmp .ne 7, 3) := by decide +kernel
theorem dX9_takeClause_41 : decode cX9_takeClause 41 = .ok (.iconst 3, 1) := by decide +kernel
theorem dX9_takeClause_42 : decode cX9_takeClause 42 = .ok (.goto 14, 3) := by decide +kernel
theorem dX9_takeClause_45 : decode cX9_takeClause 45 = .ok (.iload_n 1, 1) := by decide +kernel
theorem dX9_takeClause_46 : decode cX9_takeClause 46 = .ok (.bipush 98, 2) := by decide +kernel
theorem dX9_takeClause_48 : decode cX9_takeClause 48 = .ok (.if_icmp .ne 7, 3) := by decide +kernel
theorem dX9_takeClause_51 : decode cX9_takeClause 51 = .ok (.iconst 4, 1) := by decide +kernel
theorem dX9_takeClause_52 : decode cX9_takeClause 52 = .ok (.goto 4, 3) := by decide +kernel
theorem dX9_takeClause_55 : decode cX9_takeClause 55 = .ok (.iconst (-1), 1) := by decide +kernel
theorem dX9_takeClause_56 : decode cX9_takeClause 56 = .ok (.istore_n 2, 1) := by decide +kernel
theorem dX9_takeClause_57 : decode cX9_takeClause 57 = .ok (.iload_n 2, 1) := by decide +kernel
theorem dX9_takeClause_58 : decode cX9_takeClause 58 = .ok (.ifCond .lt 14, 3) := by decide +kernel
theorem dX9_takeClause_61 : decode cX9_takeClause 61 = .ok (.iload_n 2, 1) := by decide +kernel
theorem dX9_takeClause_62 : decode cX9_takeClause 62 = .ok (.ifCond .le 20, 3) := by decide +kernel
theorem dX9_takeClause_65 : decode cX9_takeClause 65 = .ok (.aload_n 0, 1) := by decide +kernel
theorem dX9_takeClause_66 : decode cX9_takeClause 66 = .ok (.getfield 129, 3) := by decide +kernel
theorem dX9_takeClause_69 : decode cX9_takeClause 69 = .ok (.ifCond .ne 13, 3) := by decide +kernel
theorem dX9_takeClause_72 : decode cX9_takeClause 72 = .ok (.aload_n 0, 1) := by decide +kernel
theorem dX9_takeClause_73 : decode cX9_takeClause 73 = .ok (.iconst 1, 1) := by decide +kernel
theorem dX9_takeClause_74 : decode cX9_takeClause 74 = .ok (.aload_n 0, 1) := by decide +kernel
theorem dX9_takeClause_75 : decode cX9_takeClause 75 = .ok (.getfield 105, 3) := by decide +kernel
theorem dX9_takeClause_78 : decode cX9_takeClause 78 = .ok (.invokevirtual 116, 3) := by decide +kernel
theorem dX9_takeClause_81 : decode cX9_takeClause 81 = .ok (.ireturn, 1) := by decide +kernel
theorem dX9_takeClause_82 : decode cX9_takeClause 82 = .ok (.iload_n 2, 1) := by decide +kernel
theorem dX9_takeClause_83 : decode cX9_takeClause 83 = .ok (.ifCond .ne 10, 3) := by decide +kernel
theorem dX9_takeClause_86 : decode cX9_takeClause 86 = .ok (.aload_n 0, 1) := by decide +kernel
theorem dX9_takeClause_87 : decode cX9_takeClause 87 = .ok (.getfield 129, 3) := by decide +kernel
theorem dX9_takeClause_90 : decode cX9_takeClause 90 = .ok (.goto 61, 3) := by decide +kernel
theorem dX9_takeClause_93 : decode cX9_takeClause 93 = .ok (.iload_n 2, 1) := by decide +kernel
theorem dX9_takeClause_94 : decode cX9_takeClause 94 = .ok (.iconst 1, 1) := by decide +kernel
theorem dX9_takeClause_95 : decode cX9_takeClause 95 = .ok (.if_icmp .ne 18, 3) := by decide +kernel
theorem dX9_takeClause_98 : decode cX9_takeClause 98 = .ok (.aload_n 0, 1) := by decide +kernel
theorem dX9_takeClause_99 : decode cX9_takeClause 99 = .ok (.getfield 136, 3) := by decide +kernel
theorem dX9_takeClause_102 : decode cX9_takeClause 102 = .ok (.ifCond .le 7, 3) := by decide +kernel
theorem dX9_takeClause_105 : decode cX9_takeClause 105 = .ok (.iconst 1, 1) := by decide +kernel
theorem dX9_takeClause_106 : decode cX9_takeClause 106 = .ok (.goto 45, 3) := by decide +kernel
theorem dX9_takeClause_109 : decode cX9_takeClause 109 = .ok (.iconst 0, 1) := by decide +kernel
theorem dX9_takeClause_110 : decode cX9_takeClause 110 = .ok (.goto 41, 3) := by decide +kernel
theorem dX9_takeClause_113 : decode cX9_takeClause 113 = .ok (.iload_n 2, 1) := by decide +kernel
theorem dX9_takeClause_114 : decode cX9_takeClause 114 = .ok (.iconst 2, 1) := by decide +kernel
theorem dX9_takeClause_115 : decode cX9_takeClause 115 = .ok (.if_icmp .ne 10, 3) := by decide +kernel
theorem dX9_takeClause_118 : decode cX9_takeClause 118 = .ok (.aload_n 0, 1) := by decide +kernel
theorem dX9_takeClause_119 : decode cX9_takeClause 119 = .ok (.getfield 139, 3) := by decide +kernel
theorem dX9_takeClause_122 : decode cX9_takeClause 122 = .ok (.goto 29, 3) := by decide +kernel
theorem dX9_takeClause_125 : decode cX9_takeClause 125 = .ok (.iload_n 2, 1) := by decide +kernel
theorem dX9_takeClause_126 : decode cX9_takeClause 126 = .ok (.iconst 3, 1) := by decide +kernel
theorem dX9_takeClause_127 : decode cX9_takeClause 127 = .ok (.if_icmp .ne 20, 3) := by decide +kernel
theorem dX9_takeClause_130 : decode cX9_takeClause 130 = .ok (.aload_n 0, 1) := by decide +kernel
theorem dX9_takeClause_131 : decode cX9_takeClause 131 = .ok (.getfield 142, 3) := by decide +kernel
theorem dX9_takeClause_134 : decode cX9_takeClause 134 = .ok (.bipush 6, 2) := by decide +kernel
theorem dX9_takeClause_136 : decode cX9_takeClause 136 = .ok (.if_icmp .ne 7, 3) := by decide +kernel
theorem dX9_takeClause_139 : decode cX9_takeClause 139 = .ok (.iconst 1, 1) := by decide +kernel
theorem dX9_takeClause_140 : decode cX9_takeClause 140 = .ok (.goto 11, 3) := by decide +kernel
theorem dX9_takeClause_143 : decode cX9_takeClause 143 = .ok (.iconst 0, 1) := by decide +kernel
theorem dX9_takeClause_144 : decode cX9_takeClause 144 = .ok (.goto 7, 3) := by decide +kernel
theorem dX9_takeClause_147 : decode cX9_takeClause 147 = .ok (.aload_n 0, 1) := by decide +kernel
theorem dX9_takeClause_148 : decode cX9_takeClause 148 = .ok (.getfield 145, 3) := by decide +kernel
theorem dX9_takeClause_151 : decode cX9_takeClause 151 = .ok (.istore_n 3, 1) := by decide +kernel
theorem dX9_takeClause_152 : decode cX9_takeClause 152 = .ok (.iload_n 3, 1) := by decide +kernel
theorem dX9_takeClause_153 : decode cX9_takeClause 153 = .ok (.ifCond .eq 13, 3) := by decide +kernel
theorem dX9_takeClause_156 : decode cX9_takeClause 156 = .ok (.aload_n 0, 1) := by decide +kernel
theorem dX9_takeClause_157 : decode cX9_takeClause 157 = .ok (.iconst 3, 1) := by decide +kernel
theorem dX9_takeClause_158 : decode cX9_takeClause 158 = .ok (.aload_n 0, 1) := by decide +kernel
theorem dX9_takeClause_159 : decode cX9_takeClause 159 = .ok (.getfield 105, 3) := by decide +kernel
theorem dX9_takeClause_162 : decode cX9_takeClause 162 = .ok (.invokevirtual 116, 3) := by decide +kernel
theorem dX9_takeClause_165 : decode cX9_takeClause 165 = .ok (.ireturn, 1) := by decide +kernel
theorem dX9_takeClause_166 : decode cX9_takeClause 166 = .ok (.aload_n 0, 1) := by decide +kernel
theorem dX9_takeClause_167 : decode cX9_takeClause 167 = .ok (.dup, 1) := by decide +kernel
theorem dX9_takeClause_168 : decode cX9_takeClause 168 = .ok (.getfield 105, 3) := by decide +kernel
theorem dX9_takeClause_171 : decode cX9_takeClause 171 = .ok (.iconst 1, 1) := by decide +kernel
theorem dX9_takeClause_172 : decode cX9_takeClause 172 = .ok (.iadd, 1) := by decide +kernel
theorem dX9_takeClause_173 : decode cX9_takeClause 173 = .ok (.putfield 105, 3) := by decide +kernel
theorem dX9_takeClause_176 : decode cX9_takeClause 176 = .ok (.iload_n 2, 1) := by decide +kernel
theorem dX9_takeClause_177 : decode cX9_takeClause 177 = .ok (.ifCond .ne 10, 3) := by decide +kernel
theorem dX9_takeClause_180 : decode cX9_takeClause 180 = .ok (.aload_n 0, 1) := by decide +kernel
theorem dX9_takeClause_181 : decode cX9_takeClause 181 = .ok (.invokevirtual 148, 3) := by decide +kernel
theorem dX9_takeClause_184 : decode cX9_takeClause 184 = .ok (.goto 43, 3) := by decide +kernel
theorem dX9_takeClause_187 : decode cX9_takeClause 187 = .ok (.iload_n 2, 1) := by decide +kernel
theorem dX9_takeClause_188 : decode cX9_takeClause 188 = .ok (.iconst 1, 1) := by decide +kernel
theorem dX9_takeClause_189 : decode cX9_takeClause 189 = .ok (.if_icmp .ne 10, 3) := by decide +kernel
theorem dX9_takeClause_192 : decode cX9_takeClause 192 = .ok (.aload_n 0, 1) := by decide +kernel
theorem dX9_takeClause_193 : decode cX9_takeClause 193 = .ok (.invokevirtual 151, 3) := by decide +kernel
theorem dX9_takeClause_196 : decode cX9_takeClause 196 = .ok (.goto 31, 3) := by decide +kernel
theorem dX9_takeClause_199 : decode cX9_takeClause 199 = .ok (.iload_n 2, 1) := by decide +kernel
theorem dX9_takeClause_200 : decode cX9_takeClause 200 = .ok (.iconst 2, 1) := by decide +kernel
theorem dX9_takeClause_201 : decode cX9_takeClause 201 = .ok (.if_icmp .ne 10, 3) := by decide +kernel
theorem dX9_takeClause_204 : decode cX9_takeClause 204 = .ok (.aload_n 0, 1) := by decide +kernel
theorem dX9_takeClause_205 : decode cX9_takeClause 205 = .ok (.invokevirtual 154, 3) := by decide +kernel
theorem dX9_takeClause_208 : decode cX9_takeClause 208 = .ok (.goto 19, 3) := by decide +kernel
theorem dX9_takeClause_211 : decode cX9_takeClause 211 = .ok (.iload_n 2, 1) := by decide +kernel
theorem dX9_takeClause_212 : decode cX9_takeClause 212 = .ok (.iconst 3, 1) := by decide +kernel
theorem dX9_takeClause_213 : decode cX9_takeClause 213 = .ok (.if_icmp .ne 10, 3) := by decide +kernel
theorem dX9_takeClause_216 : decode cX9_takeClause 216 = .ok (.aload_n 0, 1) := by decide +kernel
theorem dX9_takeClause_217 : decode cX9_takeClause 217 = .ok (.invokevirtual 157, 3) := by decide +kernel
theorem dX9_takeClause_220 : decode cX9_takeClause 220 = .ok (.goto 7, 3) := by decide +kernel
theorem dX9_takeClause_223 : decode cX9_takeClause 223 = .ok (.aload_n 0, 1) := by decide +kernel
theorem dX9_takeClause_224 : decode cX9_takeClause 224 = .ok (.invokevirtual 160, 3) := by decide +kernel
theorem dX9_takeClause_227 : decode cX9_takeClause 227 = .ok (.istore 4, 2) := by decide +kernel
theorem dX9_takeClause_229 : decode cX9_takeClause 229 = .ok (.iload 4, 2) := by decide +kernel
theorem dX9_takeClause_231 : decode cX9_takeClause 231 = .ok (.ifCond .ne 22, 3) := by decide +kernel
theorem dX9_takeClause_234 : decode cX9_takeClause 234 = .ok (.aload_n 0, 1) := by decide +kernel
theorem dX9_takeClause_235 : decode cX9_takeClause 235 = .ok (.invokevirtual 108, 3) := by decide +kernel
theorem dX9_takeClause_238 : decode cX9_takeClause 238 = .ok (.bipush 59, 2) := by decide +kernel
theorem dX9_takeClause_240 : decode cX9_takeClause 240 = .ok (.if_icmp .eq 13, 3) := by decide +kernel
theorem dX9_takeClause_243 : decode cX9_takeClause 243 = .ok (.aload_n 0, 1) := by decide +kernel
theorem dX9_takeClause_244 : decode cX9_takeClause 244 = .ok (.iconst 1, 1) := by decide +kernel
theorem dX9_takeClause_245 : decode cX9_takeClause 245 = .ok (.aload_n 0, 1) := by decide +kernel
theorem dX9_takeClause_246 : decode cX9_takeClause 246 = .ok (.getfield 105, 3) := by decide +kernel
theorem dX9_takeClause_249 : decode cX9_takeClause 249 = .ok (.invokevirtual 116, 3) := by decide +kernel
theorem dX9_takeClause_252 : decode cX9_takeClause 252 = .ok (.ireturn, 1) := by decide +kernel
theorem dX9_takeClause_253 : decode cX9_takeClause 253 = .ok (.aload_n 0, 1) := by decide +kernel
theorem dX9_takeClause_254 : decode cX9_takeClause 254 = .ok (.dup, 1) := by decide +kernel
theorem dX9_takeClause_255 : decode cX9_takeClause 255 = .ok (.getfield 105, 3) := by decide +kernel
theorem dX9_takeClause_258 : decode cX9_takeClause 258 = .ok (.iconst 1, 1) := by decide +kernel
theorem dX9_takeClause_259 : decode cX9_takeClause 259 = .ok (.iadd, 1) := by decide +kernel
theorem dX9_takeClause_260 : decode cX9_takeClause 260 = .ok (.putfield 105, 3) := by decide +kernel
theorem dX9_takeClause_263 : decode cX9_takeClause 263 = .ok (.iload 4, 2) := by decide +kernel
theorem dX9_takeClause_265 : decode cX9_takeClause 265 = .ok (.ireturn, 1) := by decide +kernel
theorem dX9_takeRead_0 : decode cX9_takeRead 0 = .ok (.aload_n 0, 1) := by decide +kernel
theorem dX9_takeRead_1 : decode cX9_takeRead 1 = .ok (.aload_n 0, 1) := by decide +kernel
theorem dX9_takeRead_2 : decode cX9_takeRead 2 = .ok (.getfield 129, 3) := by decide +kernel
theorem dX9_takeRead_5 : decode cX9_takeRead 5 = .ok (.putfield 90, 3) := by decide +kernel
theorem dX9_takeRead_8 : decode cX9_takeRead 8 = .ok (.aload_n 0, 1) := by decide +kernel
theorem dX9_takeRead_9 : decode cX9_takeRead 9 = .ok (.aload_n 0, 1) := by decide +kernel
theorem dX9_takeRead_10 : decode cX9_takeRead 10 = .ok (.getfield 129, 3) := by decide +kernel
theorem dX9_takeRead_13 : decode cX9_takeRead 13 = .ok (.ifCond .eq 15, 3) := by decide +kernel
theorem dX9_takeRead_16 : decode cX9_takeRead 16 = .ok (.aload_n 0, 1) := by decide +kernel
theorem dX9_takeRead_17 : decode cX9_takeRead 17 = .ok (.getfield 38, 3) := by decide +kernel
theorem dX9_takeRead_20 : decode cX9_takeRead 20 = .ok (.iconst 0, 1) := by decide +kernel
theorem dX9_takeRead_21 : decode cX9_takeRead 21 = .ok (.iaload, 1) := by decide +kernel
theorem dX9_takeRead_22 : decode cX9_takeRead 22 = .ok (.bipush 9, 2) := by decide +kernel
theorem dX9_takeRead_24 : decode cX9_takeRead 24 = .ok (.isub, 1) := by decide +kernel
theorem dX9_takeRead_25 : decode cX9_takeRead 25 = .ok (.goto 4, 3) := by decide +kernel
theorem dX9_takeRead_28 : decode cX9_takeRead 28 = .ok (.iconst 0, 1) := by decide +kernel
theorem dX9_takeRead_29 : decode cX9_takeRead 29 = .ok (.putfield 163, 3) := by decide +kernel
theorem dX9_takeRead_32 : decode cX9_takeRead 32 = .ok (.aload_n 0, 1) := by decide +kernel
theorem dX9_takeRead_33 : decode cX9_takeRead 33 = .ok (.aload_n 0, 1) := by decide +kernel
theorem dX9_takeRead_34 : decode cX9_takeRead 34 = .ok (.getfield 129, 3) := by decide +kernel
theorem dX9_takeRead_37 : decode cX9_takeRead 37 = .ok (.ifCond .eq 15, 3) := by decide +kernel
theorem dX9_takeRead_40 : decode cX9_takeRead 40 = .ok (.aload_n 0, 1) := by decide +kernel
theorem dX9_takeRead_41 : decode cX9_takeRead 41 = .ok (.getfield 38, 3) := by decide +kernel
theorem dX9_takeRead_44 : decode cX9_takeRead 44 = .ok (.iconst 1, 1) := by decide +kernel
theorem dX9_takeRead_45 : decode cX9_takeRead 45 = .ok (.iaload, 1) := by decide +kernel
theorem dX9_takeRead_46 : decode cX9_takeRead 46 = .ok (.bipush 9, 2) := by decide +kernel
theorem dX9_takeRead_48 : decode cX9_takeRead 48 = .ok (.isub, 1) := by decide +kernel
theorem dX9_takeRead_49 : decode cX9_takeRead 49 = .ok (.goto 4, 3) := by decide +kernel
theorem dX9_takeRead_52 : decode cX9_takeRead 52 = .ok (.iconst 0, 1) := by decide +kernel
theorem dX9_takeRead_53 : decode cX9_takeRead 53 = .ok (.putfield 166, 3) := by decide +kernel
theorem dX9_takeRead_56 : decode cX9_takeRead 56 = .ok (.aload_n 0, 1) := by decide +kernel
theorem dX9_takeRead_57 : decode cX9_takeRead 57 = .ok (.aload_n 0, 1) := by decide +kernel
theorem dX9_takeRead_58 : decode cX9_takeRead 58 = .ok (.getfield 129, 3) := by decide +kernel
theorem dX9_takeRead_61 : decode cX9_takeRead 61 = .ok (.ifCond .eq 12, 3) := by decide +kernel
theorem dX9_takeRead_64 : decode cX9_takeRead 64 = .ok (.aload_n 0, 1) := by decide +kernel
theorem dX9_takeRead_65 : decode cX9_takeRead 65 = .ok (.getfield 38, 3) := by decide +kernel
theorem dX9_takeRead_68 : decode cX9_takeRead 68 = .ok (.iconst 2, 1) := by decide +kernel
theorem dX9_takeRead_69 : decode cX9_takeRead 69 = .ok (.iaload, 1) := by decide +kernel
theorem dX9_takeRead_70 : decode cX9_takeRead 70 = .ok (.goto 4, 3) := by decide +kernel
theorem dX9_takeRead_73 : decode cX9_takeRead 73 = .ok (.iconst 0, 1) := by decide +kernel
theorem dX9_takeRead_74 : decode cX9_takeRead 74 = .ok (.putfield 169, 3) := by decide +kernel
theorem dX9_takeRead_77 : decode cX9_takeRead 77 = .ok (.aload_n 0, 1) := by decide +kernel
theorem dX9_takeRead_78 : decode cX9_takeRead 78 = .ok (.aload_n 0, 1) := by decide +kernel
theorem dX9_takeRead_79 : decode cX9_takeRead 79 = .ok (.getfield 136, 3) := by decide +kernel
theorem dX9_takeRead_82 : decode cX9_takeRead 82 = .ok (.ifCond .le 10, 3) := by decide +kernel
theorem dX9_takeRead_85 : decode cX9_takeRead 85 = .ok (.aload_n 0, 1) := by decide +kernel
theorem dX9_takeRead_86 : decode cX9_takeRead 86 = .ok (.getfield 136, 3) := by decide +kernel
theorem dX9_takeRead_89 : decode cX9_takeRead 89 = .ok (.goto 4, 3) := by decide +kernel
theorem dX9_takeRead_92 : decode cX9_takeRead 92 = .ok (.iconst 1, 1) := by decide +kernel
theorem dX9_takeRead_93 : decode cX9_takeRead 93 = .ok (.putfield 7, 3) := by decide +kernel
theorem dX9_takeRead_96 : decode cX9_takeRead 96 = .ok (.iconst 0, 1) := by decide +kernel
theorem dX9_takeRead_97 : decode cX9_takeRead 97 = .ok (.istore_n 1, 1) := by decide +kernel
theorem dX9_takeRead_98 : decode cX9_takeRead 98 = .ok (.iload_n 1, 1) := by decide +kernel
theorem dX9_takeRead_99 : decode cX9_takeRead 99 = .ok (.bipush 9, 2) := by decide +kernel
theorem dX9_takeRead_101 : decode cX9_takeRead 101 = .ok (.if_icmp .ge 36, 3) := by decide +kernel
theorem dX9_takeRead_104 : decode cX9_takeRead 104 = .ok (.aload_n 0, 1) := by decide +kernel
theorem dX9_takeRead_105 : decode cX9_takeRead 105 = .ok (.getfield 13, 3) := by decide +kernel
theorem dX9_takeRead_108 : decode cX9_takeRead 108 = .ok (.iload_n 1, 1) := by decide +kernel
theorem dX9_takeRead_109 : decode cX9_takeRead 109 = .ok (.iload_n 1, 1) := by decide +kernel
theorem dX9_takeRead_110 : decode cX9_takeRead 110 = .ok (.aload_n 0, 1) := by decide +kernel
theorem dX9_takeRead_111 : decode cX9_takeRead 111 = .ok (.getfield 136, 3) := by decide +kernel
theorem dX9_takeRead_114 : decode cX9_takeRead 114 = .ok (.if_icmp .ge 15, 3) := by decide +kernel
theorem dX9_takeRead_117 : decode cX9_takeRead 117 = .ok (.aload_n 0, 1) := by decide +kernel
theorem dX9_takeRead_118 : decode cX9_takeRead 118 = .ok (.getfield 41, 3) := by decide +kernel
theorem dX9_takeRead_121 : decode cX9_takeRead 121 = .ok (.iload_n 1, 1) := by decide +kernel
theorem dX9_takeRead_122 : decode cX9_takeRead 122 = .ok (.iaload, 1) := by decide +kernel
theorem dX9_takeRead_123 : decode cX9_takeRead 123 = .ok (.bipush 9, 2) := by decide +kernel
theorem dX9_takeRead_125 : decode cX9_takeRead 125 = .ok (.isub, 1) := by decide +kernel
theorem dX9_takeRead_126 : decode cX9_takeRead 126 = .ok (.goto 4, 3) := by decide +kernel
theorem dX9_takeRead_129 : decode cX9_takeRead 129 = .ok (.iconst 0, 1) := by decide +kernel
theorem dX9_takeRead_130 : decode cX9_takeRead 130 = .ok (.iastore, 1) := by decide +kernel
theorem dX9_takeRead_131 : decode cX9_takeRead 131 = .ok (.iinc 1 1, 3) := by decide +kernel
theorem dX9_takeRead_134 : decode cX9_takeRead 134 = .ok (.goto (-36), 3) := by decide +kernel
theorem dX9_takeRead_137 : decode cX9_takeRead 137 = .ok (.aload_n 0, 1) := by decide +kernel
theorem dX9_takeRead_138 : decode cX9_takeRead 138 = .ok (.aload_n 0, 1) := by decide +kernel
theorem dX9_takeRead_139 : decode cX9_takeRead 139 = .ok (.getfield 139, 3) := by decide +kernel
theorem dX9_takeRead_142 : decode cX9_takeRead 142 = .ok (.ifCond .eq 12, 3) := by decide +kernel
theorem dX9_takeRead_145 : decode cX9_takeRead 145 = .ok (.aload_n 0, 1) := by decide +kernel
theorem dX9_takeRead_146 : decode cX9_takeRead 146 = .ok (.getfield 44, 3) := by decide +kernel
theorem dX9_takeRead_149 : decode cX9_takeRead 149 = .ok (.iconst 0, 1) := by decide +kernel
theorem dX9_takeRead_150 : decode cX9_takeRead 150 = .ok (.iaload, 1) := by decide +kernel
theorem dX9_takeRead_151 : decode cX9_takeRead 151 = .ok (.goto 4, 3) := by decide +kernel
theorem dX9_takeRead_154 : decode cX9_takeRead 154 = .ok (.iconst (-1), 1) := by decide +kernel
theorem dX9_takeRead_155 : decode cX9_takeRead 155 = .ok (.putfield 17, 3) := by decide +kernel
theorem dX9_takeRead_158 : decode cX9_takeRead 158 = .ok (.aload_n 0, 1) := by decide +kernel
theorem dX9_takeRead_159 : decode cX9_takeRead 159 = .ok (.aload_n 0, 1) := by decide +kernel
theorem dX9_takeRead_160 : decode cX9_takeRead 160 = .ok (.getfield 139, 3) := by decide +kernel
theorem dX9_takeRead_163 : decode cX9_takeRead 163 = .ok (.ifCond .eq 15, 3) := by decide +kernel
theorem dX9_takeRead_166 : decode cX9_takeRead 166 = .ok (.aload_n 0, 1) := by decide +kernel
theorem dX9_takeRead_167 : decode cX9_takeRead 167 = .ok (.getfield 44, 3) := by decide +kernel
theorem dX9_takeRead_170 : decode cX9_takeRead 170 = .ok (.iconst 1, 1) := by decide +kernel
theorem dX9_takeRead_171 : decode cX9_takeRead 171 = .ok (.iaload, 1) := by decide +kernel
theorem dX9_takeRead_172 : decode cX9_takeRead 172 = .ok (.bipush 99, 2) := by decide +kernel
theorem dX9_takeRead_174 : decode cX9_takeRead 174 = .ok (.isub, 1) := by decide +kernel
theorem dX9_takeRead_175 : decode cX9_takeRead 175 = .ok (.goto 4, 3) := by decide +kernel
theorem dX9_takeRead_178 : decode cX9_takeRead 178 = .ok (.iconst 0, 1) := by decide +kernel
theorem dX9_takeRead_179 : decode cX9_takeRead 179 = .ok (.putfield 172, 3) := by decide +kernel
theorem dX9_takeRead_182 : decode cX9_takeRead 182 = .ok (.aload_n 0, 1) := by decide +kernel
theorem dX9_takeRead_183 : decode cX9_takeRead 183 = .ok (.aload_n 0, 1) := by decide +kernel
theorem dX9_takeRead_184 : decode cX9_takeRead 184 = .ok (.getfield 145, 3) := by decide +kernel
theorem dX9_takeRead_187 : decode cX9_takeRead 187 = .ok (.ifCond .eq 12, 3) := by decide +kernel
theorem dX9_takeRead_190 : decode cX9_takeRead 190 = .ok (.aload_n 0, 1) := by decide +kernel
theorem dX9_takeRead_191 : decode cX9_takeRead 191 = .ok (.getfield 47, 3) := by decide +kernel
theorem dX9_takeRead_194 : decode cX9_takeRead 194 = .ok (.iconst 0, 1) := by decide +kernel
theorem dX9_takeRead_195 : decode cX9_takeRead 195 = .ok (.iaload, 1) := by decide +kernel
theorem dX9_takeRead_196 : decode cX9_takeRead 196 = .ok (.goto 4, 3) := by decide +kernel
theorem dX9_takeRead_199 : decode cX9_takeRead 199 = .ok (.iconst 1, 1) := by decide +kernel
theorem dX9_takeRead_200 : decode cX9_takeRead 200 = .ok (.putfield 20, 3) := by decide +kernel
theorem dX9_takeRead_203 : decode cX9_takeRead 203 = .ok (.aload_n 0, 1) := by decide +kernel
theorem dX9_takeRead_204 : decode cX9_takeRead 204 = .ok (.aload_n 0, 1) := by decide +kernel
theorem dX9_takeRead_205 : decode cX9_takeRead 205 = .ok (.getfield 142, 3) := by decide +kernel
theorem dX9_takeRead_208 : decode cX9_takeRead 208 = .ok (.putfield 175, 3) := by decide +kernel
theorem dX9_takeRead_211 : decode cX9_takeRead 211 = .ok (.iconst 0, 1) := by decide +kernel
theorem dX9_takeRead_212 : decode cX9_takeRead 212 = .ok (.istore_n 1, 1) := by decide +kernel
theorem dX9_takeRead_213 : decode cX9_takeRead 213 = .ok (.iload_n 1, 1) := by decide +kernel
theorem dX9_takeRead_214 : decode cX9_takeRead 214 = .ok (.aload_n 0, 1) := by decide +kernel
theorem dX9_takeRead_215 : decode cX9_takeRead 215 = .ok (.getfield 175, 3) := by decide +kernel
theorem dX9_takeRead_218 : decode cX9_takeRead 218 = .ok (.if_icmp .ge 33, 3) := by decide +kernel
theorem dX9_takeRead_221 : decode cX9_takeRead 221 = .ok (.aload_n 0, 1) := by decide +kernel
theorem dX9_takeRead_222 : decode cX9_takeRead 222 = .ok (.getfield 23, 3) := by decide +kernel
theorem dX9_takeRead_225 : decode cX9_takeRead 225 = .ok (.iload_n 1, 1) := by decide +kernel
theorem dX9_takeRead_226 : decode cX9_takeRead 226 = .ok (.aload_n 0, 1) := by decide +kernel
theorem dX9_takeRead_227 : decode cX9_takeRead 227 = .ok (.getfield 50, 3) := by decide +kernel
theorem dX9_takeRead_230 : decode cX9_takeRead 230 = .ok (.iload_n 1, 1) := by decide +kernel
theorem dX9_takeRead_231 : decode cX9_takeRead 231 = .ok (.iaload, 1) := by decide +kernel
theorem dX9_takeRead_232 : decode cX9_takeRead 232 = .ok (.iastore, 1) := by decide +kernel
theorem dX9_takeRead_233 : decode cX9_takeRead 233 = .ok (.aload_n 0, 1) := by decide +kernel
theorem dX9_takeRead_234 : decode cX9_takeRead 234 = .ok (.getfield 26, 3) := by decide +kernel
theorem dX9_takeRead_237 : decode cX9_takeRead 237 = .ok (.iload_n 1, 1) := by decide +kernel
theorem dX9_takeRead_238 : decode cX9_takeRead 238 = .ok (.aload_n 0, 1) := by decide +kernel
theorem dX9_takeRead_239 : decode cX9_takeRead 239 = .ok (.getfield 53, 3) := by decide +kernel
theorem dX9_takeRead_242 : decode cX9_takeRead 242 = .ok (.iload_n 1, 1) := by decide +kernel
theorem dX9_takeRead_243 : decode cX9_takeRead 243 = .ok (.iaload, 1) := by decide +kernel
theorem dX9_takeRead_244 : decode cX9_takeRead 244 = .ok (.iastore, 1) := by decide +kernel
theorem dX9_takeRead_245 : decode cX9_takeRead 245 = .ok (.iinc 1 1, 3) := by decide +kernel
theorem dX9_takeRead_248 : decode cX9_takeRead 248 = .ok (.goto (-35), 3) := by decide +kernel
theorem dX9_takeRead_251 : decode cX9_takeRead 251 = .ok (.iconst 0, 1) := by decide +kernel
theorem dX9_takeRead_252 : decode cX9_takeRead 252 = .ok (.istore_n 1, 1) := by decide +kernel
theorem dX9_takeRead_253 : decode cX9_takeRead 253 = .ok (.iload_n 1, 1) := by decide +kernel
theorem dX9_takeRead_254 : decode cX9_takeRead 254 = .ok (.bipush 12, 2) := by decide +kernel
theorem dX9_takeRead_256 : decode cX9_takeRead 256 = .ok (.if_icmp .ge 16, 3) := by decide +kernel
theorem dX9_takeRead_259 : decode cX9_takeRead 259 = .ok (.aload_n 0, 1) := by decide +kernel
theorem dX9_takeRead_260 : decode cX9_takeRead 260 = .ok (.getfield 29, 3) := by decide +kernel
theorem dX9_takeRead_263 : decode cX9_takeRead 263 = .ok (.iload_n 1, 1) := by decide +kernel
theorem dX9_takeRead_264 : decode cX9_takeRead 264 = .ok (.iconst 0, 1) := by decide +kernel
theorem dX9_takeRead_265 : decode cX9_takeRead 265 = .ok (.iastore, 1) := by decide +kernel
theorem dX9_takeRead_266 : decode cX9_takeRead 266 = .ok (.iinc 1 1, 3) := by decide +kernel
theorem dX9_takeRead_269 : decode cX9_takeRead 269 = .ok (.goto (-16), 3) := by decide +kernel
theorem dX9_takeRead_272 : decode cX9_takeRead 272 = .ok (.return_, 1) := by decide +kernel
set_option maxRecDepth 20000 in
theorem ggX9_mount_X9_here : GoodIn wsX9_mount wsX9_here := goodIn_r _ [19, 2, 8, 20, 86, 87, 88, 89, 90, 91, 92, 93, 94, 95, 96, 97, 98, 99, 100, 101, 102, 103, 104, 105, 106, 107, 108, 109, 110, 111, 112, 113, 114, 115, 116, 117, 118, 119, 120, 121, 122, 123, 124, 125, 126, 127, 128, 129, 130, 131, 132] (by decide +kernel) (by decide +kernel)
set_option maxRecDepth 20000 in
theorem gX9_mount_X9_here : GoodIn wsX9_mount (wsV RX9 108 RX9 yX9_here wsX9_here) := goodIn_app (goodIn_of _ (by decide +kernel)) ggX9_mount_X9_here
set_option maxRecDepth 20000 in
theorem ggX9_mount_X9_takeClause : GoodIn wsX9_mount wsX9_takeClause := goodIn_r _ [24, 3, 2, 4, 5, 7, 6, 15, 16, 17, 18, 19, 8, 20, 25, 26, 27, 28, 1, 29, 30, 31, 32, 33, 34, 35, 36, 37, 38, 39, 40, 41, 42, 43, 44, 45, 46, 47, 48, 49, 50, 51, 52, 53, 54, 55, 56, 57, 58, 59, 60, 61, 62, 63, 64, 65, 66, 67, 68, 69, 86, 87, 88, 89, 90, 91, 92, 93, 94, 95, 96, 97, 98, 99, 100, 101, 102, 103, 104, 105, 106, 107, 108, 109, 110, 111, 112, 113, 114, 115, 116, 117, 118, 119, 120, 121, 122, 123, 124, 125, 126, 127, 128, 129, 130, 131, 132] (by decide +kernel) (by decide +kernel)
set_option maxRecDepth 20000 in
theorem gX9_mount_X9_takeClause : GoodIn wsX9_mount (wsV RX9 178 RX9 yX9_takeClause wsX9_takeClause) := goodIn_app (goodIn_of _ (by decide +kernel)) ggX9_mount_X9_takeClause
set_option maxRecDepth 20000 in
theorem ggX9_mount_X9_takeRead : GoodIn wsX9_mount wsX9_takeRead := goodIn_r _ [73, 3, 74, 33, 75, 76, 77, 4, 78, 79, 53, 5, 58, 80, 81, 6, 69, 82, 7, 14, 83, 63, 84, 64, 85, 86, 87, 88, 89, 90, 91, 92, 93, 94, 95, 96, 97, 98, 99, 100, 101, 102, 103, 104, 105, 106, 107, 108, 109, 110, 111, 112, 113, 114, 115, 116, 117, 118, 119, 120, 121, 122, 123, 124, 125, 126, 127, 128, 129, 130, 131, 132] (by decide +kernel) (by decide +kernel)
set_option maxRecDepth 20000 in
theorem gX9_mount_X9_takeRead : GoodIn wsX9_mount (wsV RX9 181 RX9 yX9_takeRead wsX9_takeRead) := goodIn_app (goodIn_of _ (by decide +kernel)) ggX9_mount_X9_takeRead
theorem dX9_mount_0 : decode cX9_mount 0 = .ok (.aload_n 0, 1) := by decide +kernel
theorem dX9_mount_1 : decode cX9_mount 1 = .ok (.iconst (-1), 1) := by decide +kernel
theorem dX9_mount_2 : decode cX9_mount 2 = .ok (.putfield 35, 3) := by decide +kernel
theorem dX9_mount_5 : decode cX9_mount 5 = .ok (.aload_n 0, 1) := by decide +kernel
theorem dX9_mount_6 : decode cX9_mount 6 = .ok (.iconst 0, 1) := by decide +kernel
theorem dX9_mount_7 : decode cX9_mount 7 = .ok (.putfield 105, 3) := by decide +kernel
theorem dX9_mount_10 : decode cX9_mount 10 = .ok (.aload_n 0, 1) := by decide +kernel
theorem dX9_mount_11 : decode cX9_mount 11 = .ok (.iconst 0, 1) := by decide +kernel
theorem dX9_mount_12 : decode cX9_mount 12 = .ok (.putfield 129, 3) := by decide +kernel
theorem dX9_mount_15 : decode cX9_mount 15 = .ok (.aload_n 0, 1) := by decide +kernel
theorem dX9_mount_16 : decode cX9_mount 16 = .ok (.iconst 0, 1) := by decide +kernel
theorem dX9_mount_17 : decode cX9_mount 17 = .ok (.putfield 136, 3) := by decide +kernel
theorem dX9_mount_20 : decode cX9_mount 20 = .ok (.aload_n 0, 1) := by decide +kernel
theorem dX9_mount_21 : decode cX9_mount 21 = .ok (.iconst 0, 1) := by decide +kernel
theorem dX9_mount_22 : decode cX9_mount 22 = .ok (.putfield 139, 3) := by decide +kernel
theorem dX9_mount_25 : decode cX9_mount 25 = .ok (.aload_n 0, 1) := by decide +kernel
theorem dX9_mount_26 : decode cX9_mount 26 = .ok (.iconst 0, 1) := by decide +kernel
theorem dX9_mount_27 : decode cX9_mount 27 = .ok (.putfield 145, 3) := by decide +kernel
theorem dX9_mount_30 : decode cX9_mount 30 = .ok (.aload_n 0, 1) := by decide +kernel
theorem dX9_mount_31 : decode cX9_mount 31 = .ok (.iconst 0, 1) := by decide +kernel
theorem dX9_mount_32 : decode cX9_mount 32 = .ok (.putfield 142, 3) := by decide +kernel
theorem dX9_mount_35 : decode cX9_mount 35 = .ok (.iconst 0, 1) := by decide +kernel
theorem dX9_mount_36 : decode cX9_mount 36 = .ok (.istore_n 1, 1) := by decide +kernel
theorem dX9_mount_37 : decode cX9_mount 37 = .ok (.iload_n 1, 1) := by decide +kernel
theorem dX9_mount_38 : decode cX9_mount 38 = .ok (.ifCond .ne 18, 3) := by decide +kernel
theorem dX9_mount_41 : decode cX9_mount 41 = .ok (.aload_n 0, 1) := by decide +kernel
theorem dX9_mount_42 : decode cX9_mount 42 = .ok (.invokevirtual 108, 3) := by decide +kernel
theorem dX9_mount_45 : decode cX9_mount 45 = .ok (.ifCond .lt 11, 3) := by decide +kernel
theorem dX9_mount_48 : decode cX9_mount 48 = .ok (.aload_n 0, 1) := by decide +kernel
theorem dX9_mount_49 : decode cX9_mount 49 = .ok (.invokevirtual 178, 3) := by decide +kernel
theorem dX9_mount_52 : decode cX9_mount 52 = .ok (.istore_n 1, 1) := by decide +kernel
theorem dX9_mount_53 : decode cX9_mount 53 = .ok (.goto (-16), 3) := by decide +kernel
theorem dX9_mount_56 : decode cX9_mount 56 = .ok (.aload_n 0, 1) := by decide +kernel
theorem dX9_mount_57 : decode cX9_mount 57 = .ok (.iconst 0, 1) := by decide +kernel
theorem dX9_mount_58 : decode cX9_mount 58 = .ok (.putfield 101, 3) := by decide +kernel
theorem dX9_mount_61 : decode cX9_mount 61 = .ok (.iload_n 1, 1) := by decide +kernel
theorem dX9_mount_62 : decode cX9_mount 62 = .ok (.ifCond .le 8, 3) := by decide +kernel
theorem dX9_mount_65 : decode cX9_mount 65 = .ok (.bipush (-10), 2) := by decide +kernel
theorem dX9_mount_67 : decode cX9_mount 67 = .ok (.iload_n 1, 1) := by decide +kernel
theorem dX9_mount_68 : decode cX9_mount 68 = .ok (.isub, 1) := by decide +kernel
theorem dX9_mount_69 : decode cX9_mount 69 = .ok (.ireturn, 1) := by decide +kernel
theorem dX9_mount_70 : decode cX9_mount 70 = .ok (.aload_n 0, 1) := by decide +kernel
theorem dX9_mount_71 : decode cX9_mount 71 = .ok (.invokevirtual 181, 3) := by decide +kernel
theorem dX9_mount_74 : decode cX9_mount 74 = .ok (.aload_n 0, 1) := by decide +kernel
theorem dX9_mount_75 : decode cX9_mount 75 = .ok (.iconst 0, 1) := by decide +kernel
theorem dX9_mount_76 : decode cX9_mount 76 = .ok (.putfield 184, 3) := by decide +kernel
theorem dX9_mount_79 : decode cX9_mount 79 = .ok (.aload_n 0, 1) := by decide +kernel
theorem dX9_mount_80 : decode cX9_mount 80 = .ok (.iconst 0, 1) := by decide +kernel
theorem dX9_mount_81 : decode cX9_mount 81 = .ok (.putfield 187, 3) := by decide +kernel
theorem dX9_mount_84 : decode cX9_mount 84 = .ok (.aload_n 0, 1) := by decide +kernel
theorem dX9_mount_85 : decode cX9_mount 85 = .ok (.iconst 0, 1) := by decide +kernel
theorem dX9_mount_86 : decode cX9_mount 86 = .ok (.putfield 190, 3) := by decide +kernel
theorem dX9_mount_89 : decode cX9_mount 89 = .ok (.aload_n 0, 1) := by decide +kernel
theorem dX9_mount_90 : decode cX9_mount 90 = .ok (.iconst 0, 1) := by decide +kernel
theorem dX9_mount_91 : decode cX9_mount 91 = .ok (.putfield 193, 3) := by decide +kernel
theorem dX9_mount_94 : decode cX9_mount 94 = .ok (.aload_n 0, 1) := by decide +kernel
theorem dX9_mount_95 : decode cX9_mount 95 = .ok (.getfield 86, 3) := by decide +kernel
theorem dX9_mount_98 : decode cX9_mount 98 = .ok (.iconst 0, 1) := by decide +kernel
theorem dX9_mount_99 : decode cX9_mount 99 = .ok (.iconst 0, 1) := by decide +kernel
theorem dX9_mount_100 : decode cX9_mount 100 = .ok (.bastore, 1) := by decide +kernel
theorem dX9_mount_101 : decode cX9_mount 101 = .ok (.aload_n 0, 1) := by decide +kernel
theorem dX9_mount_102 : decode cX9_mount 102 = .ok (.getfield 86, 3) := by decide +kernel
theorem dX9_mount_105 : decode cX9_mount 105 = .ok (.iconst 1, 1) := by decide +kernel
theorem dX9_mount_106 : decode cX9_mount 106 = .ok (.iconst 0, 1) := by decide +kernel
theorem dX9_mount_107 : decode cX9_mount 107 = .ok (.bastore, 1) := by decide +kernel
theorem dX9_mount_108 : decode cX9_mount 108 = .ok (.aload_n 0, 1) := by decide +kernel
theorem dX9_mount_109 : decode cX9_mount 109 = .ok (.getfield 175, 3) := by decide +kernel
theorem dX9_mount_112 : decode cX9_mount 112 = .ok (.ireturn, 1) := by decide +kernel
theorem dX9_fault_0 : decode cX9_fault 0 = .ok (.aload_n 0, 1) := by decide +kernel
theorem dX9_fault_1 : decode cX9_fault 1 = .ok (.getfield 35, 3) := by decide +kernel
theorem dX9_fault_4 : decode cX9_fault 4 = .ok (.ireturn, 1) := by decide +kernel
theorem dX9_tailNow_0 : decode cX9_tailNow 0 = .ok (.aload_n 0, 1) := by decide +kernel
theorem dX9_tailNow_1 : decode cX9_tailNow 1 = .ok (.getfield 29, 3) := by decide +kernel
theorem dX9_tailNow_4 : decode cX9_tailNow 4 = .ok (.bipush 9, 2) := by decide +kernel
theorem dX9_tailNow_6 : decode cX9_tailNow 6 = .ok (.iaload, 1) := by decide +kernel
theorem dX9_tailNow_7 : decode cX9_tailNow 7 = .ok (.aload_n 0, 1) := by decide +kernel
theorem dX9_tailNow_8 : decode cX9_tailNow 8 = .ok (.getfield 29, 3) := by decide +kernel
theorem dX9_tailNow_11 : decode cX9_tailNow 11 = .ok (.bipush 8, 2) := by decide +kernel
theorem dX9_tailNow_13 : decode cX9_tailNow 13 = .ok (.iaload, 1) := by decide +kernel
theorem dX9_tailNow_14 : decode cX9_tailNow 14 = .ok (.isub, 1) := by decide +kernel
theorem dX9_tailNow_15 : decode cX9_tailNow 15 = .ok (.istore_n 1, 1) := by decide +kernel
theorem dX9_tailNow_16 : decode cX9_tailNow 16 = .ok (.aload_n 0, 1) := by decide +kernel
theorem dX9_tailNow_17 : decode cX9_tailNow 17 = .ok (.getfield 29, 3) := by decide +kernel
theorem dX9_tailNow_20 : decode cX9_tailNow 20 = .ok (.bipush 11, 2) := by decide +kernel
theorem dX9_tailNow_22 : decode cX9_tailNow 22 = .ok (.iaload, 1) := by decide +kernel
theorem dX9_tailNow_23 : decode cX9_tailNow 23 = .ok (.aload_n 0, 1) := by decide +kernel
theorem dX9_tailNow_24 : decode cX9_tailNow 24 = .ok (.getfield 29, 3) := by decide +kernel
theorem dX9_tailNow_27 : decode cX9_tailNow 27 = .ok (.bipush 10, 2) := by decide +kernel
theorem dX9_tailNow_29 : decode cX9_tailNow 29 = .ok (.iaload, 1) := by decide +kernel
theorem dX9_tailNow_30 : decode cX9_tailNow 30 = .ok (.isub, 1) := by decide +kernel
theorem dX9_tailNow_31 : decode cX9_tailNow 31 = .ok (.istore_n 2, 1) := by decide +kernel
theorem dX9_tailNow_32 : decode cX9_tailNow 32 = .ok (.aload_n 0, 1) := by decide +kernel
theorem dX9_tailNow_33 : decode cX9_tailNow 33 = .ok (.getfield 29, 3) := by decide +kernel
theorem dX9_tailNow_36 : decode cX9_tailNow 36 = .ok (.bipush 7, 2) := by decide +kernel
theorem dX9_tailNow_38 : decode cX9_tailNow 38 = .ok (.iaload, 1) := by decide +kernel
theorem dX9_tailNow_39 : decode cX9_tailNow 39 = .ok (.ifCond .ne 7, 3) := by decide +kernel
theorem dX9_tailNow_42 : decode cX9_tailNow 42 = .ok (.iconst 0, 1) := by decide +kernel
theorem dX9_tailNow_43 : decode cX9_tailNow 43 = .ok (.goto 13, 3) := by decide +kernel
theorem dX9_tailNow_46 : decode cX9_tailNow 46 = .ok (.iload_n 1, 1) := by decide +kernel
theorem dX9_tailNow_47 : decode cX9_tailNow 47 = .ok (.iload_n 2, 1) := by decide +kernel
theorem dX9_tailNow_48 : decode cX9_tailNow 48 = .ok (.if_icmp .le 7, 3) := by decide +kernel
theorem dX9_tailNow_51 : decode cX9_tailNow 51 = .ok (.iload_n 1, 1) := by decide +kernel
theorem dX9_tailNow_52 : decode cX9_tailNow 52 = .ok (.goto 4, 3) := by decide +kernel
theorem dX9_tailNow_55 : decode cX9_tailNow 55 = .ok (.iload_n 2, 1) := by decide +kernel
theorem dX9_tailNow_56 : decode cX9_tailNow 56 = .ok (.ireturn, 1) := by decide +kernel
set_option maxRecDepth 20000 in
theorem ggX9_told_X9_tailNow : GoodIn wsX9_told wsX9_tailNow := goodIn_r _ [21, 11, 22, 23, 24, 25, 26, 27, 28, 29, 30, 31, 32, 33, 34, 35, 36, 37, 38, 39, 40, 41, 42, 43, 44, 45, 46, 47, 48, 49, 50, 51, 52, 53, 54, 55, 56, 57, 58, 59, 60, 61, 62, 63, 64, 65, 66, 67, 68] (by decide +kernel) (by decide +kernel)
set_option maxRecDepth 20000 in
theorem gX9_told_X9_tailNow : GoodIn wsX9_told (wsV RX9 196 RX9 yX9_tailNow wsX9_tailNow) := goodIn_app (goodIn_of _ (by decide +kernel)) ggX9_told_X9_tailNow
theorem dX9_told_0 : decode cX9_told 0 = .ok (.iload_n 1, 1) := by decide +kernel
theorem dX9_told_1 : decode cX9_told 1 = .ok (.tableswitch 243 0 20 #[99, 112, 120, 128, 133, 138, 143, 151, 156, 161, 166, 173, 184, 195, 202, 210, 218, 223, 228, 233, 238], 99) := by decide +kernel
theorem dX9_told_100 : decode cX9_told 100 = .ok (.aload_n 0, 1) := by decide +kernel
theorem dX9_told_101 : decode cX9_told 101 = .ok (.getfield 90, 3) := by decide +kernel
theorem dX9_told_104 : decode cX9_told 104 = .ok (.ifCond .eq 7, 3) := by decide +kernel
theorem dX9_told_107 : decode cX9_told 107 = .ok (.iconst 1, 1) := by decide +kernel
theorem dX9_told_108 : decode cX9_told 108 = .ok (.goto 4, 3) := by decide +kernel
theorem dX9_told_111 : decode cX9_told 111 = .ok (.iconst 0, 1) := by decide +kernel
theorem dX9_told_112 : decode cX9_told 112 = .ok (.ireturn, 1) := by decide +kernel
theorem dX9_told_113 : decode cX9_told 113 = .ok (.aload_n 0, 1) := by decide +kernel
theorem dX9_told_114 : decode cX9_told 114 = .ok (.getfield 163, 3) := by decide +kernel
theorem dX9_told_117 : decode cX9_told 117 = .ok (.bipush 9, 2) := by decide +kernel
theorem dX9_told_119 : decode cX9_told 119 = .ok (.iadd, 1) := by decide +kernel
theorem dX9_told_120 : decode cX9_told 120 = .ok (.ireturn, 1) := by decide +kernel
theorem dX9_told_121 : decode cX9_told 121 = .ok (.aload_n 0, 1) := by decide +kernel
theorem dX9_told_122 : decode cX9_told 122 = .ok (.getfield 166, 3) := by decide +kernel
theorem dX9_told_125 : decode cX9_told 125 = .ok (.bipush 9, 2) := by decide +kernel
theorem dX9_told_127 : decode cX9_told 127 = .ok (.iadd, 1) := by decide +kernel
theorem dX9_told_128 : decode cX9_told 128 = .ok (.ireturn, 1) := by decide +kernel
theorem dX9_told_129 : decode cX9_told 129 = .ok (.aload_n 0, 1) := by decide +kernel
theorem dX9_told_130 : decode cX9_told 130 = .ok (.getfield 169, 3) := by decide +kernel
theorem dX9_told_133 : decode cX9_told 133 = .ok (.ireturn, 1) := by decide +kernel
theorem dX9_told_134 : decode cX9_told 134 = .ok (.aload_n 0, 1) := by decide +kernel
theorem dX9_told_135 : decode cX9_told 135 = .ok (.getfield 7, 3) := by decide +kernel
theorem dX9_told_138 : decode cX9_told 138 = .ok (.ireturn, 1) := by decide +kernel
theorem dX9_told_139 : decode cX9_told 139 = .ok (.aload_n 0, 1) := by decide +kernel
theorem dX9_told_140 : decode cX9_told 140 = .ok (.getfield 17, 3) := by decide +kernel
theorem dX9_told_143 : decode cX9_told 143 = .ok (.ireturn, 1) := by decide +kernel
theorem dX9_told_144 : decode cX9_told 144 = .ok (.aload_n 0, 1) := by decide +kernel
theorem dX9_told_145 : decode cX9_told 145 = .ok (.getfield 172, 3) := by decide +kernel
theorem dX9_told_148 : decode cX9_told 148 = .ok (.bipush 99, 2) := by decide +kernel
theorem dX9_told_150 : decode cX9_told 150 = .ok (.iadd, 1) := by decide +kernel
theorem dX9_told_151 : decode cX9_told 151 = .ok (.ireturn, 1) := by decide +kernel
theorem dX9_told_152 : decode cX9_told 152 = .ok (.aload_n 0, 1) := by decide +kernel
theorem dX9_told_153 : decode cX9_told 153 = .ok (.getfield 20, 3) := by decide +kernel
theorem dX9_told_156 : decode cX9_told 156 = .ok (.ireturn, 1) := by decide +kernel
theorem dX9_told_157 : decode cX9_told 157 = .ok (.aload_n 0, 1) := by decide +kernel
theorem dX9_told_158 : decode cX9_told 158 = .ok (.getfield 175, 3) := by decide +kernel
theorem dX9_told_161 : decode cX9_told 161 = .ok (.ireturn, 1) := by decide +kernel
theorem dX9_told_162 : decode cX9_told 162 = .ok (.aload_n 0, 1) := by decide +kernel
theorem dX9_told_163 : decode cX9_told 163 = .ok (.getfield 101, 3) := by decide +kernel
theorem dX9_told_166 : decode cX9_told 166 = .ok (.ireturn, 1) := by decide +kernel
theorem dX9_told_167 : decode cX9_told 167 = .ok (.aload_n 0, 1) := by decide +kernel
theorem dX9_told_168 : decode cX9_told 168 = .ok (.getfield 29, 3) := by decide +kernel
theorem dX9_told_171 : decode cX9_told 171 = .ok (.iconst 0, 1) := by decide +kernel
theorem dX9_told_172 : decode cX9_told 172 = .ok (.iaload, 1) := by decide +kernel
theorem dX9_told_173 : decode cX9_told 173 = .ok (.ireturn, 1) := by decide +kernel
theorem dX9_told_174 : decode cX9_told 174 = .ok (.aload_n 0, 1) := by decide +kernel
theorem dX9_told_175 : decode cX9_told 175 = .ok (.getfield 29, 3) := by decide +kernel
theorem dX9_told_178 : decode cX9_told 178 = .ok (.iconst 1, 1) := by decide +kernel
theorem dX9_told_179 : decode cX9_told 179 = .ok (.iaload, 1) := by decide +kernel
theorem dX9_told_180 : decode cX9_told 180 = .ok (.sipush 10000, 3) := by decide +kernel
theorem dX9_told_183 : decode cX9_told 183 = .ok (.iadd, 1) := by decide +kernel
theorem dX9_told_184 : decode cX9_told 184 = .ok (.ireturn, 1) := by decide +kernel
theorem dX9_told_185 : decode cX9_told 185 = .ok (.aload_n 0, 1) := by decide +kernel
theorem dX9_told_186 : decode cX9_told 186 = .ok (.getfield 29, 3) := by decide +kernel
theorem dX9_told_189 : decode cX9_told 189 = .ok (.iconst 2, 1) := by decide +kernel
theorem dX9_told_190 : decode cX9_told 190 = .ok (.iaload, 1) := by decide +kernel
theorem dX9_told_191 : decode cX9_told 191 = .ok (.sipush 10000, 3) := by decide +kernel
theorem dX9_told_194 : decode cX9_told 194 = .ok (.iadd, 1) := by decide +kernel
theorem dX9_told_195 : decode cX9_told 195 = .ok (.ireturn, 1) := by decide +kernel
theorem dX9_told_196 : decode cX9_told 196 = .ok (.aload_n 0, 1) := by decide +kernel
theorem dX9_told_197 : decode cX9_told 197 = .ok (.getfield 29, 3) := by decide +kernel
theorem dX9_told_200 : decode cX9_told 200 = .ok (.iconst 5, 1) := by decide +kernel
theorem dX9_told_201 : decode cX9_told 201 = .ok (.iaload, 1) := by decide +kernel
theorem dX9_told_202 : decode cX9_told 202 = .ok (.ireturn, 1) := by decide +kernel
theorem dX9_told_203 : decode cX9_told 203 = .ok (.aload_n 0, 1) := by decide +kernel
theorem dX9_told_204 : decode cX9_told 204 = .ok (.getfield 29, 3) := by decide +kernel
theorem dX9_told_207 : decode cX9_told 207 = .ok (.bipush 6, 2) := by decide +kernel
theorem dX9_told_209 : decode cX9_told 209 = .ok (.iaload, 1) := by decide +kernel
theorem dX9_told_210 : decode cX9_told 210 = .ok (.ireturn, 1) := by decide +kernel
theorem dX9_told_211 : decode cX9_told 211 = .ok (.aload_n 0, 1) := by decide +kernel
theorem dX9_told_212 : decode cX9_told 212 = .ok (.getfield 29, 3) := by decide +kernel
theorem dX9_told_215 : decode cX9_told 215 = .ok (.bipush 7, 2) := by decide +kernel
theorem dX9_told_217 : decode cX9_told 217 = .ok (.iaload, 1) := by decide +kernel
theorem dX9_told_218 : decode cX9_told 218 = .ok (.ireturn, 1) := by decide +kernel
theorem dX9_told_219 : decode cX9_told 219 = .ok (.aload_n 0, 1) := by decide +kernel
theorem dX9_told_220 : decode cX9_told 220 = .ok (.invokevirtual 196, 3) := by decide +kernel
theorem dX9_told_223 : decode cX9_told 223 = .ok (.ireturn, 1) := by decide +kernel
theorem dX9_told_224 : decode cX9_told 224 = .ok (.aload_n 0, 1) := by decide +kernel
theorem dX9_told_225 : decode cX9_told 225 = .ok (.getfield 184, 3) := by decide +kernel
theorem dX9_told_228 : decode cX9_told 228 = .ok (.ireturn, 1) := by decide +kernel
theorem dX9_told_229 : decode cX9_told 229 = .ok (.aload_n 0, 1) := by decide +kernel
theorem dX9_told_230 : decode cX9_told 230 = .ok (.getfield 187, 3) := by decide +kernel
theorem dX9_told_233 : decode cX9_told 233 = .ok (.ireturn, 1) := by decide +kernel
theorem dX9_told_234 : decode cX9_told 234 = .ok (.aload_n 0, 1) := by decide +kernel
theorem dX9_told_235 : decode cX9_told 235 = .ok (.getfield 190, 3) := by decide +kernel
theorem dX9_told_238 : decode cX9_told 238 = .ok (.ireturn, 1) := by decide +kernel
theorem dX9_told_239 : decode cX9_told 239 = .ok (.aload_n 0, 1) := by decide +kernel
theorem dX9_told_240 : decode cX9_told 240 = .ok (.getfield 193, 3) := by decide +kernel
theorem dX9_told_243 : decode cX9_told 243 = .ok (.ireturn, 1) := by decide +kernel
theorem dX9_told_244 : decode cX9_told 244 = .ok (.ldc 100, 2) := by decide +kernel
theorem dX9_told_246 : decode cX9_told 246 = .ok (.ireturn, 1) := by decide +kernel
set_option maxRecDepth 20000 in
theorem ggX9_worm_X9_in : GoodIn wsX9_worm wsX9_in := goodIn_r _ [7] (by decide +kernel) (by decide +kernel)
set_option maxRecDepth 20000 in
theorem gX9_worm_X9_in : GoodIn wsX9_worm (va_wsS RX9 96 yX9_in wsX9_in) := goodIn_app (goodIn_of _ (by decide +kernel)) ggX9_worm_X9_in
theorem dX9_worm_0 : decode cX9_worm 0 = .ok (.iload_n 1, 1) := by decide +kernel
theorem dX9_worm_1 : decode cX9_worm 1 = .ok (.i2l, 1) := by decide +kernel
theorem dX9_worm_2 : decode cX9_worm 2 = .ok (.lconst 0, 1) := by decide +kernel
theorem dX9_worm_3 : decode cX9_worm 3 = .ok (.aload_n 0, 1) := by decide +kernel
theorem dX9_worm_4 : decode cX9_worm 4 = .ok (.getfield 7, 3) := by decide +kernel
theorem dX9_worm_7 : decode cX9_worm 7 = .ok (.iconst 1, 1) := by decide +kernel
theorem dX9_worm_8 : decode cX9_worm 8 = .ok (.isub, 1) := by decide +kernel
theorem dX9_worm_9 : decode cX9_worm 9 = .ok (.i2l, 1) := by decide +kernel
theorem dX9_worm_10 : decode cX9_worm 10 = .ok (.invokestatic 96, 3) := by decide +kernel
theorem dX9_worm_13 : decode cX9_worm 13 = .ok (.ifCond .eq 15, 3) := by decide +kernel
theorem dX9_worm_16 : decode cX9_worm 16 = .ok (.aload_n 0, 1) := by decide +kernel
theorem dX9_worm_17 : decode cX9_worm 17 = .ok (.getfield 13, 3) := by decide +kernel
theorem dX9_worm_20 : decode cX9_worm 20 = .ok (.iload_n 1, 1) := by decide +kernel
theorem dX9_worm_21 : decode cX9_worm 21 = .ok (.iaload, 1) := by decide +kernel
theorem dX9_worm_22 : decode cX9_worm 22 = .ok (.bipush 9, 2) := by decide +kernel
theorem dX9_worm_24 : decode cX9_worm 24 = .ok (.iadd, 1) := by decide +kernel
theorem dX9_worm_25 : decode cX9_worm 25 = .ok (.goto 5, 3) := by decide +kernel
theorem dX9_worm_28 : decode cX9_worm 28 = .ok (.ldc 100, 2) := by decide +kernel
theorem dX9_worm_30 : decode cX9_worm 30 = .ok (.ireturn, 1) := by decide +kernel
set_option maxRecDepth 20000 in
theorem ggX9_star_X9_in : GoodIn wsX9_star wsX9_in := goodIn_r _ [9] (by decide +kernel) (by decide +kernel)
set_option maxRecDepth 20000 in
theorem gX9_star_X9_in : GoodIn wsX9_star (va_wsS RX9 96 yX9_in wsX9_in) := goodIn_app (goodIn_of _ (by decide +kernel)) ggX9_star_X9_in
theorem dX9_star_0 : decode cX9_star 0 = .ok (.iload_n 1, 1) := by decide +kernel
theorem dX9_star_1 : decode cX9_star 1 = .ok (.i2l, 1) := by decide +kernel
theorem dX9_star_2 : decode cX9_star 2 = .ok (.lconst 0, 1) := by decide +kernel
theorem dX9_star_3 : decode cX9_star 3 = .ok (.aload_n 0, 1) := by decide +kernel
theorem dX9_star_4 : decode cX9_star 4 = .ok (.getfield 175, 3) := by decide +kernel
theorem dX9_star_7 : decode cX9_star 7 = .ok (.iconst 1, 1) := by decide +kernel
theorem dX9_star_8 : decode cX9_star 8 = .ok (.isub, 1) := by decide +kernel
theorem dX9_star_9 : decode cX9_star 9 = .ok (.i2l, 1) := by decide +kernel
theorem dX9_star_10 : decode cX9_star 10 = .ok (.invokestatic 96, 3) := by decide +kernel
theorem dX9_star_13 : decode cX9_star 13 = .ok (.ifCond .ne 6, 3) := by decide +kernel
theorem dX9_star_16 : decode cX9_star 16 = .ok (.ldc 199, 2) := by decide +kernel
theorem dX9_star_18 : decode cX9_star 18 = .ok (.ireturn, 1) := by decide +kernel
theorem dX9_star_19 : decode cX9_star 19 = .ok (.iload_n 2, 1) := by decide +kernel
theorem dX9_star_20 : decode cX9_star 20 = .ok (.ifCond .ne 12, 3) := by decide +kernel
theorem dX9_star_23 : decode cX9_star 23 = .ok (.aload_n 0, 1) := by decide +kernel
theorem dX9_star_24 : decode cX9_star 24 = .ok (.getfield 23, 3) := by decide +kernel
theorem dX9_star_27 : decode cX9_star 27 = .ok (.iload_n 1, 1) := by decide +kernel
theorem dX9_star_28 : decode cX9_star 28 = .ok (.iaload, 1) := by decide +kernel
theorem dX9_star_29 : decode cX9_star 29 = .ok (.goto 19, 3) := by decide +kernel
theorem dX9_star_32 : decode cX9_star 32 = .ok (.iload_n 2, 1) := by decide +kernel
theorem dX9_star_33 : decode cX9_star 33 = .ok (.iconst 1, 1) := by decide +kernel
theorem dX9_star_34 : decode cX9_star 34 = .ok (.if_icmp .ne 12, 3) := by decide +kernel
theorem dX9_star_37 : decode cX9_star 37 = .ok (.aload_n 0, 1) := by decide +kernel
theorem dX9_star_38 : decode cX9_star 38 = .ok (.getfield 26, 3) := by decide +kernel
theorem dX9_star_41 : decode cX9_star 41 = .ok (.iload_n 1, 1) := by decide +kernel
theorem dX9_star_42 : decode cX9_star 42 = .ok (.iaload, 1) := by decide +kernel
theorem dX9_star_43 : decode cX9_star 43 = .ok (.goto 5, 3) := by decide +kernel
theorem dX9_star_46 : decode cX9_star 46 = .ok (.ldc 100, 2) := by decide +kernel
theorem dX9_star_48 : decode cX9_star 48 = .ok (.ireturn, 1) := by decide +kernel
theorem dX9_jumpOf_0 : decode cX9_jumpOf 0 = .ok (.iload_n 1, 1) := by decide +kernel
theorem dX9_jumpOf_1 : decode cX9_jumpOf 1 = .ok (.aload_n 0, 1) := by decide +kernel
theorem dX9_jumpOf_2 : decode cX9_jumpOf 2 = .ok (.getfield 17, 3) := by decide +kernel
theorem dX9_jumpOf_5 : decode cX9_jumpOf 5 = .ok (.if_icmp .ne 10, 3) := by decide +kernel
theorem dX9_jumpOf_8 : decode cX9_jumpOf 8 = .ok (.aload_n 0, 1) := by decide +kernel
theorem dX9_jumpOf_9 : decode cX9_jumpOf 9 = .ok (.getfield 172, 3) := by decide +kernel
theorem dX9_jumpOf_12 : decode cX9_jumpOf 12 = .ok (.goto 4, 3) := by decide +kernel
theorem dX9_jumpOf_15 : decode cX9_jumpOf 15 = .ok (.iconst 0, 1) := by decide +kernel
theorem dX9_jumpOf_16 : decode cX9_jumpOf 16 = .ok (.ireturn, 1) := by decide +kernel
theorem dX9_gather_0 : decode cX9_gather 0 = .ok (.aload_n 0, 1) := by decide +kernel
theorem dX9_gather_1 : decode cX9_gather 1 = .ok (.getfield 29, 3) := by decide +kernel
theorem dX9_gather_4 : decode cX9_gather 4 = .ok (.bipush 8, 2) := by decide +kernel
theorem dX9_gather_6 : decode cX9_gather 6 = .ok (.aload_n 0, 1) := by decide +kernel
theorem dX9_gather_7 : decode cX9_gather 7 = .ok (.getfield 29, 3) := by decide +kernel
theorem dX9_gather_10 : decode cX9_gather 10 = .ok (.bipush 7, 2) := by decide +kernel
theorem dX9_gather_12 : decode cX9_gather 12 = .ok (.iaload, 1) := by decide +kernel
theorem dX9_gather_13 : decode cX9_gather 13 = .ok (.ifCond .eq 19, 3) := by decide +kernel
theorem dX9_gather_16 : decode cX9_gather 16 = .ok (.aload_n 0, 1) := by decide +kernel
theorem dX9_gather_17 : decode cX9_gather 17 = .ok (.getfield 29, 3) := by decide +kernel
theorem dX9_gather_20 : decode cX9_gather 20 = .ok (.iconst 1, 1) := by decide +kernel
theorem dX9_gather_21 : decode cX9_gather 21 = .ok (.iaload, 1) := by decide +kernel
theorem dX9_gather_22 : decode cX9_gather 22 = .ok (.aload_n 0, 1) := by decide +kernel
theorem dX9_gather_23 : decode cX9_gather 23 = .ok (.getfield 29, 3) := by decide +kernel
theorem dX9_gather_26 : decode cX9_gather 26 = .ok (.bipush 8, 2) := by decide +kernel
theorem dX9_gather_28 : decode cX9_gather 28 = .ok (.iaload, 1) := by decide +kernel
theorem dX9_gather_29 : decode cX9_gather 29 = .ok (.if_icmp .ge 12, 3) := by decide +kernel
theorem dX9_gather_32 : decode cX9_gather 32 = .ok (.aload_n 0, 1) := by decide +kernel
theorem dX9_gather_33 : decode cX9_gather 33 = .ok (.getfield 29, 3) := by decide +kernel
theorem dX9_gather_36 : decode cX9_gather 36 = .ok (.iconst 1, 1) := by decide +kernel
theorem dX9_gather_37 : decode cX9_gather 37 = .ok (.iaload, 1) := by decide +kernel
theorem dX9_gather_38 : decode cX9_gather 38 = .ok (.goto 10, 3) := by decide +kernel
theorem dX9_gather_41 : decode cX9_gather 41 = .ok (.aload_n 0, 1) := by decide +kernel
theorem dX9_gather_42 : decode cX9_gather 42 = .ok (.getfield 29, 3) := by decide +kernel
theorem dX9_gather_45 : decode cX9_gather 45 = .ok (.bipush 8, 2) := by decide +kernel
theorem dX9_gather_47 : decode cX9_gather 47 = .ok (.iaload, 1) := by decide +kernel
theorem dX9_gather_48 : decode cX9_gather 48 = .ok (.iastore, 1) := by decide +kernel
theorem dX9_gather_49 : decode cX9_gather 49 = .ok (.aload_n 0, 1) := by decide +kernel
theorem dX9_gather_50 : decode cX9_gather 50 = .ok (.getfield 29, 3) := by decide +kernel
theorem dX9_gather_53 : decode cX9_gather 53 = .ok (.bipush 9, 2) := by decide +kernel
theorem dX9_gather_55 : decode cX9_gather 55 = .ok (.aload_n 0, 1) := by decide +kernel
theorem dX9_gather_56 : decode cX9_gather 56 = .ok (.getfield 29, 3) := by decide +kernel
theorem dX9_gather_59 : decode cX9_gather 59 = .ok (.bipush 7, 2) := by decide +kernel
theorem dX9_gather_61 : decode cX9_gather 61 = .ok (.iaload, 1) := by decide +kernel
theorem dX9_gather_62 : decode cX9_gather 62 = .ok (.ifCond .eq 19, 3) := by decide +kernel
theorem dX9_gather_65 : decode cX9_gather 65 = .ok (.aload_n 0, 1) := by decide +kernel
theorem dX9_gather_66 : decode cX9_gather 66 = .ok (.getfield 29, 3) := by decide +kernel
theorem dX9_gather_69 : decode cX9_gather 69 = .ok (.iconst 1, 1) := by decide +kernel
theorem dX9_gather_70 : decode cX9_gather 70 = .ok (.iaload, 1) := by decide +kernel
theorem dX9_gather_71 : decode cX9_gather 71 = .ok (.aload_n 0, 1) := by decide +kernel
theorem dX9_gather_72 : decode cX9_gather 72 = .ok (.getfield 29, 3) := by decide +kernel
theorem dX9_gather_75 : decode cX9_gather 75 = .ok (.bipush 9, 2) := by decide +kernel
theorem dX9_gather_77 : decode cX9_gather 77 = .ok (.iaload, 1) := by decide +kernel
theorem dX9_gather_78 : decode cX9_gather 78 = .ok (.if_icmp .le 12, 3) := by decide +kernel
theorem dX9_gather_81 : decode cX9_gather 81 = .ok (.aload_n 0, 1) := by decide +kernel
theorem dX9_gather_82 : decode cX9_gather 82 = .ok (.getfield 29, 3) := by decide +kernel
theorem dX9_gather_85 : decode cX9_gather 85 = .ok (.iconst 1, 1) := by decide +kernel
theorem dX9_gather_86 : decode cX9_gather 86 = .ok (.iaload, 1) := by decide +kernel
theorem dX9_gather_87 : decode cX9_gather 87 = .ok (.goto 10, 3) := by decide +kernel
theorem dX9_gather_90 : decode cX9_gather 90 = .ok (.aload_n 0, 1) := by decide +kernel
theorem dX9_gather_91 : decode cX9_gather 91 = .ok (.getfield 29, 3) := by decide +kernel
theorem dX9_gather_94 : decode cX9_gather 94 = .ok (.bipush 9, 2) := by decide +kernel
theorem dX9_gather_96 : decode cX9_gather 96 = .ok (.iaload, 1) := by decide +kernel
theorem dX9_gather_97 : decode cX9_gather 97 = .ok (.iastore, 1) := by decide +kernel
theorem dX9_gather_98 : decode cX9_gather 98 = .ok (.aload_n 0, 1) := by decide +kernel
theorem dX9_gather_99 : decode cX9_gather 99 = .ok (.getfield 29, 3) := by decide +kernel
theorem dX9_gather_102 : decode cX9_gather 102 = .ok (.bipush 10, 2) := by decide +kernel
theorem dX9_gather_104 : decode cX9_gather 104 = .ok (.aload_n 0, 1) := by decide +kernel
theorem dX9_gather_105 : decode cX9_gather 105 = .ok (.getfield 29, 3) := by decide +kernel
theorem dX9_gather_108 : decode cX9_gather 108 = .ok (.bipush 7, 2) := by decide +kernel
theorem dX9_gather_110 : decode cX9_gather 110 = .ok (.iaload, 1) := by decide +kernel
theorem dX9_gather_111 : decode cX9_gather 111 = .ok (.ifCond .eq 19, 3) := by decide +kernel
theorem dX9_gather_114 : decode cX9_gather 114 = .ok (.aload_n 0, 1) := by decide +kernel
theorem dX9_gather_115 : decode cX9_gather 115 = .ok (.getfield 29, 3) := by decide +kernel
theorem dX9_gather_118 : decode cX9_gather 118 = .ok (.iconst 2, 1) := by decide +kernel
theorem dX9_gather_119 : decode cX9_gather 119 = .ok (.iaload, 1) := by decide +kernel
theorem dX9_gather_120 : decode cX9_gather 120 = .ok (.aload_n 0, 1) := by decide +kernel
theorem dX9_gather_121 : decode cX9_gather 121 = .ok (.getfield 29, 3) := by decide +kernel
theorem dX9_gather_124 : decode cX9_gather 124 = .ok (.bipush 10, 2) := by decide +kernel
theorem dX9_gather_126 : decode cX9_gather 126 = .ok (.iaload, 1) := by decide +kernel
theorem dX9_gather_127 : decode cX9_gather 127 = .ok (.if_icmp .ge 12, 3) := by decide +kernel
theorem dX9_gather_130 : decode cX9_gather 130 = .ok (.aload_n 0, 1) := by decide +kernel
theorem dX9_gather_131 : decode cX9_gather 131 = .ok (.getfield 29, 3) := by decide +kernel
theorem dX9_gather_134 : decode cX9_gather 134 = .ok (.iconst 2, 1) := by decide +kernel
theorem dX9_gather_135 : decode cX9_gather 135 = .ok (.iaload, 1) := by decide +kernel
theorem dX9_gather_136 : decode cX9_gather 136 = .ok (.goto 10, 3) := by decide +kernel
theorem dX9_gather_139 : decode cX9_gather 139 = .ok (.aload_n 0, 1) := by decide +kernel
theorem dX9_gather_140 : decode cX9_gather 140 = .ok (.getfield 29, 3) := by decide +kernel
theorem dX9_gather_143 : decode cX9_gather 143 = .ok (.bipush 10, 2) := by decide +kernel
theorem dX9_gather_145 : decode cX9_gather 145 = .ok (.iaload, 1) := by decide +kernel
theorem dX9_gather_146 : decode cX9_gather 146 = .ok (.iastore, 1) := by decide +kernel
theorem dX9_gather_147 : decode cX9_gather 147 = .ok (.aload_n 0, 1) := by decide +kernel
theorem dX9_gather_148 : decode cX9_gather 148 = .ok (.getfield 29, 3) := by decide +kernel
theorem dX9_gather_151 : decode cX9_gather 151 = .ok (.bipush 11, 2) := by decide +kernel
theorem dX9_gather_153 : decode cX9_gather 153 = .ok (.aload_n 0, 1) := by decide +kernel
theorem dX9_gather_154 : decode cX9_gather 154 = .ok (.getfield 29, 3) := by decide +kernel
theorem dX9_gather_157 : decode cX9_gather 157 = .ok (.bipush 7, 2) := by decide +kernel
theorem dX9_gather_159 : decode cX9_gather 159 = .ok (.iaload, 1) := by decide +kernel
theorem dX9_gather_160 : decode cX9_gather 160 = .ok (.ifCond .eq 19, 3) := by decide +kernel
theorem dX9_gather_163 : decode cX9_gather 163 = .ok (.aload_n 0, 1) := by decide +kernel
theorem dX9_gather_164 : decode cX9_gather 164 = .ok (.getfield 29, 3) := by decide +kernel
theorem dX9_gather_167 : decode cX9_gather 167 = .ok (.iconst 2, 1) := by decide +kernel
theorem dX9_gather_168 : decode cX9_gather 168 = .ok (.iaload, 1) := by decide +kernel
theorem dX9_gather_169 : decode cX9_gather 169 = .ok (.aload_n 0, 1) := by decide +kernel
theorem dX9_gather_170 : decode cX9_gather 170 = .ok (.getfield 29, 3) := by decide +kernel
theorem dX9_gather_173 : decode cX9_gather 173 = .ok (.bipush 11, 2) := by decide +kernel
theorem dX9_gather_175 : decode cX9_gather 175 = .ok (.iaload, 1) := by decide +kernel
theorem dX9_gather_176 : decode cX9_gather 176 = .ok (.if_icmp .le 12, 3) := by decide +kernel
theorem dX9_gather_179 : decode cX9_gather 179 = .ok (.aload_n 0, 1) := by decide +kernel
theorem dX9_gather_180 : decode cX9_gather 180 = .ok (.getfield 29, 3) := by decide +kernel
theorem dX9_gather_183 : decode cX9_gather 183 = .ok (.iconst 2, 1) := by decide +kernel
theorem dX9_gather_184 : decode cX9_gather 184 = .ok (.iaload, 1) := by decide +kernel
theorem dX9_gather_185 : decode cX9_gather 185 = .ok (.goto 10, 3) := by decide +kernel
theorem dX9_gather_188 : decode cX9_gather 188 = .ok (.aload_n 0, 1) := by decide +kernel
theorem dX9_gather_189 : decode cX9_gather 189 = .ok (.getfield 29, 3) := by decide +kernel
theorem dX9_gather_192 : decode cX9_gather 192 = .ok (.bipush 11, 2) := by decide +kernel
theorem dX9_gather_194 : decode cX9_gather 194 = .ok (.iaload, 1) := by decide +kernel
theorem dX9_gather_195 : decode cX9_gather 195 = .ok (.iastore, 1) := by decide +kernel
theorem dX9_gather_196 : decode cX9_gather 196 = .ok (.aload_n 0, 1) := by decide +kernel
theorem dX9_gather_197 : decode cX9_gather 197 = .ok (.getfield 29, 3) := by decide +kernel
theorem dX9_gather_200 : decode cX9_gather 200 = .ok (.bipush 7, 2) := by decide +kernel
theorem dX9_gather_202 : decode cX9_gather 202 = .ok (.dup2, 1) := by decide +kernel
theorem dX9_gather_203 : decode cX9_gather 203 = .ok (.iaload, 1) := by decide +kernel
theorem dX9_gather_204 : decode cX9_gather 204 = .ok (.iconst 1, 1) := by decide +kernel
theorem dX9_gather_205 : decode cX9_gather 205 = .ok (.iadd, 1) := by decide +kernel
theorem dX9_gather_206 : decode cX9_gather 206 = .ok (.iastore, 1) := by decide +kernel
theorem dX9_gather_207 : decode cX9_gather 207 = .ok (.return_, 1) := by decide +kernel
set_option maxRecDepth 20000 in
theorem ggX9_pass_X9_jumpOf : GoodIn wsX9_pass wsX9_jumpOf := goodIn_r _ [12, 13, 14, 22, 23, 24, 25, 26, 27, 28, 29, 30, 31, 32, 33, 34, 35, 36, 37, 38, 39, 40, 41, 42, 43, 44, 45, 46, 47, 48, 49, 50, 51, 52, 53, 54, 55, 56, 57, 58, 59, 60, 61, 62, 63, 64, 65, 66, 67, 68] (by decide +kernel) (by decide +kernel)
set_option maxRecDepth 20000 in
theorem gX9_pass_X9_jumpOf : GoodIn wsX9_pass (wsV RX9 200 RX9 yX9_jumpOf wsX9_jumpOf) := goodIn_app (goodIn_of _ (by decide +kernel)) ggX9_pass_X9_jumpOf
set_option maxRecDepth 20000 in
theorem ggX9_pass_X9_size : GoodIn wsX9_pass wsX9_size := goodIn_r _ [17] (by decide +kernel) (by decide +kernel)
set_option maxRecDepth 20000 in
theorem gX9_pass_X9_size : GoodIn wsX9_pass (va_wsS RX9 204 yX9_size wsX9_size) := goodIn_app (goodIn_of _ (by decide +kernel)) ggX9_pass_X9_size
set_option maxRecDepth 20000 in
theorem ggX9_pass_X9_gather : GoodIn wsX9_pass wsX9_gather := goodIn_r _ [21, 1, 22, 23, 24, 25, 26, 27, 28, 29, 30, 31, 32, 33, 34, 35, 36, 37, 38, 39, 40, 41, 42, 43, 44, 45, 46, 47, 48, 49, 50, 51, 52, 53, 54, 55, 56, 57, 58, 59, 60, 61, 62, 63, 64, 65, 66, 67, 68] (by decide +kernel) (by decide +kernel)
set_option maxRecDepth 20000 in
theorem gX9_pass_X9_gather : GoodIn wsX9_pass (wsV RX9 207 RX9 yX9_gather wsX9_gather) := goodIn_app (goodIn_of _ (by decide +kernel)) ggX9_pass_X9_gather
theorem dX9_pass_0 : decode cX9_pass 0 = .ok (.aload_n 0, 1) := by decide +kernel
theorem dX9_pass_1 : decode cX9_pass 1 = .ok (.getfield 29, 3) := by decide +kernel
theorem dX9_pass_4 : decode cX9_pass 4 = .ok (.iconst 0, 1) := by decide +kernel
theorem dX9_pass_5 : decode cX9_pass 5 = .ok (.iaload, 1) := by decide +kernel
theorem dX9_pass_6 : decode cX9_pass 6 = .ok (.istore_n 1, 1) := by decide +kernel
theorem dX9_pass_7 : decode cX9_pass 7 = .ok (.aload_n 0, 1) := by decide +kernel
theorem dX9_pass_8 : decode cX9_pass 8 = .ok (.getfield 29, 3) := by decide +kernel
theorem dX9_pass_11 : decode cX9_pass 11 = .ok (.iconst 1, 1) := by decide +kernel
theorem dX9_pass_12 : decode cX9_pass 12 = .ok (.dup2, 1) := by decide +kernel
theorem dX9_pass_13 : decode cX9_pass 13 = .ok (.iaload, 1) := by decide +kernel
theorem dX9_pass_14 : decode cX9_pass 14 = .ok (.aload_n 0, 1) := by decide +kernel
theorem dX9_pass_15 : decode cX9_pass 15 = .ok (.getfield 29, 3) := by decide +kernel
theorem dX9_pass_18 : decode cX9_pass 18 = .ok (.iconst 3, 1) := by decide +kernel
theorem dX9_pass_19 : decode cX9_pass 19 = .ok (.iaload, 1) := by decide +kernel
theorem dX9_pass_20 : decode cX9_pass 20 = .ok (.aload_n 0, 1) := by decide +kernel
theorem dX9_pass_21 : decode cX9_pass 21 = .ok (.getfield 20, 3) := by decide +kernel
theorem dX9_pass_24 : decode cX9_pass 24 = .ok (.imul, 1) := by decide +kernel
theorem dX9_pass_25 : decode cX9_pass 25 = .ok (.aload_n 0, 1) := by decide +kernel
theorem dX9_pass_26 : decode cX9_pass 26 = .ok (.getfield 163, 3) := by decide +kernel
theorem dX9_pass_29 : decode cX9_pass 29 = .ok (.iadd, 1) := by decide +kernel
theorem dX9_pass_30 : decode cX9_pass 30 = .ok (.aload_n 0, 1) := by decide +kernel
theorem dX9_pass_31 : decode cX9_pass 31 = .ok (.getfield 13, 3) := by decide +kernel
theorem dX9_pass_34 : decode cX9_pass 34 = .ok (.iload_n 1, 1) := by decide +kernel
theorem dX9_pass_35 : decode cX9_pass 35 = .ok (.aload_n 0, 1) := by decide +kernel
theorem dX9_pass_36 : decode cX9_pass 36 = .ok (.getfield 7, 3) := by decide +kernel
theorem dX9_pass_39 : decode cX9_pass 39 = .ok (.irem, 1) := by decide +kernel
theorem dX9_pass_40 : decode cX9_pass 40 = .ok (.iaload, 1) := by decide +kernel
theorem dX9_pass_41 : decode cX9_pass 41 = .ok (.iadd, 1) := by decide +kernel
theorem dX9_pass_42 : decode cX9_pass 42 = .ok (.aload_n 0, 1) := by decide +kernel
theorem dX9_pass_43 : decode cX9_pass 43 = .ok (.iload_n 1, 1) := by decide +kernel
theorem dX9_pass_44 : decode cX9_pass 44 = .ok (.invokevirtual 200, 3) := by decide +kernel
theorem dX9_pass_47 : decode cX9_pass 47 = .ok (.iadd, 1) := by decide +kernel
theorem dX9_pass_48 : decode cX9_pass 48 = .ok (.iadd, 1) := by decide +kernel
theorem dX9_pass_49 : decode cX9_pass 49 = .ok (.iastore, 1) := by decide +kernel
theorem dX9_pass_50 : decode cX9_pass 50 = .ok (.aload_n 0, 1) := by decide +kernel
theorem dX9_pass_51 : decode cX9_pass 51 = .ok (.getfield 29, 3) := by decide +kernel
theorem dX9_pass_54 : decode cX9_pass 54 = .ok (.iconst 2, 1) := by decide +kernel
theorem dX9_pass_55 : decode cX9_pass 55 = .ok (.dup2, 1) := by decide +kernel
theorem dX9_pass_56 : decode cX9_pass 56 = .ok (.iaload, 1) := by decide +kernel
theorem dX9_pass_57 : decode cX9_pass 57 = .ok (.aload_n 0, 1) := by decide +kernel
theorem dX9_pass_58 : decode cX9_pass 58 = .ok (.getfield 29, 3) := by decide +kernel
theorem dX9_pass_61 : decode cX9_pass 61 = .ok (.iconst 4, 1) := by decide +kernel
theorem dX9_pass_62 : decode cX9_pass 62 = .ok (.iaload, 1) := by decide +kernel
theorem dX9_pass_63 : decode cX9_pass 63 = .ok (.aload_n 0, 1) := by decide +kernel
theorem dX9_pass_64 : decode cX9_pass 64 = .ok (.getfield 20, 3) := by decide +kernel
theorem dX9_pass_67 : decode cX9_pass 67 = .ok (.imul, 1) := by decide +kernel
theorem dX9_pass_68 : decode cX9_pass 68 = .ok (.aload_n 0, 1) := by decide +kernel
theorem dX9_pass_69 : decode cX9_pass 69 = .ok (.getfield 166, 3) := by decide +kernel
theorem dX9_pass_72 : decode cX9_pass 72 = .ok (.iadd, 1) := by decide +kernel
theorem dX9_pass_73 : decode cX9_pass 73 = .ok (.iadd, 1) := by decide +kernel
theorem dX9_pass_74 : decode cX9_pass 74 = .ok (.iastore, 1) := by decide +kernel
theorem dX9_pass_75 : decode cX9_pass 75 = .ok (.aload_n 0, 1) := by decide +kernel
theorem dX9_pass_76 : decode cX9_pass 76 = .ok (.getfield 29, 3) := by decide +kernel
theorem dX9_pass_79 : decode cX9_pass 79 = .ok (.iconst 3, 1) := by decide +kernel
theorem dX9_pass_80 : decode cX9_pass 80 = .ok (.iconst 0, 1) := by decide +kernel
theorem dX9_pass_81 : decode cX9_pass 81 = .ok (.iastore, 1) := by decide +kernel
theorem dX9_pass_82 : decode cX9_pass 82 = .ok (.aload_n 0, 1) := by decide +kernel
theorem dX9_pass_83 : decode cX9_pass 83 = .ok (.getfield 29, 3) := by decide +kernel
theorem dX9_pass_86 : decode cX9_pass 86 = .ok (.iconst 4, 1) := by decide +kernel
theorem dX9_pass_87 : decode cX9_pass 87 = .ok (.iconst 0, 1) := by decide +kernel
theorem dX9_pass_88 : decode cX9_pass 88 = .ok (.iastore, 1) := by decide +kernel
theorem dX9_pass_89 : decode cX9_pass 89 = .ok (.aload_n 0, 1) := by decide +kernel
theorem dX9_pass_90 : decode cX9_pass 90 = .ok (.getfield 29, 3) := by decide +kernel
theorem dX9_pass_93 : decode cX9_pass 93 = .ok (.iconst 0, 1) := by decide +kernel
theorem dX9_pass_94 : decode cX9_pass 94 = .ok (.dup2, 1) := by decide +kernel
theorem dX9_pass_95 : decode cX9_pass 95 = .ok (.iaload, 1) := by decide +kernel
theorem dX9_pass_96 : decode cX9_pass 96 = .ok (.iconst 1, 1) := by decide +kernel
theorem dX9_pass_97 : decode cX9_pass 97 = .ok (.iadd, 1) := by decide +kernel
theorem dX9_pass_98 : decode cX9_pass 98 = .ok (.iastore, 1) := by decide +kernel
theorem dX9_pass_99 : decode cX9_pass 99 = .ok (.aload_n 0, 1) := by decide +kernel
theorem dX9_pass_100 : decode cX9_pass 100 = .ok (.getfield 29, 3) := by decide +kernel
theorem dX9_pass_103 : decode cX9_pass 103 = .ok (.iconst 5, 1) := by decide +kernel
theorem dX9_pass_104 : decode cX9_pass 104 = .ok (.aload_n 0, 1) := by decide +kernel
theorem dX9_pass_105 : decode cX9_pass 105 = .ok (.getfield 29, 3) := by decide +kernel
theorem dX9_pass_108 : decode cX9_pass 108 = .ok (.iconst 1, 1) := by decide +kernel
theorem dX9_pass_109 : decode cX9_pass 109 = .ok (.iaload, 1) := by decide +kernel
theorem dX9_pass_110 : decode cX9_pass 110 = .ok (.invokestatic 204, 3) := by decide +kernel
theorem dX9_pass_113 : decode cX9_pass 113 = .ok (.aload_n 0, 1) := by decide +kernel
theorem dX9_pass_114 : decode cX9_pass 114 = .ok (.getfield 169, 3) := by decide +kernel
theorem dX9_pass_117 : decode cX9_pass 117 = .ok (.if_icmp .gt 19, 3) := by decide +kernel
theorem dX9_pass_120 : decode cX9_pass 120 = .ok (.aload_n 0, 1) := by decide +kernel
theorem dX9_pass_121 : decode cX9_pass 121 = .ok (.getfield 29, 3) := by decide +kernel
theorem dX9_pass_124 : decode cX9_pass 124 = .ok (.iconst 2, 1) := by decide +kernel
theorem dX9_pass_125 : decode cX9_pass 125 = .ok (.iaload, 1) := by decide +kernel
theorem dX9_pass_126 : decode cX9_pass 126 = .ok (.invokestatic 204, 3) := by decide +kernel
theorem dX9_pass_129 : decode cX9_pass 129 = .ok (.aload_n 0, 1) := by decide +kernel
theorem dX9_pass_130 : decode cX9_pass 130 = .ok (.getfield 169, 3) := by decide +kernel
theorem dX9_pass_133 : decode cX9_pass 133 = .ok (.if_icmp .le 7, 3) := by decide +kernel
theorem dX9_pass_136 : decode cX9_pass 136 = .ok (.iconst 1, 1) := by decide +kernel
theorem dX9_pass_137 : decode cX9_pass 137 = .ok (.goto 4, 3) := by decide +kernel
theorem dX9_pass_140 : decode cX9_pass 140 = .ok (.iconst 0, 1) := by decide +kernel
theorem dX9_pass_141 : decode cX9_pass 141 = .ok (.iastore, 1) := by decide +kernel
theorem dX9_pass_142 : decode cX9_pass 142 = .ok (.aload_n 0, 1) := by decide +kernel
theorem dX9_pass_143 : decode cX9_pass 143 = .ok (.getfield 29, 3) := by decide +kernel
theorem dX9_pass_146 : decode cX9_pass 146 = .ok (.iconst 5, 1) := by decide +kernel
theorem dX9_pass_147 : decode cX9_pass 147 = .ok (.iaload, 1) := by decide +kernel
theorem dX9_pass_148 : decode cX9_pass 148 = .ok (.ifCond .ne 17, 3) := by decide +kernel
theorem dX9_pass_151 : decode cX9_pass 151 = .ok (.aload_n 0, 1) := by decide +kernel
theorem dX9_pass_152 : decode cX9_pass 152 = .ok (.getfield 29, 3) := by decide +kernel
theorem dX9_pass_155 : decode cX9_pass 155 = .ok (.bipush 6, 2) := by decide +kernel
theorem dX9_pass_157 : decode cX9_pass 157 = .ok (.iaload, 1) := by decide +kernel
theorem dX9_pass_158 : decode cX9_pass 158 = .ok (.ifCond .ne 7, 3) := by decide +kernel
theorem dX9_pass_161 : decode cX9_pass 161 = .ok (.aload_n 0, 1) := by decide +kernel
theorem dX9_pass_162 : decode cX9_pass 162 = .ok (.invokevirtual 207, 3) := by decide +kernel
theorem dX9_pass_165 : decode cX9_pass 165 = .ok (.return_, 1) := by decide +kernel
set_option maxRecDepth 20000 in
theorem ggX9_pressesFor_X9_size : GoodIn wsX9_pressesFor wsX9_size := goodIn_r _ [5] (by decide +kernel) (by decide +kernel)
set_option maxRecDepth 20000 in
theorem gX9_pressesFor_X9_size : GoodIn wsX9_pressesFor (va_wsS RX9 204 yX9_size wsX9_size) := goodIn_app (goodIn_of _ (by decide +kernel)) ggX9_pressesFor_X9_size
theorem dX9_pressesFor_0 : decode cX9_pressesFor 0 = .ok (.iload_n 1, 1) := by decide +kernel
theorem dX9_pressesFor_1 : decode cX9_pressesFor 1 = .ok (.invokestatic 204, 3) := by decide +kernel
theorem dX9_pressesFor_4 : decode cX9_pressesFor 4 = .ok (.iload_n 2, 1) := by decide +kernel
theorem dX9_pressesFor_5 : decode cX9_pressesFor 5 = .ok (.if_icmp .le 18, 3) := by decide +kernel
theorem dX9_pressesFor_8 : decode cX9_pressesFor 8 = .ok (.iload_n 1, 1) := by decide +kernel
theorem dX9_pressesFor_9 : decode cX9_pressesFor 9 = .ok (.iload_n 3, 1) := by decide +kernel
theorem dX9_pressesFor_10 : decode cX9_pressesFor 10 = .ok (.imul, 1) := by decide +kernel
theorem dX9_pressesFor_11 : decode cX9_pressesFor 11 = .ok (.bipush 10, 2) := by decide +kernel
theorem dX9_pressesFor_13 : decode cX9_pressesFor 13 = .ok (.idiv, 1) := by decide +kernel
theorem dX9_pressesFor_14 : decode cX9_pressesFor 14 = .ok (.aload_n 0, 1) := by decide +kernel
theorem dX9_pressesFor_15 : decode cX9_pressesFor 15 = .ok (.getfield 20, 3) := by decide +kernel
theorem dX9_pressesFor_18 : decode cX9_pressesFor 18 = .ok (.idiv, 1) := by decide +kernel
theorem dX9_pressesFor_19 : decode cX9_pressesFor 19 = .ok (.ineg, 1) := by decide +kernel
theorem dX9_pressesFor_20 : decode cX9_pressesFor 20 = .ok (.goto 4, 3) := by decide +kernel
theorem dX9_pressesFor_23 : decode cX9_pressesFor 23 = .ok (.iconst 0, 1) := by decide +kernel
theorem dX9_pressesFor_24 : decode cX9_pressesFor 24 = .ok (.ireturn, 1) := by decide +kernel
set_option maxRecDepth 20000 in
theorem ggX9_ruled_X9_pressesFor : GoodIn wsX9_ruled wsX9_pressesFor := goodIn_r _ [6, 7, 8, 9, 5, 10, 30, 31, 32, 33, 34, 35, 36, 37, 38, 39, 40, 41, 42, 43, 44, 45, 46, 47, 48, 49, 50, 51, 52, 53, 54, 55, 56, 57, 58, 59, 60, 61, 62, 63, 64, 65, 66, 67, 68, 69, 70, 71, 72, 73, 74, 75, 76] (by decide +kernel) (by decide +kernel)
set_option maxRecDepth 20000 in
theorem gX9_ruled_X9_pressesFor : GoodIn wsX9_ruled (wsV RX9 210 RX9 yX9_pressesFor wsX9_pressesFor) := goodIn_app (goodIn_of _ (by decide +kernel)) ggX9_ruled_X9_pressesFor
set_option maxRecDepth 20000 in
theorem ggX9_ruled_X9_pass : GoodIn wsX9_ruled wsX9_pass := goodIn_r _ [14, 1, 7, 15, 16, 17, 18, 19, 20, 21, 22, 5, 23, 24, 25, 8, 9, 10, 26, 27, 28, 29, 30, 31, 32, 33, 34, 35, 36, 37, 38, 39, 40, 41, 42, 43, 44, 45, 46, 47, 48, 49, 50, 51, 52, 53, 54, 55, 56, 57, 58, 59, 60, 61, 62, 63, 64, 65, 66, 67, 68, 69, 70, 71, 72, 73, 74, 75, 76] (by decide +kernel) (by decide +kernel)
set_option maxRecDepth 20000 in
theorem gX9_ruled_X9_pass : GoodIn wsX9_ruled (wsV RX9 214 RX9 yX9_pass wsX9_pass) := goodIn_app (goodIn_of _ (by decide +kernel)) ggX9_ruled_X9_pass
theorem dX9_ruled_0 : decode cX9_ruled 0 = .ok (.aload_n 0, 1) := by decide +kernel
theorem dX9_ruled_1 : decode cX9_ruled 1 = .ok (.getfield 29, 3) := by decide +kernel
theorem dX9_ruled_4 : decode cX9_ruled 4 = .ok (.iconst 3, 1) := by decide +kernel
theorem dX9_ruled_5 : decode cX9_ruled 5 = .ok (.aload_n 0, 1) := by decide +kernel
theorem dX9_ruled_6 : decode cX9_ruled 6 = .ok (.aload_n 0, 1) := by decide +kernel
theorem dX9_ruled_7 : decode cX9_ruled 7 = .ok (.getfield 29, 3) := by decide +kernel
theorem dX9_ruled_10 : decode cX9_ruled 10 = .ok (.iconst 1, 1) := by decide +kernel
theorem dX9_ruled_11 : decode cX9_ruled 11 = .ok (.iaload, 1) := by decide +kernel
theorem dX9_ruled_12 : decode cX9_ruled 12 = .ok (.iload_n 1, 1) := by decide +kernel
theorem dX9_ruled_13 : decode cX9_ruled 13 = .ok (.iload_n 2, 1) := by decide +kernel
theorem dX9_ruled_14 : decode cX9_ruled 14 = .ok (.invokevirtual 210, 3) := by decide +kernel
theorem dX9_ruled_17 : decode cX9_ruled 17 = .ok (.iastore, 1) := by decide +kernel
theorem dX9_ruled_18 : decode cX9_ruled 18 = .ok (.aload_n 0, 1) := by decide +kernel
theorem dX9_ruled_19 : decode cX9_ruled 19 = .ok (.getfield 29, 3) := by decide +kernel
theorem dX9_ruled_22 : decode cX9_ruled 22 = .ok (.iconst 4, 1) := by decide +kernel
theorem dX9_ruled_23 : decode cX9_ruled 23 = .ok (.aload_n 0, 1) := by decide +kernel
theorem dX9_ruled_24 : decode cX9_ruled 24 = .ok (.aload_n 0, 1) := by decide +kernel
theorem dX9_ruled_25 : decode cX9_ruled 25 = .ok (.getfield 29, 3) := by decide +kernel
theorem dX9_ruled_28 : decode cX9_ruled 28 = .ok (.iconst 2, 1) := by decide +kernel
theorem dX9_ruled_29 : decode cX9_ruled 29 = .ok (.iaload, 1) := by decide +kernel
theorem dX9_ruled_30 : decode cX9_ruled 30 = .ok (.iload_n 1, 1) := by decide +kernel
theorem dX9_ruled_31 : decode cX9_ruled 31 = .ok (.iload_n 2, 1) := by decide +kernel
theorem dX9_ruled_32 : decode cX9_ruled 32 = .ok (.invokevirtual 210, 3) := by decide +kernel
theorem dX9_ruled_35 : decode cX9_ruled 35 = .ok (.iastore, 1) := by decide +kernel
theorem dX9_ruled_36 : decode cX9_ruled 36 = .ok (.aload_n 0, 1) := by decide +kernel
theorem dX9_ruled_37 : decode cX9_ruled 37 = .ok (.getfield 29, 3) := by decide +kernel
theorem dX9_ruled_40 : decode cX9_ruled 40 = .ok (.iconst 3, 1) := by decide +kernel
theorem dX9_ruled_41 : decode cX9_ruled 41 = .ok (.iaload, 1) := by decide +kernel
theorem dX9_ruled_42 : decode cX9_ruled 42 = .ok (.ifCond .ne 12, 3) := by decide +kernel
theorem dX9_ruled_45 : decode cX9_ruled 45 = .ok (.aload_n 0, 1) := by decide +kernel
theorem dX9_ruled_46 : decode cX9_ruled 46 = .ok (.getfield 29, 3) := by decide +kernel
theorem dX9_ruled_49 : decode cX9_ruled 49 = .ok (.iconst 4, 1) := by decide +kernel
theorem dX9_ruled_50 : decode cX9_ruled 50 = .ok (.iaload, 1) := by decide +kernel
theorem dX9_ruled_51 : decode cX9_ruled 51 = .ok (.ifCond .eq 7, 3) := by decide +kernel
theorem dX9_ruled_54 : decode cX9_ruled 54 = .ok (.iconst 1, 1) := by decide +kernel
theorem dX9_ruled_55 : decode cX9_ruled 55 = .ok (.goto 4, 3) := by decide +kernel
theorem dX9_ruled_58 : decode cX9_ruled 58 = .ok (.iconst 0, 1) := by decide +kernel
theorem dX9_ruled_59 : decode cX9_ruled 59 = .ok (.istore_n 3, 1) := by decide +kernel
theorem dX9_ruled_60 : decode cX9_ruled 60 = .ok (.aload_n 0, 1) := by decide +kernel
theorem dX9_ruled_61 : decode cX9_ruled 61 = .ok (.invokevirtual 214, 3) := by decide +kernel
theorem dX9_ruled_64 : decode cX9_ruled 64 = .ok (.iload_n 3, 1) := by decide +kernel
theorem dX9_ruled_65 : decode cX9_ruled 65 = .ok (.ireturn, 1) := by decide +kernel
theorem dX9_newPlate_0 : decode cX9_newPlate 0 = .ok (.iconst 1, 1) := by decide +kernel
theorem dX9_newPlate_1 : decode cX9_newPlate 1 = .ok (.istore_n 1, 1) := by decide +kernel
theorem dX9_newPlate_2 : decode cX9_newPlate 2 = .ok (.iload_n 1, 1) := by decide +kernel
theorem dX9_newPlate_3 : decode cX9_newPlate 3 = .ok (.bipush 12, 2) := by decide +kernel
theorem dX9_newPlate_5 : decode cX9_newPlate 5 = .ok (.if_icmp .ge 16, 3) := by decide +kernel
theorem dX9_newPlate_8 : decode cX9_newPlate 8 = .ok (.aload_n 0, 1) := by decide +kernel
theorem dX9_newPlate_9 : decode cX9_newPlate 9 = .ok (.getfield 29, 3) := by decide +kernel
theorem dX9_newPlate_12 : decode cX9_newPlate 12 = .ok (.iload_n 1, 1) := by decide +kernel
theorem dX9_newPlate_13 : decode cX9_newPlate 13 = .ok (.iconst 0, 1) := by decide +kernel
theorem dX9_newPlate_14 : decode cX9_newPlate 14 = .ok (.iastore, 1) := by decide +kernel
theorem dX9_newPlate_15 : decode cX9_newPlate 15 = .ok (.iinc 1 1, 3) := by decide +kernel
theorem dX9_newPlate_18 : decode cX9_newPlate 18 = .ok (.goto (-16), 3) := by decide +kernel
theorem dX9_newPlate_21 : decode cX9_newPlate 21 = .ok (.return_, 1) := by decide +kernel
theorem dX9_remember_0 : decode cX9_remember 0 = .ok (.aload_n 0, 1) := by decide +kernel
theorem dX9_remember_1 : decode cX9_remember 1 = .ok (.getfield 193, 3) := by decide +kernel
theorem dX9_remember_4 : decode cX9_remember 4 = .ok (.bipush 20, 2) := by decide +kernel
theorem dX9_remember_6 : decode cX9_remember 6 = .ok (.if_icmp .ne 44, 3) := by decide +kernel
theorem dX9_remember_9 : decode cX9_remember 9 = .ok (.bipush 12, 2) := by decide +kernel
theorem dX9_remember_11 : decode cX9_remember 11 = .ok (.istore_n 1, 1) := by decide +kernel
theorem dX9_remember_12 : decode cX9_remember 12 = .ok (.iload_n 1, 1) := by decide +kernel
theorem dX9_remember_13 : decode cX9_remember 13 = .ok (.sipush 240, 3) := by decide +kernel
theorem dX9_remember_16 : decode cX9_remember 16 = .ok (.if_icmp .ge 24, 3) := by decide +kernel
theorem dX9_remember_19 : decode cX9_remember 19 = .ok (.aload_n 0, 1) := by decide +kernel
theorem dX9_remember_20 : decode cX9_remember 20 = .ok (.getfield 56, 3) := by decide +kernel
theorem dX9_remember_23 : decode cX9_remember 23 = .ok (.iload_n 1, 1) := by decide +kernel
theorem dX9_remember_24 : decode cX9_remember 24 = .ok (.bipush 12, 2) := by decide +kernel
theorem dX9_remember_26 : decode cX9_remember 26 = .ok (.isub, 1) := by decide +kernel
theorem dX9_remember_27 : decode cX9_remember 27 = .ok (.aload_n 0, 1) := by decide +kernel
theorem dX9_remember_28 : decode cX9_remember 28 = .ok (.getfield 56, 3) := by decide +kernel
theorem dX9_remember_31 : decode cX9_remember 31 = .ok (.iload_n 1, 1) := by decide +kernel
theorem dX9_remember_32 : decode cX9_remember 32 = .ok (.iaload, 1) := by decide +kernel
theorem dX9_remember_33 : decode cX9_remember 33 = .ok (.iastore, 1) := by decide +kernel
theorem dX9_remember_34 : decode cX9_remember 34 = .ok (.iinc 1 1, 3) := by decide +kernel
theorem dX9_remember_37 : decode cX9_remember 37 = .ok (.goto (-25), 3) := by decide +kernel
theorem dX9_remember_40 : decode cX9_remember 40 = .ok (.aload_n 0, 1) := by decide +kernel
theorem dX9_remember_41 : decode cX9_remember 41 = .ok (.dup, 1) := by decide +kernel
theorem dX9_remember_42 : decode cX9_remember 42 = .ok (.getfield 193, 3) := by decide +kernel
theorem dX9_remember_45 : decode cX9_remember 45 = .ok (.iconst 1, 1) := by decide +kernel
theorem dX9_remember_46 : decode cX9_remember 46 = .ok (.isub, 1) := by decide +kernel
theorem dX9_remember_47 : decode cX9_remember 47 = .ok (.putfield 193, 3) := by decide +kernel
theorem dX9_remember_50 : decode cX9_remember 50 = .ok (.iconst 0, 1) := by decide +kernel
theorem dX9_remember_51 : decode cX9_remember 51 = .ok (.istore_n 1, 1) := by decide +kernel
theorem dX9_remember_52 : decode cX9_remember 52 = .ok (.iload_n 1, 1) := by decide +kernel
theorem dX9_remember_53 : decode cX9_remember 53 = .ok (.bipush 12, 2) := by decide +kernel
theorem dX9_remember_55 : decode cX9_remember 55 = .ok (.if_icmp .ge 29, 3) := by decide +kernel
theorem dX9_remember_58 : decode cX9_remember 58 = .ok (.aload_n 0, 1) := by decide +kernel
theorem dX9_remember_59 : decode cX9_remember 59 = .ok (.getfield 56, 3) := by decide +kernel
theorem dX9_remember_62 : decode cX9_remember 62 = .ok (.bipush 12, 2) := by decide +kernel
theorem dX9_remember_64 : decode cX9_remember 64 = .ok (.aload_n 0, 1) := by decide +kernel
theorem dX9_remember_65 : decode cX9_remember 65 = .ok (.getfield 193, 3) := by decide +kernel
theorem dX9_remember_68 : decode cX9_remember 68 = .ok (.imul, 1) := by decide +kernel
theorem dX9_remember_69 : decode cX9_remember 69 = .ok (.iload_n 1, 1) := by decide +kernel
theorem dX9_remember_70 : decode cX9_remember 70 = .ok (.iadd, 1) := by decide +kernel
theorem dX9_remember_71 : decode cX9_remember 71 = .ok (.aload_n 0, 1) := by decide +kernel
theorem dX9_remember_72 : decode cX9_remember 72 = .ok (.getfield 29, 3) := by decide +kernel
theorem dX9_remember_75 : decode cX9_remember 75 = .ok (.iload_n 1, 1) := by decide +kernel
theorem dX9_remember_76 : decode cX9_remember 76 = .ok (.iaload, 1) := by decide +kernel
theorem dX9_remember_77 : decode cX9_remember 77 = .ok (.iastore, 1) := by decide +kernel
theorem dX9_remember_78 : decode cX9_remember 78 = .ok (.iinc 1 1, 3) := by decide +kernel
theorem dX9_remember_81 : decode cX9_remember 81 = .ok (.goto (-29), 3) := by decide +kernel
theorem dX9_remember_84 : decode cX9_remember 84 = .ok (.aload_n 0, 1) := by decide +kernel
theorem dX9_remember_85 : decode cX9_remember 85 = .ok (.dup, 1) := by decide +kernel
theorem dX9_remember_86 : decode cX9_remember 86 = .ok (.getfield 193, 3) := by decide +kernel
theorem dX9_remember_89 : decode cX9_remember 89 = .ok (.iconst 1, 1) := by decide +kernel
theorem dX9_remember_90 : decode cX9_remember 90 = .ok (.iadd, 1) := by decide +kernel
theorem dX9_remember_91 : decode cX9_remember 91 = .ok (.putfield 193, 3) := by decide +kernel
theorem dX9_remember_94 : decode cX9_remember 94 = .ok (.return_, 1) := by decide +kernel
theorem dX9_isReady_0 : decode cX9_isReady 0 = .ok (.aload_n 0, 1) := by decide +kernel
theorem dX9_isReady_1 : decode cX9_isReady 1 = .ok (.getfield 90, 3) := by decide +kernel
theorem dX9_isReady_4 : decode cX9_isReady 4 = .ok (.ifCond .eq 16, 3) := by decide +kernel
theorem dX9_isReady_7 : decode cX9_isReady 7 = .ok (.aload_n 0, 1) := by decide +kernel
theorem dX9_isReady_8 : decode cX9_isReady 8 = .ok (.getfield 29, 3) := by decide +kernel
theorem dX9_isReady_11 : decode cX9_isReady 11 = .ok (.iconst 5, 1) := by decide +kernel
theorem dX9_isReady_12 : decode cX9_isReady 12 = .ok (.iaload, 1) := by decide +kernel
theorem dX9_isReady_13 : decode cX9_isReady 13 = .ok (.ifCond .ne 7, 3) := by decide +kernel
theorem dX9_isReady_16 : decode cX9_isReady 16 = .ok (.iconst 1, 1) := by decide +kernel
theorem dX9_isReady_17 : decode cX9_isReady 17 = .ok (.goto 4, 3) := by decide +kernel
theorem dX9_isReady_20 : decode cX9_isReady 20 = .ok (.iconst 0, 1) := by decide +kernel
theorem dX9_isReady_21 : decode cX9_isReady 21 = .ok (.ireturn, 1) := by decide +kernel
set_option maxRecDepth 20000 in
theorem ggX9_minutesRefused_X9_in : GoodIn wsX9_minutesRefused wsX9_in := goodIn_r _ [9] (by decide +kernel) (by decide +kernel)
set_option maxRecDepth 20000 in
theorem gX9_minutesRefused_X9_in : GoodIn wsX9_minutesRefused (va_wsS RX9 96 yX9_in wsX9_in) := goodIn_app (goodIn_of _ (by decide +kernel)) ggX9_minutesRefused_X9_in
set_option maxRecDepth 20000 in
theorem ggX9_minutesRefused_X9_isReady : GoodIn wsX9_minutesRefused wsX9_isReady := goodIn_r _ [13, 14, 4, 15, 16, 17, 18, 19, 20, 21, 22, 23, 24, 25, 26, 27, 28, 29, 30, 31, 32, 33, 34, 35, 36, 37, 38, 39, 40, 41, 42, 43, 44, 45, 46, 47, 48, 49, 50, 51, 52, 53, 54, 55, 56, 57, 58, 59, 60, 61] (by decide +kernel) (by decide +kernel)
set_option maxRecDepth 20000 in
theorem gX9_minutesRefused_X9_isReady : GoodIn wsX9_minutesRefused (wsV RX9 219 RX9 yX9_isReady wsX9_isReady) := goodIn_app (goodIn_of _ (by decide +kernel)) ggX9_minutesRefused_X9_isReady
theorem dX9_minutesRefused_0 : decode cX9_minutesRefused 0 = .ok (.iload_n 1, 1) := by decide +kernel
theorem dX9_minutesRefused_1 : decode cX9_minutesRefused 1 = .ok (.i2l, 1) := by decide +kernel
theorem dX9_minutesRefused_2 : decode cX9_minutesRefused 2 = .ok (.lconst 1, 1) := by decide +kernel
theorem dX9_minutesRefused_3 : decode cX9_minutesRefused 3 = .ok (.ldc2_w 217, 3) := by decide +kernel
theorem dX9_minutesRefused_6 : decode cX9_minutesRefused 6 = .ok (.invokestatic 96, 3) := by decide +kernel
theorem dX9_minutesRefused_9 : decode cX9_minutesRefused 9 = .ok (.ifCond .ne 6, 3) := by decide +kernel
theorem dX9_minutesRefused_12 : decode cX9_minutesRefused 12 = .ok (.ldc 100, 2) := by decide +kernel
theorem dX9_minutesRefused_14 : decode cX9_minutesRefused 14 = .ok (.ireturn, 1) := by decide +kernel
theorem dX9_minutesRefused_15 : decode cX9_minutesRefused 15 = .ok (.aload_n 0, 1) := by decide +kernel
theorem dX9_minutesRefused_16 : decode cX9_minutesRefused 16 = .ok (.invokevirtual 219, 3) := by decide +kernel
theorem dX9_minutesRefused_19 : decode cX9_minutesRefused 19 = .ok (.ifCond .ne 8, 3) := by decide +kernel
theorem dX9_minutesRefused_22 : decode cX9_minutesRefused 22 = .ok (.ldc 223, 2) := by decide +kernel
theorem dX9_minutesRefused_24 : decode cX9_minutesRefused 24 = .ok (.goto 21, 3) := by decide +kernel
theorem dX9_minutesRefused_27 : decode cX9_minutesRefused 27 = .ok (.aload_n 0, 1) := by decide +kernel
theorem dX9_minutesRefused_28 : decode cX9_minutesRefused 28 = .ok (.getfield 29, 3) := by decide +kernel
theorem dX9_minutesRefused_31 : decode cX9_minutesRefused 31 = .ok (.iconst 0, 1) := by decide +kernel
theorem dX9_minutesRefused_32 : decode cX9_minutesRefused 32 = .ok (.iaload, 1) := by decide +kernel
theorem dX9_minutesRefused_33 : decode cX9_minutesRefused 33 = .ok (.sipush 9000, 3) := by decide +kernel
theorem dX9_minutesRefused_36 : decode cX9_minutesRefused 36 = .ok (.if_icmp .le 8, 3) := by decide +kernel
theorem dX9_minutesRefused_39 : decode cX9_minutesRefused 39 = .ok (.ldc 104, 2) := by decide +kernel
theorem dX9_minutesRefused_41 : decode cX9_minutesRefused 41 = .ok (.goto 4, 3) := by decide +kernel
theorem dX9_minutesRefused_44 : decode cX9_minutesRefused 44 = .ok (.iconst 0, 1) := by decide +kernel
theorem dX9_minutesRefused_45 : decode cX9_minutesRefused 45 = .ok (.ireturn, 1) := by decide +kernel
set_option maxRecDepth 20000 in
theorem ggX9_minute_X9_minutesRefused : GoodIn wsX9_minute wsX9_minutesRefused := goodIn_r _ [6, 7, 8, 9, 1, 10, 11, 12, 5, 13, 14, 15, 16, 17, 18, 48, 49, 50, 51, 52, 53, 54, 55, 56, 57, 58, 59, 60, 61, 62, 63, 64, 65, 66, 67, 68, 69, 70, 71, 72, 73, 74, 75, 76, 77, 78, 79, 80, 81, 82, 83, 84, 85, 86, 87, 88, 89, 90, 91, 92, 93, 94] (by decide +kernel) (by decide +kernel)
set_option maxRecDepth 20000 in
theorem gX9_minute_X9_minutesRefused : GoodIn wsX9_minute (wsV RX9 224 RX9 yX9_minutesRefused wsX9_minutesRefused) := goodIn_app (goodIn_of _ (by decide +kernel)) ggX9_minute_X9_minutesRefused
set_option maxRecDepth 20000 in
theorem ggX9_minute_X9_remember : GoodIn wsX9_minute wsX9_remember := goodIn_r _ [22, 23, 24, 1, 48, 49, 50, 51, 52, 53, 54, 55, 56, 57, 58, 59, 60, 61, 62, 63, 64, 65, 66, 67, 68, 69, 70, 71, 72, 73, 74, 75, 76, 77, 78, 79, 80, 81, 82, 83, 84, 85, 86, 87, 88, 89, 90, 91, 92, 93, 94] (by decide +kernel) (by decide +kernel)
set_option maxRecDepth 20000 in
theorem gX9_minute_X9_remember : GoodIn wsX9_minute (wsV RX9 227 RX9 yX9_remember wsX9_remember) := goodIn_app (goodIn_of _ (by decide +kernel)) ggX9_minute_X9_remember
set_option maxRecDepth 20000 in
theorem ggX9_minute_X9_pass : GoodIn wsX9_minute wsX9_pass := goodIn_r _ [28, 1, 29, 30, 31, 32, 33, 34, 35, 36, 37, 5, 38, 39, 40, 41, 42, 43, 44, 45, 46, 47, 48, 49, 50, 51, 52, 53, 54, 55, 56, 57, 58, 59, 60, 61, 62, 63, 64, 65, 66, 67, 68, 69, 70, 71, 72, 73, 74, 75, 76, 77, 78, 79, 80, 81, 82, 83, 84, 85, 86, 87, 88, 89, 90, 91, 92, 93, 94] (by decide +kernel) (by decide +kernel)
set_option maxRecDepth 20000 in
theorem gX9_minute_X9_pass : GoodIn wsX9_minute (wsV RX9 214 RX9 yX9_pass wsX9_pass) := goodIn_app (goodIn_of _ (by decide +kernel)) ggX9_minute_X9_pass
theorem dX9_minute_0 : decode cX9_minute 0 = .ok (.aload_n 0, 1) := by decide +kernel
theorem dX9_minute_1 : decode cX9_minute 1 = .ok (.iload_n 1, 1) := by decide +kernel
theorem dX9_minute_2 : decode cX9_minute 2 = .ok (.invokevirtual 224, 3) := by decide +kernel
theorem dX9_minute_5 : decode cX9_minute 5 = .ok (.istore_n 2, 1) := by decide +kernel
theorem dX9_minute_6 : decode cX9_minute 6 = .ok (.iload_n 2, 1) := by decide +kernel
theorem dX9_minute_7 : decode cX9_minute 7 = .ok (.ifCond .eq 5, 3) := by decide +kernel
theorem dX9_minute_10 : decode cX9_minute 10 = .ok (.iload_n 2, 1) := by decide +kernel
theorem dX9_minute_11 : decode cX9_minute 11 = .ok (.ireturn, 1) := by decide +kernel
theorem dX9_minute_12 : decode cX9_minute 12 = .ok (.aload_n 0, 1) := by decide +kernel
theorem dX9_minute_13 : decode cX9_minute 13 = .ok (.invokevirtual 227, 3) := by decide +kernel
theorem dX9_minute_16 : decode cX9_minute 16 = .ok (.iconst 0, 1) := by decide +kernel
theorem dX9_minute_17 : decode cX9_minute 17 = .ok (.istore_n 3, 1) := by decide +kernel
theorem dX9_minute_18 : decode cX9_minute 18 = .ok (.iload_n 3, 1) := by decide +kernel
theorem dX9_minute_19 : decode cX9_minute 19 = .ok (.iload_n 1, 1) := by decide +kernel
theorem dX9_minute_20 : decode cX9_minute 20 = .ok (.if_icmp .ge 22, 3) := by decide +kernel
theorem dX9_minute_23 : decode cX9_minute 23 = .ok (.aload_n 0, 1) := by decide +kernel
theorem dX9_minute_24 : decode cX9_minute 24 = .ok (.getfield 29, 3) := by decide +kernel
theorem dX9_minute_27 : decode cX9_minute 27 = .ok (.iconst 5, 1) := by decide +kernel
theorem dX9_minute_28 : decode cX9_minute 28 = .ok (.iaload, 1) := by decide +kernel
theorem dX9_minute_29 : decode cX9_minute 29 = .ok (.ifCond .ne 13, 3) := by decide +kernel
theorem dX9_minute_32 : decode cX9_minute 32 = .ok (.aload_n 0, 1) := by decide +kernel
theorem dX9_minute_33 : decode cX9_minute 33 = .ok (.invokevirtual 214, 3) := by decide +kernel
theorem dX9_minute_36 : decode cX9_minute 36 = .ok (.iinc 3 1, 3) := by decide +kernel
theorem dX9_minute_39 : decode cX9_minute 39 = .ok (.goto (-21), 3) := by decide +kernel
theorem dX9_minute_42 : decode cX9_minute 42 = .ok (.aload_n 0, 1) := by decide +kernel
theorem dX9_minute_43 : decode cX9_minute 43 = .ok (.getfield 29, 3) := by decide +kernel
theorem dX9_minute_46 : decode cX9_minute 46 = .ok (.iconst 1, 1) := by decide +kernel
theorem dX9_minute_47 : decode cX9_minute 47 = .ok (.iaload, 1) := by decide +kernel
theorem dX9_minute_48 : decode cX9_minute 48 = .ok (.sipush 10000, 3) := by decide +kernel
theorem dX9_minute_51 : decode cX9_minute 51 = .ok (.iadd, 1) := by decide +kernel
theorem dX9_minute_52 : decode cX9_minute 52 = .ok (.ireturn, 1) := by decide +kernel
set_option maxRecDepth 20000 in
theorem ggX9_press_X9_in : GoodIn wsX9_press wsX9_in := goodIn_r _ [9] (by decide +kernel) (by decide +kernel)
set_option maxRecDepth 20000 in
theorem gX9_press_X9_in : GoodIn wsX9_press (va_wsS RX9 96 yX9_in wsX9_in) := goodIn_app (goodIn_of _ (by decide +kernel)) ggX9_press_X9_in
set_option maxRecDepth 20000 in
theorem ggX9_press_X9_isReady : GoodIn wsX9_press wsX9_isReady := goodIn_r _ [13, 14, 5, 21, 22, 23, 24, 25, 26, 27, 28, 29, 30, 31, 32, 33, 34, 35, 36, 37, 38, 39, 40, 41, 42, 43, 44, 45, 46, 47, 48, 49, 50, 51, 52, 53, 54, 55, 56, 57, 58, 59, 60, 61, 62, 63, 64, 65, 66, 67] (by decide +kernel) (by decide +kernel)
set_option maxRecDepth 20000 in
theorem gX9_press_X9_isReady : GoodIn wsX9_press (wsV RX9 219 RX9 yX9_isReady wsX9_isReady) := goodIn_app (goodIn_of _ (by decide +kernel)) ggX9_press_X9_isReady
set_option maxRecDepth 20000 in
theorem ggX9_press_X9_remember : GoodIn wsX9_press wsX9_remember := goodIn_r _ [18, 19, 20, 5, 21, 22, 23, 24, 25, 26, 27, 28, 29, 30, 31, 32, 33, 34, 35, 36, 37, 38, 39, 40, 41, 42, 43, 44, 45, 46, 47, 48, 49, 50, 51, 52, 53, 54, 55, 56, 57, 58, 59, 60, 61, 62, 63, 64, 65, 66, 67] (by decide +kernel) (by decide +kernel)
set_option maxRecDepth 20000 in
theorem gX9_press_X9_remember : GoodIn wsX9_press (wsV RX9 227 RX9 yX9_remember wsX9_remember) := goodIn_app (goodIn_of _ (by decide +kernel)) ggX9_press_X9_remember
theorem dX9_press_0 : decode cX9_press 0 = .ok (.iload_n 1, 1) := by decide +kernel
theorem dX9_press_1 : decode cX9_press 1 = .ok (.i2l, 1) := by decide +kernel
theorem dX9_press_2 : decode cX9_press 2 = .ok (.ldc2_w 230, 3) := by decide +kernel
theorem dX9_press_5 : decode cX9_press 5 = .ok (.ldc2_w 217, 3) := by decide +kernel
theorem dX9_press_8 : decode cX9_press 8 = .ok (.invokestatic 96, 3) := by decide +kernel
theorem dX9_press_11 : decode cX9_press 11 = .ok (.ifCond .eq 17, 3) := by decide +kernel
theorem dX9_press_14 : decode cX9_press 14 = .ok (.iload_n 2, 1) := by decide +kernel
theorem dX9_press_15 : decode cX9_press 15 = .ok (.i2l, 1) := by decide +kernel
theorem dX9_press_16 : decode cX9_press 16 = .ok (.ldc2_w 230, 3) := by decide +kernel
theorem dX9_press_19 : decode cX9_press 19 = .ok (.ldc2_w 217, 3) := by decide +kernel
theorem dX9_press_22 : decode cX9_press 22 = .ok (.invokestatic 96, 3) := by decide +kernel
theorem dX9_press_25 : decode cX9_press 25 = .ok (.ifCond .ne 6, 3) := by decide +kernel
theorem dX9_press_28 : decode cX9_press 28 = .ok (.ldc 100, 2) := by decide +kernel
theorem dX9_press_30 : decode cX9_press 30 = .ok (.ireturn, 1) := by decide +kernel
theorem dX9_press_31 : decode cX9_press 31 = .ok (.aload_n 0, 1) := by decide +kernel
theorem dX9_press_32 : decode cX9_press 32 = .ok (.invokevirtual 219, 3) := by decide +kernel
theorem dX9_press_35 : decode cX9_press 35 = .ok (.ifCond .ne 6, 3) := by decide +kernel
theorem dX9_press_38 : decode cX9_press 38 = .ok (.ldc 223, 2) := by decide +kernel
theorem dX9_press_40 : decode cX9_press 40 = .ok (.ireturn, 1) := by decide +kernel
theorem dX9_press_41 : decode cX9_press 41 = .ok (.aload_n 0, 1) := by decide +kernel
theorem dX9_press_42 : decode cX9_press 42 = .ok (.invokevirtual 227, 3) := by decide +kernel
theorem dX9_press_45 : decode cX9_press 45 = .ok (.aload_n 0, 1) := by decide +kernel
theorem dX9_press_46 : decode cX9_press 46 = .ok (.getfield 29, 3) := by decide +kernel
theorem dX9_press_49 : decode cX9_press 49 = .ok (.iconst 3, 1) := by decide +kernel
theorem dX9_press_50 : decode cX9_press 50 = .ok (.iload_n 1, 1) := by decide +kernel
theorem dX9_press_51 : decode cX9_press 51 = .ok (.iastore, 1) := by decide +kernel
theorem dX9_press_52 : decode cX9_press 52 = .ok (.aload_n 0, 1) := by decide +kernel
theorem dX9_press_53 : decode cX9_press 53 = .ok (.getfield 29, 3) := by decide +kernel
theorem dX9_press_56 : decode cX9_press 56 = .ok (.iconst 4, 1) := by decide +kernel
theorem dX9_press_57 : decode cX9_press 57 = .ok (.iload_n 2, 1) := by decide +kernel
theorem dX9_press_58 : decode cX9_press 58 = .ok (.iastore, 1) := by decide +kernel
theorem dX9_press_59 : decode cX9_press 59 = .ok (.iconst 1, 1) := by decide +kernel
theorem dX9_press_60 : decode cX9_press 60 = .ok (.ireturn, 1) := by decide +kernel
set_option maxRecDepth 20000 in
theorem ggX9_rule_X9_in : GoodIn wsX9_rule wsX9_in := goodIn_r _ [8] (by decide +kernel) (by decide +kernel)
set_option maxRecDepth 20000 in
theorem gX9_rule_X9_in : GoodIn wsX9_rule (va_wsS RX9 96 yX9_in wsX9_in) := goodIn_app (goodIn_of _ (by decide +kernel)) ggX9_rule_X9_in
set_option maxRecDepth 20000 in
theorem ggX9_rule_X9_minutesRefused : GoodIn wsX9_rule wsX9_minutesRefused := goodIn_r _ [12, 1, 3, 13, 4, 14, 5, 6, 7, 8, 15, 16, 17, 18, 19, 57, 58, 59, 60, 61, 62, 63, 64, 65, 66, 67, 68, 69, 70, 71, 72, 73, 74, 75, 76, 77, 78, 79, 80, 81, 82, 83, 84, 85, 86, 87, 88, 89, 90, 91, 92, 93, 94, 95, 96, 97, 98, 99, 100, 101, 102, 103] (by decide +kernel) (by decide +kernel)
set_option maxRecDepth 20000 in
theorem gX9_rule_X9_minutesRefused : GoodIn wsX9_rule (wsV RX9 224 RX9 yX9_minutesRefused wsX9_minutesRefused) := goodIn_app (goodIn_of _ (by decide +kernel)) ggX9_rule_X9_minutesRefused
set_option maxRecDepth 20000 in
theorem ggX9_rule_X9_remember : GoodIn wsX9_rule wsX9_remember := goodIn_r _ [23, 24, 25, 4, 57, 58, 59, 60, 61, 62, 63, 64, 65, 66, 67, 68, 69, 70, 71, 72, 73, 74, 75, 76, 77, 78, 79, 80, 81, 82, 83, 84, 85, 86, 87, 88, 89, 90, 91, 92, 93, 94, 95, 96, 97, 98, 99, 100, 101, 102, 103] (by decide +kernel) (by decide +kernel)
set_option maxRecDepth 20000 in
theorem gX9_rule_X9_remember : GoodIn wsX9_rule (wsV RX9 227 RX9 yX9_remember wsX9_remember) := goodIn_app (goodIn_of _ (by decide +kernel)) ggX9_rule_X9_remember
set_option maxRecDepth 20000 in
theorem ggX9_rule_X9_ruled : GoodIn wsX9_rule wsX9_ruled := goodIn_r _ [29, 4, 30, 31, 32, 7, 33, 34, 35, 36, 37, 38, 39, 40, 41, 42, 43, 44, 45, 46, 47, 48, 49, 50, 51, 52, 53, 54, 55, 56, 57, 58, 59, 60, 61, 62, 63, 64, 65, 66, 67, 68, 69, 70, 71, 72, 73, 74, 75, 76, 77, 78, 79, 80, 81, 82, 83, 84, 85, 86, 87, 88, 89, 90, 91, 92, 93, 94, 95, 96, 97, 98, 99, 100, 101, 102, 103] (by decide +kernel) (by decide +kernel)
set_option maxRecDepth 20000 in
theorem gX9_rule_X9_ruled : GoodIn wsX9_rule (wsV RX9 234 RX9 yX9_ruled wsX9_ruled) := goodIn_app (goodIn_of _ (by decide +kernel)) ggX9_rule_X9_ruled
theorem dX9_rule_0 : decode cX9_rule 0 = .ok (.iload_n 1, 1) := by decide +kernel
theorem dX9_rule_1 : decode cX9_rule 1 = .ok (.i2l, 1) := by decide +kernel
theorem dX9_rule_2 : decode cX9_rule 2 = .ok (.lconst 0, 1) := by decide +kernel
theorem dX9_rule_3 : decode cX9_rule 3 = .ok (.ldc2_w 217, 3) := by decide +kernel
theorem dX9_rule_6 : decode cX9_rule 6 = .ok (.invokestatic 96, 3) := by decide +kernel
theorem dX9_rule_9 : decode cX9_rule 9 = .ok (.ifCond .eq 15, 3) := by decide +kernel
theorem dX9_rule_12 : decode cX9_rule 12 = .ok (.iload_n 2, 1) := by decide +kernel
theorem dX9_rule_13 : decode cX9_rule 13 = .ok (.i2l, 1) := by decide +kernel
theorem dX9_rule_14 : decode cX9_rule 14 = .ok (.lconst 0, 1) := by decide +kernel
theorem dX9_rule_15 : decode cX9_rule 15 = .ok (.ldc2_w 232, 3) := by decide +kernel
theorem dX9_rule_18 : decode cX9_rule 18 = .ok (.invokestatic 96, 3) := by decide +kernel
theorem dX9_rule_21 : decode cX9_rule 21 = .ok (.ifCond .ne 6, 3) := by decide +kernel
theorem dX9_rule_24 : decode cX9_rule 24 = .ok (.ldc 100, 2) := by decide +kernel
theorem dX9_rule_26 : decode cX9_rule 26 = .ok (.ireturn, 1) := by decide +kernel
theorem dX9_rule_27 : decode cX9_rule 27 = .ok (.aload_n 0, 1) := by decide +kernel
theorem dX9_rule_28 : decode cX9_rule 28 = .ok (.iload_n 3, 1) := by decide +kernel
theorem dX9_rule_29 : decode cX9_rule 29 = .ok (.invokevirtual 224, 3) := by decide +kernel
theorem dX9_rule_32 : decode cX9_rule 32 = .ok (.istore 4, 2) := by decide +kernel
theorem dX9_rule_34 : decode cX9_rule 34 = .ok (.iload 4, 2) := by decide +kernel
theorem dX9_rule_36 : decode cX9_rule 36 = .ok (.ifCond .eq 6, 3) := by decide +kernel
theorem dX9_rule_39 : decode cX9_rule 39 = .ok (.iload 4, 2) := by decide +kernel
theorem dX9_rule_41 : decode cX9_rule 41 = .ok (.ireturn, 1) := by decide +kernel
theorem dX9_rule_42 : decode cX9_rule 42 = .ok (.aload_n 0, 1) := by decide +kernel
theorem dX9_rule_43 : decode cX9_rule 43 = .ok (.invokevirtual 227, 3) := by decide +kernel
theorem dX9_rule_46 : decode cX9_rule 46 = .ok (.iconst 0, 1) := by decide +kernel
theorem dX9_rule_47 : decode cX9_rule 47 = .ok (.istore 5, 2) := by decide +kernel
theorem dX9_rule_49 : decode cX9_rule 49 = .ok (.iconst 0, 1) := by decide +kernel
theorem dX9_rule_50 : decode cX9_rule 50 = .ok (.istore 6, 2) := by decide +kernel
theorem dX9_rule_52 : decode cX9_rule 52 = .ok (.iload 6, 2) := by decide +kernel
theorem dX9_rule_54 : decode cX9_rule 54 = .ok (.iload_n 3, 1) := by decide +kernel
theorem dX9_rule_55 : decode cX9_rule 55 = .ok (.if_icmp .ge 37, 3) := by decide +kernel
theorem dX9_rule_58 : decode cX9_rule 58 = .ok (.aload_n 0, 1) := by decide +kernel
theorem dX9_rule_59 : decode cX9_rule 59 = .ok (.getfield 29, 3) := by decide +kernel
theorem dX9_rule_62 : decode cX9_rule 62 = .ok (.iconst 5, 1) := by decide +kernel
theorem dX9_rule_63 : decode cX9_rule 63 = .ok (.iaload, 1) := by decide +kernel
theorem dX9_rule_64 : decode cX9_rule 64 = .ok (.ifCond .ne 28, 3) := by decide +kernel
theorem dX9_rule_67 : decode cX9_rule 67 = .ok (.iload 5, 2) := by decide +kernel
theorem dX9_rule_69 : decode cX9_rule 69 = .ok (.aload_n 0, 1) := by decide +kernel
theorem dX9_rule_70 : decode cX9_rule 70 = .ok (.iload_n 1, 1) := by decide +kernel
theorem dX9_rule_71 : decode cX9_rule 71 = .ok (.iload_n 2, 1) := by decide +kernel
theorem dX9_rule_72 : decode cX9_rule 72 = .ok (.invokevirtual 234, 3) := by decide +kernel
theorem dX9_rule_75 : decode cX9_rule 75 = .ok (.ifCond .eq 7, 3) := by decide +kernel
theorem dX9_rule_78 : decode cX9_rule 78 = .ok (.iconst 1, 1) := by decide +kernel
theorem dX9_rule_79 : decode cX9_rule 79 = .ok (.goto 4, 3) := by decide +kernel
theorem dX9_rule_82 : decode cX9_rule 82 = .ok (.iconst 0, 1) := by decide +kernel
theorem dX9_rule_83 : decode cX9_rule 83 = .ok (.iadd, 1) := by decide +kernel
theorem dX9_rule_84 : decode cX9_rule 84 = .ok (.istore 5, 2) := by decide +kernel
theorem dX9_rule_86 : decode cX9_rule 86 = .ok (.iinc 6 1, 3) := by decide +kernel
theorem dX9_rule_89 : decode cX9_rule 89 = .ok (.goto (-37), 3) := by decide +kernel
theorem dX9_rule_92 : decode cX9_rule 92 = .ok (.iload 5, 2) := by decide +kernel
theorem dX9_rule_94 : decode cX9_rule 94 = .ok (.ireturn, 1) := by decide +kernel
set_option maxRecDepth 20000 in
theorem ggX9_shut_X9_remember : GoodIn wsX9_shut wsX9_remember := goodIn_r _ [8, 9, 10, 3, 11, 12, 13, 14, 15, 16, 17, 18, 19, 20, 21, 22, 23, 24, 25, 26, 27, 28, 29, 30, 31, 32, 33, 34, 35, 36, 37, 38, 39, 40, 41, 42, 43, 44, 45, 46, 47, 48, 49, 50, 51, 52, 53, 54, 55, 56, 57] (by decide +kernel) (by decide +kernel)
set_option maxRecDepth 20000 in
theorem gX9_shut_X9_remember : GoodIn wsX9_shut (wsV RX9 227 RX9 yX9_remember wsX9_remember) := goodIn_app (goodIn_of _ (by decide +kernel)) ggX9_shut_X9_remember
theorem dX9_shut_0 : decode cX9_shut 0 = .ok (.aload_n 0, 1) := by decide +kernel
theorem dX9_shut_1 : decode cX9_shut 1 = .ok (.getfield 90, 3) := by decide +kernel
theorem dX9_shut_4 : decode cX9_shut 4 = .ok (.ifCond .ne 6, 3) := by decide +kernel
theorem dX9_shut_7 : decode cX9_shut 7 = .ok (.ldc 223, 2) := by decide +kernel
theorem dX9_shut_9 : decode cX9_shut 9 = .ok (.ireturn, 1) := by decide +kernel
theorem dX9_shut_10 : decode cX9_shut 10 = .ok (.aload_n 0, 1) := by decide +kernel
theorem dX9_shut_11 : decode cX9_shut 11 = .ok (.invokevirtual 227, 3) := by decide +kernel
theorem dX9_shut_14 : decode cX9_shut 14 = .ok (.aload_n 0, 1) := by decide +kernel
theorem dX9_shut_15 : decode cX9_shut 15 = .ok (.getfield 29, 3) := by decide +kernel
theorem dX9_shut_18 : decode cX9_shut 18 = .ok (.bipush 6, 2) := by decide +kernel
theorem dX9_shut_20 : decode cX9_shut 20 = .ok (.iaload, 1) := by decide +kernel
theorem dX9_shut_21 : decode cX9_shut 21 = .ok (.istore_n 2, 1) := by decide +kernel
theorem dX9_shut_22 : decode cX9_shut 22 = .ok (.aload_n 0, 1) := by decide +kernel
theorem dX9_shut_23 : decode cX9_shut 23 = .ok (.getfield 29, 3) := by decide +kernel
theorem dX9_shut_26 : decode cX9_shut 26 = .ok (.bipush 6, 2) := by decide +kernel
theorem dX9_shut_28 : decode cX9_shut 28 = .ok (.iload_n 1, 1) := by decide +kernel
theorem dX9_shut_29 : decode cX9_shut 29 = .ok (.ifCond .eq 7, 3) := by decide +kernel
theorem dX9_shut_32 : decode cX9_shut 32 = .ok (.iconst 1, 1) := by decide +kernel
theorem dX9_shut_33 : decode cX9_shut 33 = .ok (.goto 4, 3) := by decide +kernel
theorem dX9_shut_36 : decode cX9_shut 36 = .ok (.iconst 0, 1) := by decide +kernel
theorem dX9_shut_37 : decode cX9_shut 37 = .ok (.iastore, 1) := by decide +kernel
theorem dX9_shut_38 : decode cX9_shut 38 = .ok (.iload_n 2, 1) := by decide +kernel
theorem dX9_shut_39 : decode cX9_shut 39 = .ok (.ireturn, 1) := by decide +kernel
set_option maxRecDepth 20000 in
theorem ggX9_plate_X9_remember : GoodIn wsX9_plate wsX9_remember := goodIn_r _ [7, 8, 9, 10, 19, 20, 21, 22, 23, 24, 25, 26, 27, 28, 29, 30, 31, 32, 33, 34, 35, 36, 37, 38, 39, 40, 41, 42, 43, 44, 45, 46, 47, 48, 49, 50, 51, 52, 53, 54, 55, 56, 57, 58, 59, 60, 61, 62, 63, 64, 65] (by decide +kernel) (by decide +kernel)
set_option maxRecDepth 20000 in
theorem gX9_plate_X9_remember : GoodIn wsX9_plate (wsV RX9 227 RX9 yX9_remember wsX9_remember) := goodIn_app (goodIn_of _ (by decide +kernel)) ggX9_plate_X9_remember
set_option maxRecDepth 20000 in
theorem ggX9_plate_X9_tailNow : GoodIn wsX9_plate wsX9_tailNow := goodIn_r _ [14, 10, 19, 20, 21, 22, 23, 24, 25, 26, 27, 28, 29, 30, 31, 32, 33, 34, 35, 36, 37, 38, 39, 40, 41, 42, 43, 44, 45, 46, 47, 48, 49, 50, 51, 52, 53, 54, 55, 56, 57, 58, 59, 60, 61, 62, 63, 64, 65] (by decide +kernel) (by decide +kernel)
set_option maxRecDepth 20000 in
theorem gX9_plate_X9_tailNow : GoodIn wsX9_plate (wsV RX9 196 RX9 yX9_tailNow wsX9_tailNow) := goodIn_app (goodIn_of _ (by decide +kernel)) ggX9_plate_X9_tailNow
set_option maxRecDepth 20000 in
theorem ggX9_plate_X9_newPlate : GoodIn wsX9_plate wsX9_newPlate := goodIn_r _ [18, 10, 19, 20, 21, 22, 23, 24, 25, 26, 27, 28, 29, 30, 31, 32, 33, 34, 35, 36, 37, 38, 39, 40, 41, 42, 43, 44, 45, 46, 47, 48, 49, 50, 51, 52, 53, 54, 55, 56, 57, 58, 59, 60, 61, 62, 63, 64, 65] (by decide +kernel) (by decide +kernel)
set_option maxRecDepth 20000 in
theorem gX9_plate_X9_newPlate : GoodIn wsX9_plate (wsV RX9 238 RX9 yX9_newPlate wsX9_newPlate) := goodIn_app (goodIn_of _ (by decide +kernel)) ggX9_plate_X9_newPlate
theorem dX9_plate_0 : decode cX9_plate 0 = .ok (.aload_n 0, 1) := by decide +kernel
theorem dX9_plate_1 : decode cX9_plate 1 = .ok (.getfield 90, 3) := by decide +kernel
theorem dX9_plate_4 : decode cX9_plate 4 = .ok (.ifCond .ne 6, 3) := by decide +kernel
theorem dX9_plate_7 : decode cX9_plate 7 = .ok (.ldc 223, 2) := by decide +kernel
theorem dX9_plate_9 : decode cX9_plate 9 = .ok (.ireturn, 1) := by decide +kernel
theorem dX9_plate_10 : decode cX9_plate 10 = .ok (.aload_n 0, 1) := by decide +kernel
theorem dX9_plate_11 : decode cX9_plate 11 = .ok (.invokevirtual 227, 3) := by decide +kernel
theorem dX9_plate_14 : decode cX9_plate 14 = .ok (.aload_n 0, 1) := by decide +kernel
theorem dX9_plate_15 : decode cX9_plate 15 = .ok (.invokevirtual 196, 3) := by decide +kernel
theorem dX9_plate_18 : decode cX9_plate 18 = .ok (.istore_n 1, 1) := by decide +kernel
theorem dX9_plate_19 : decode cX9_plate 19 = .ok (.aload_n 0, 1) := by decide +kernel
theorem dX9_plate_20 : decode cX9_plate 20 = .ok (.invokevirtual 238, 3) := by decide +kernel
theorem dX9_plate_23 : decode cX9_plate 23 = .ok (.iload_n 1, 1) := by decide +kernel
theorem dX9_plate_24 : decode cX9_plate 24 = .ok (.ireturn, 1) := by decide +kernel
theorem dX9_draw_0 : decode cX9_draw 0 = .ok (.aload_n 0, 1) := by decide +kernel
theorem dX9_draw_1 : decode cX9_draw 1 = .ok (.aload_n 0, 1) := by decide +kernel
theorem dX9_draw_2 : decode cX9_draw 2 = .ok (.getfield 241, 3) := by decide +kernel
theorem dX9_draw_5 : decode cX9_draw 5 = .ok (.i2l, 1) := by decide +kernel
theorem dX9_draw_6 : decode cX9_draw 6 = .ok (.ldc2_w 244, 3) := by decide +kernel
theorem dX9_draw_9 : decode cX9_draw 9 = .ok (.lmul, 1) := by decide +kernel
theorem dX9_draw_10 : decode cX9_draw 10 = .ok (.ldc2_w 246, 3) := by decide +kernel
theorem dX9_draw_13 : decode cX9_draw 13 = .ok (.ladd, 1) := by decide +kernel
theorem dX9_draw_14 : decode cX9_draw 14 = .ok (.ldc2_w 248, 3) := by decide +kernel
theorem dX9_draw_17 : decode cX9_draw 17 = .ok (.lrem, 1) := by decide +kernel
theorem dX9_draw_18 : decode cX9_draw 18 = .ok (.l2i, 1) := by decide +kernel
theorem dX9_draw_19 : decode cX9_draw 19 = .ok (.putfield 241, 3) := by decide +kernel
theorem dX9_draw_22 : decode cX9_draw 22 = .ok (.aload_n 0, 1) := by decide +kernel
theorem dX9_draw_23 : decode cX9_draw 23 = .ok (.getfield 241, 3) := by decide +kernel
theorem dX9_draw_26 : decode cX9_draw 26 = .ok (.ldc 250, 2) := by decide +kernel
theorem dX9_draw_28 : decode cX9_draw 28 = .ok (.idiv, 1) := by decide +kernel
theorem dX9_draw_29 : decode cX9_draw 29 = .ok (.iload_n 1, 1) := by decide +kernel
theorem dX9_draw_30 : decode cX9_draw 30 = .ok (.irem, 1) := by decide +kernel
theorem dX9_draw_31 : decode cX9_draw 31 = .ok (.ireturn, 1) := by decide +kernel
set_option maxRecDepth 20000 in
theorem ggX9_drift_X9_minutesRefused : GoodIn wsX9_drift wsX9_minutesRefused := goodIn_r _ [6, 7, 8, 9, 1, 10, 11, 12, 5, 13, 14, 15, 16, 17, 18, 57, 58, 59, 60, 61, 62, 63, 64, 65, 66, 67, 68, 69, 70, 71, 72, 73, 74, 75, 76, 77, 78, 79, 80, 81, 82, 83, 84, 85, 86, 87, 88, 89, 90, 91, 92, 93, 94, 95, 96, 97, 98, 99, 100, 101, 102, 103] (by decide +kernel) (by decide +kernel)
set_option maxRecDepth 20000 in
theorem gX9_drift_X9_minutesRefused : GoodIn wsX9_drift (wsV RX9 224 RX9 yX9_minutesRefused wsX9_minutesRefused) := goodIn_app (goodIn_of _ (by decide +kernel)) ggX9_drift_X9_minutesRefused
set_option maxRecDepth 20000 in
theorem ggX9_drift_X9_remember : GoodIn wsX9_drift wsX9_remember := goodIn_r _ [22, 23, 24, 1, 57, 58, 59, 60, 61, 62, 63, 64, 65, 66, 67, 68, 69, 70, 71, 72, 73, 74, 75, 76, 77, 78, 79, 80, 81, 82, 83, 84, 85, 86, 87, 88, 89, 90, 91, 92, 93, 94, 95, 96, 97, 98, 99, 100, 101, 102, 103] (by decide +kernel) (by decide +kernel)
set_option maxRecDepth 20000 in
theorem gX9_drift_X9_remember : GoodIn wsX9_drift (wsV RX9 227 RX9 yX9_remember wsX9_remember) := goodIn_app (goodIn_of _ (by decide +kernel)) ggX9_drift_X9_remember
set_option maxRecDepth 20000 in
theorem ggX9_drift_X9_draw : GoodIn wsX9_drift wsX9_draw := goodIn_r _ [28, 29, 30, 31, 32, 33, 57, 58, 59, 60, 61, 62, 63, 64, 65, 66, 67, 68, 69, 70, 71, 72, 73, 74, 75, 76, 77, 78, 79, 80, 81, 82, 83, 84, 85, 86, 87, 88, 89, 90, 91, 92, 93, 94, 95, 96, 97, 98, 99, 100, 101, 102, 103] (by decide +kernel) (by decide +kernel)
set_option maxRecDepth 20000 in
theorem gX9_drift_X9_draw : GoodIn wsX9_drift (wsV RX9 251 RX9 yX9_draw wsX9_draw) := goodIn_app (goodIn_of _ (by decide +kernel)) ggX9_drift_X9_draw
set_option maxRecDepth 20000 in
theorem ggX9_drift_X9_pass : GoodIn wsX9_drift wsX9_pass := goodIn_r _ [37, 1, 38, 39, 40, 41, 42, 43, 44, 45, 46, 5, 47, 48, 49, 50, 51, 52, 53, 54, 55, 56, 57, 58, 59, 60, 61, 62, 63, 64, 65, 66, 67, 68, 69, 70, 71, 72, 73, 74, 75, 76, 77, 78, 79, 80, 81, 82, 83, 84, 85, 86, 87, 88, 89, 90, 91, 92, 93, 94, 95, 96, 97, 98, 99, 100, 101, 102, 103] (by decide +kernel) (by decide +kernel)
set_option maxRecDepth 20000 in
theorem gX9_drift_X9_pass : GoodIn wsX9_drift (wsV RX9 214 RX9 yX9_pass wsX9_pass) := goodIn_app (goodIn_of _ (by decide +kernel)) ggX9_drift_X9_pass
theorem dX9_drift_0 : decode cX9_drift 0 = .ok (.aload_n 0, 1) := by decide +kernel
theorem dX9_drift_1 : decode cX9_drift 1 = .ok (.iload_n 1, 1) := by decide +kernel
theorem dX9_drift_2 : decode cX9_drift 2 = .ok (.invokevirtual 224, 3) := by decide +kernel
theorem dX9_drift_5 : decode cX9_drift 5 = .ok (.istore_n 2, 1) := by decide +kernel
theorem dX9_drift_6 : decode cX9_drift 6 = .ok (.iload_n 2, 1) := by decide +kernel
theorem dX9_drift_7 : decode cX9_drift 7 = .ok (.ifCond .eq 5, 3) := by decide +kernel
theorem dX9_drift_10 : decode cX9_drift 10 = .ok (.iload_n 2, 1) := by decide +kernel
theorem dX9_drift_11 : decode cX9_drift 11 = .ok (.ireturn, 1) := by decide +kernel
theorem dX9_drift_12 : decode cX9_drift 12 = .ok (.aload_n 0, 1) := by decide +kernel
theorem dX9_drift_13 : decode cX9_drift 13 = .ok (.invokevirtual 227, 3) := by decide +kernel
theorem dX9_drift_16 : decode cX9_drift 16 = .ok (.iconst 0, 1) := by decide +kernel
theorem dX9_drift_17 : decode cX9_drift 17 = .ok (.istore_n 3, 1) := by decide +kernel
theorem dX9_drift_18 : decode cX9_drift 18 = .ok (.iload_n 3, 1) := by decide +kernel
