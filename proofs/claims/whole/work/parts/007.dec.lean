theorem dX5_copy_81 : decode cX5_copy 81 = .ok (.aload_n 0, 1) := by decide +kernel
theorem dX5_copy_82 : decode cX5_copy 82 = .ok (.getfield 13, 3) := by decide +kernel
theorem dX5_copy_85 : decode cX5_copy 85 = .ok (.iload_n 3, 1) := by decide +kernel
theorem dX5_copy_86 : decode cX5_copy 86 = .ok (.iaload, 1) := by decide +kernel
theorem dX5_copy_87 : decode cX5_copy 87 = .ok (.invokestatic 71, 3) := by decide +kernel
theorem dX5_copy_90 : decode cX5_copy 90 = .ok (.ifCond .ne 9, 3) := by decide +kernel
theorem dX5_copy_93 : decode cX5_copy 93 = .ok (.aload_n 0, 1) := by decide +kernel
theorem dX5_copy_94 : decode cX5_copy 94 = .ok (.iconst 2, 1) := by decide +kernel
theorem dX5_copy_95 : decode cX5_copy 95 = .ok (.invokevirtual 64, 3) := by decide +kernel
theorem dX5_copy_98 : decode cX5_copy 98 = .ok (.ireturn, 1) := by decide +kernel
theorem dX5_copy_99 : decode cX5_copy 99 = .ok (.iload_n 1, 1) := by decide +kernel
theorem dX5_copy_100 : decode cX5_copy 100 = .ok (.iload_n 3, 1) := by decide +kernel
theorem dX5_copy_101 : decode cX5_copy 101 = .ok (.if_icmp .ne 13, 3) := by decide +kernel
theorem dX5_copy_104 : decode cX5_copy 104 = .ok (.iload 4, 2) := by decide +kernel
theorem dX5_copy_106 : decode cX5_copy 106 = .ok (.iload_n 2, 1) := by decide +kernel
theorem dX5_copy_107 : decode cX5_copy 107 = .ok (.if_icmp .le 7, 3) := by decide +kernel
theorem dX5_copy_110 : decode cX5_copy 110 = .ok (.iconst 1, 1) := by decide +kernel
theorem dX5_copy_111 : decode cX5_copy 111 = .ok (.goto 4, 3) := by decide +kernel
theorem dX5_copy_114 : decode cX5_copy 114 = .ok (.iconst 0, 1) := by decide +kernel
theorem dX5_copy_115 : decode cX5_copy 115 = .ok (.istore 6, 2) := by decide +kernel
theorem dX5_copy_117 : decode cX5_copy 117 = .ok (.iconst 0, 1) := by decide +kernel
theorem dX5_copy_118 : decode cX5_copy 118 = .ok (.istore 7, 2) := by decide +kernel
theorem dX5_copy_120 : decode cX5_copy 120 = .ok (.iload 7, 2) := by decide +kernel
theorem dX5_copy_122 : decode cX5_copy 122 = .ok (.iload 5, 2) := by decide +kernel
theorem dX5_copy_124 : decode cX5_copy 124 = .ok (.if_icmp .ge 57, 3) := by decide +kernel
theorem dX5_copy_127 : decode cX5_copy 127 = .ok (.iload 6, 2) := by decide +kernel
theorem dX5_copy_129 : decode cX5_copy 129 = .ok (.ifCond .eq 13, 3) := by decide +kernel
theorem dX5_copy_132 : decode cX5_copy 132 = .ok (.iload 5, 2) := by decide +kernel
theorem dX5_copy_134 : decode cX5_copy 134 = .ok (.iconst 1, 1) := by decide +kernel
theorem dX5_copy_135 : decode cX5_copy 135 = .ok (.isub, 1) := by decide +kernel
theorem dX5_copy_136 : decode cX5_copy 136 = .ok (.iload 7, 2) := by decide +kernel
theorem dX5_copy_138 : decode cX5_copy 138 = .ok (.isub, 1) := by decide +kernel
theorem dX5_copy_139 : decode cX5_copy 139 = .ok (.goto 5, 3) := by decide +kernel
theorem dX5_copy_142 : decode cX5_copy 142 = .ok (.iload 7, 2) := by decide +kernel
theorem dX5_copy_144 : decode cX5_copy 144 = .ok (.istore 8, 2) := by decide +kernel
theorem dX5_copy_146 : decode cX5_copy 146 = .ok (.aload_n 0, 1) := by decide +kernel
theorem dX5_copy_147 : decode cX5_copy 147 = .ok (.getfield 16, 3) := by decide +kernel
theorem dX5_copy_150 : decode cX5_copy 150 = .ok (.bipush 40, 2) := by decide +kernel
theorem dX5_copy_152 : decode cX5_copy 152 = .ok (.iload_n 3, 1) := by decide +kernel
theorem dX5_copy_153 : decode cX5_copy 153 = .ok (.imul, 1) := by decide +kernel
theorem dX5_copy_154 : decode cX5_copy 154 = .ok (.iload 4, 2) := by decide +kernel
theorem dX5_copy_156 : decode cX5_copy 156 = .ok (.iadd, 1) := by decide +kernel
theorem dX5_copy_157 : decode cX5_copy 157 = .ok (.iload 8, 2) := by decide +kernel
theorem dX5_copy_159 : decode cX5_copy 159 = .ok (.iadd, 1) := by decide +kernel
theorem dX5_copy_160 : decode cX5_copy 160 = .ok (.aload_n 0, 1) := by decide +kernel
theorem dX5_copy_161 : decode cX5_copy 161 = .ok (.getfield 16, 3) := by decide +kernel
theorem dX5_copy_164 : decode cX5_copy 164 = .ok (.bipush 40, 2) := by decide +kernel
theorem dX5_copy_166 : decode cX5_copy 166 = .ok (.iload_n 1, 1) := by decide +kernel
theorem dX5_copy_167 : decode cX5_copy 167 = .ok (.imul, 1) := by decide +kernel
theorem dX5_copy_168 : decode cX5_copy 168 = .ok (.iload_n 2, 1) := by decide +kernel
theorem dX5_copy_169 : decode cX5_copy 169 = .ok (.iadd, 1) := by decide +kernel
theorem dX5_copy_170 : decode cX5_copy 170 = .ok (.iload 8, 2) := by decide +kernel
theorem dX5_copy_172 : decode cX5_copy 172 = .ok (.iadd, 1) := by decide +kernel
theorem dX5_copy_173 : decode cX5_copy 173 = .ok (.iaload, 1) := by decide +kernel
theorem dX5_copy_174 : decode cX5_copy 174 = .ok (.iastore, 1) := by decide +kernel
theorem dX5_copy_175 : decode cX5_copy 175 = .ok (.iinc 7 1, 3) := by decide +kernel
theorem dX5_copy_178 : decode cX5_copy 178 = .ok (.goto (-58), 3) := by decide +kernel
theorem dX5_copy_181 : decode cX5_copy 181 = .ok (.aload_n 0, 1) := by decide +kernel
theorem dX5_copy_182 : decode cX5_copy 182 = .ok (.iload 5, 2) := by decide +kernel
theorem dX5_copy_184 : decode cX5_copy 184 = .ok (.invokevirtual 68, 3) := by decide +kernel
theorem dX5_copy_187 : decode cX5_copy 187 = .ok (.ireturn, 1) := by decide +kernel
set_option maxRecDepth 20000 in
theorem ggX5_drop_X5_isRow : GoodIn wsX5_drop wsX5_isRow := goodIn_r _ [7, 8, 9, 6, 10] (by decide +kernel) (by decide +kernel)
set_option maxRecDepth 20000 in
theorem gX5_drop_X5_isRow : GoodIn wsX5_drop (va_wsS RX5 59 yX5_isRow wsX5_isRow) := goodIn_app (goodIn_of _ (by decide +kernel)) ggX5_drop_X5_isRow
set_option maxRecDepth 20000 in
theorem ggX5_drop_X5_finds : GoodIn wsX5_drop wsX5_finds := goodIn_r _ [14, 15, 16, 21, 22, 23, 24, 25, 26, 27, 28, 29, 30, 31, 32, 33, 34, 35, 36, 37, 38, 39, 40, 41, 42, 43] (by decide +kernel) (by decide +kernel)
set_option maxRecDepth 20000 in
theorem gX5_drop_X5_finds : GoodIn wsX5_drop (wsV RX5 64 RX5 yX5_finds wsX5_finds) := goodIn_app (goodIn_of _ (by decide +kernel)) ggX5_drop_X5_finds
set_option maxRecDepth 20000 in
theorem ggX5_drop_X5_done : GoodIn wsX5_drop wsX5_done := goodIn_r _ [20, 15, 21, 22, 23, 24, 25, 26, 27, 28, 29, 30, 31, 32, 33, 34, 35, 36, 37, 38, 39, 40, 41, 42, 43] (by decide +kernel) (by decide +kernel)
set_option maxRecDepth 20000 in
theorem gX5_drop_X5_done : GoodIn wsX5_drop (wsV RX5 68 RX5 yX5_done wsX5_done) := goodIn_app (goodIn_of _ (by decide +kernel)) ggX5_drop_X5_done
theorem dX5_drop_0 : decode cX5_drop 0 = .ok (.iload_n 1, 1) := by decide +kernel
theorem dX5_drop_1 : decode cX5_drop 1 = .ok (.invokestatic 59, 3) := by decide +kernel
theorem dX5_drop_4 : decode cX5_drop 4 = .ok (.ifCond .ne 6, 3) := by decide +kernel
theorem dX5_drop_7 : decode cX5_drop 7 = .ok (.ldc 63, 2) := by decide +kernel
theorem dX5_drop_9 : decode cX5_drop 9 = .ok (.ireturn, 1) := by decide +kernel
theorem dX5_drop_10 : decode cX5_drop 10 = .ok (.aload_n 0, 1) := by decide +kernel
theorem dX5_drop_11 : decode cX5_drop 11 = .ok (.getfield 7, 3) := by decide +kernel
theorem dX5_drop_14 : decode cX5_drop 14 = .ok (.iload_n 1, 1) := by decide +kernel
theorem dX5_drop_15 : decode cX5_drop 15 = .ok (.iaload, 1) := by decide +kernel
theorem dX5_drop_16 : decode cX5_drop 16 = .ok (.ifCond .ge 9, 3) := by decide +kernel
theorem dX5_drop_19 : decode cX5_drop 19 = .ok (.aload_n 0, 1) := by decide +kernel
theorem dX5_drop_20 : decode cX5_drop 20 = .ok (.iconst 1, 1) := by decide +kernel
theorem dX5_drop_21 : decode cX5_drop 21 = .ok (.invokevirtual 64, 3) := by decide +kernel
theorem dX5_drop_24 : decode cX5_drop 24 = .ok (.ireturn, 1) := by decide +kernel
theorem dX5_drop_25 : decode cX5_drop 25 = .ok (.aload_n 0, 1) := by decide +kernel
theorem dX5_drop_26 : decode cX5_drop 26 = .ok (.getfield 7, 3) := by decide +kernel
theorem dX5_drop_29 : decode cX5_drop 29 = .ok (.iload_n 1, 1) := by decide +kernel
theorem dX5_drop_30 : decode cX5_drop 30 = .ok (.iconst (-1), 1) := by decide +kernel
theorem dX5_drop_31 : decode cX5_drop 31 = .ok (.iastore, 1) := by decide +kernel
theorem dX5_drop_32 : decode cX5_drop 32 = .ok (.aload_n 0, 1) := by decide +kernel
theorem dX5_drop_33 : decode cX5_drop 33 = .ok (.aload_n 0, 1) := by decide +kernel
theorem dX5_drop_34 : decode cX5_drop 34 = .ok (.getfield 13, 3) := by decide +kernel
theorem dX5_drop_37 : decode cX5_drop 37 = .ok (.iload_n 1, 1) := by decide +kernel
theorem dX5_drop_38 : decode cX5_drop 38 = .ok (.iaload, 1) := by decide +kernel
theorem dX5_drop_39 : decode cX5_drop 39 = .ok (.invokevirtual 68, 3) := by decide +kernel
theorem dX5_drop_42 : decode cX5_drop 42 = .ok (.ireturn, 1) := by decide +kernel
set_option maxRecDepth 20000 in
theorem ggX5_feed_X5_in : GoodIn wsX5_feed wsX5_in := goodIn_r _ [8] (by decide +kernel) (by decide +kernel)
set_option maxRecDepth 20000 in
theorem gX5_feed_X5_in : GoodIn wsX5_feed (va_wsS RX5 50 yX5_in wsX5_in) := goodIn_app (goodIn_of _ (by decide +kernel)) ggX5_feed_X5_in
theorem dX5_feed_0 : decode cX5_feed 0 = .ok (.iload_n 1, 1) := by decide +kernel
theorem dX5_feed_1 : decode cX5_feed 1 = .ok (.iconst 0, 1) := by decide +kernel
theorem dX5_feed_2 : decode cX5_feed 2 = .ok (.sipush 255, 3) := by decide +kernel
theorem dX5_feed_5 : decode cX5_feed 5 = .ok (.invokestatic 50, 3) := by decide +kernel
theorem dX5_feed_8 : decode cX5_feed 8 = .ok (.ifCond .ne 6, 3) := by decide +kernel
theorem dX5_feed_11 : decode cX5_feed 11 = .ok (.ldc 63, 2) := by decide +kernel
theorem dX5_feed_13 : decode cX5_feed 13 = .ok (.ireturn, 1) := by decide +kernel
theorem dX5_feed_14 : decode cX5_feed 14 = .ok (.aload_n 0, 1) := by decide +kernel
theorem dX5_feed_15 : decode cX5_feed 15 = .ok (.getfield 74, 3) := by decide +kernel
theorem dX5_feed_18 : decode cX5_feed 18 = .ok (.bipush 100, 2) := by decide +kernel
theorem dX5_feed_20 : decode cX5_feed 20 = .ok (.if_icmp .ne 6, 3) := by decide +kernel
theorem dX5_feed_23 : decode cX5_feed 23 = .ok (.ldc 77, 2) := by decide +kernel
theorem dX5_feed_25 : decode cX5_feed 25 = .ok (.ireturn, 1) := by decide +kernel
theorem dX5_feed_26 : decode cX5_feed 26 = .ok (.aload_n 0, 1) := by decide +kernel
theorem dX5_feed_27 : decode cX5_feed 27 = .ok (.getfield 19, 3) := by decide +kernel
theorem dX5_feed_30 : decode cX5_feed 30 = .ok (.aload_n 0, 1) := by decide +kernel
theorem dX5_feed_31 : decode cX5_feed 31 = .ok (.getfield 74, 3) := by decide +kernel
theorem dX5_feed_34 : decode cX5_feed 34 = .ok (.iload_n 1, 1) := by decide +kernel
theorem dX5_feed_35 : decode cX5_feed 35 = .ok (.iastore, 1) := by decide +kernel
theorem dX5_feed_36 : decode cX5_feed 36 = .ok (.aload_n 0, 1) := by decide +kernel
theorem dX5_feed_37 : decode cX5_feed 37 = .ok (.dup, 1) := by decide +kernel
theorem dX5_feed_38 : decode cX5_feed 38 = .ok (.getfield 74, 3) := by decide +kernel
theorem dX5_feed_41 : decode cX5_feed 41 = .ok (.iconst 1, 1) := by decide +kernel
theorem dX5_feed_42 : decode cX5_feed 42 = .ok (.iadd, 1) := by decide +kernel
theorem dX5_feed_43 : decode cX5_feed 43 = .ok (.putfield 74, 3) := by decide +kernel
theorem dX5_feed_46 : decode cX5_feed 46 = .ok (.aload_n 0, 1) := by decide +kernel
theorem dX5_feed_47 : decode cX5_feed 47 = .ok (.getfield 74, 3) := by decide +kernel
theorem dX5_feed_50 : decode cX5_feed 50 = .ok (.ireturn, 1) := by decide +kernel
set_option maxRecDepth 20000 in
theorem ggX5_nextToken_X5_in : GoodIn wsX5_nextToken wsX5_in := goodIn_r _ [10] (by decide +kernel) (by decide +kernel)
set_option maxRecDepth 20000 in
theorem gX5_nextToken_X5_in : GoodIn wsX5_nextToken (va_wsS RX5 50 yX5_in wsX5_in) := goodIn_app (goodIn_of _ (by decide +kernel)) ggX5_nextToken_X5_in
theorem dX5_nextToken_0 : decode cX5_nextToken 0 = .ok (.aload_n 0, 1) := by decide +kernel
theorem dX5_nextToken_1 : decode cX5_nextToken 1 = .ok (.aload_n 0, 1) := by decide +kernel
theorem dX5_nextToken_2 : decode cX5_nextToken 2 = .ok (.getfield 78, 3) := by decide +kernel
theorem dX5_nextToken_5 : decode cX5_nextToken 5 = .ok (.putfield 81, 3) := by decide +kernel
theorem dX5_nextToken_8 : decode cX5_nextToken 8 = .ok (.aload_n 0, 1) := by decide +kernel
theorem dX5_nextToken_9 : decode cX5_nextToken 9 = .ok (.iconst 0, 1) := by decide +kernel
theorem dX5_nextToken_10 : decode cX5_nextToken 10 = .ok (.putfield 84, 3) := by decide +kernel
theorem dX5_nextToken_13 : decode cX5_nextToken 13 = .ok (.aload_n 0, 1) := by decide +kernel
theorem dX5_nextToken_14 : decode cX5_nextToken 14 = .ok (.getfield 78, 3) := by decide +kernel
theorem dX5_nextToken_17 : decode cX5_nextToken 17 = .ok (.aload_n 0, 1) := by decide +kernel
theorem dX5_nextToken_18 : decode cX5_nextToken 18 = .ok (.getfield 74, 3) := by decide +kernel
theorem dX5_nextToken_21 : decode cX5_nextToken 21 = .ok (.if_icmp .ne 10, 3) := by decide +kernel
theorem dX5_nextToken_24 : decode cX5_nextToken 24 = .ok (.aload_n 0, 1) := by decide +kernel
theorem dX5_nextToken_25 : decode cX5_nextToken 25 = .ok (.bipush (-2), 2) := by decide +kernel
theorem dX5_nextToken_27 : decode cX5_nextToken 27 = .ok (.putfield 87, 3) := by decide +kernel
theorem dX5_nextToken_30 : decode cX5_nextToken 30 = .ok (.return_, 1) := by decide +kernel
theorem dX5_nextToken_31 : decode cX5_nextToken 31 = .ok (.aload_n 0, 1) := by decide +kernel
theorem dX5_nextToken_32 : decode cX5_nextToken 32 = .ok (.getfield 19, 3) := by decide +kernel
theorem dX5_nextToken_35 : decode cX5_nextToken 35 = .ok (.aload_n 0, 1) := by decide +kernel
theorem dX5_nextToken_36 : decode cX5_nextToken 36 = .ok (.getfield 78, 3) := by decide +kernel
theorem dX5_nextToken_39 : decode cX5_nextToken 39 = .ok (.iaload, 1) := by decide +kernel
theorem dX5_nextToken_40 : decode cX5_nextToken 40 = .ok (.istore_n 1, 1) := by decide +kernel
theorem dX5_nextToken_41 : decode cX5_nextToken 41 = .ok (.iload_n 1, 1) := by decide +kernel
theorem dX5_nextToken_42 : decode cX5_nextToken 42 = .ok (.bipush 48, 2) := by decide +kernel
theorem dX5_nextToken_44 : decode cX5_nextToken 44 = .ok (.bipush 57, 2) := by decide +kernel
theorem dX5_nextToken_46 : decode cX5_nextToken 46 = .ok (.invokestatic 50, 3) := by decide +kernel
theorem dX5_nextToken_49 : decode cX5_nextToken 49 = .ok (.ifCond .eq 114, 3) := by decide +kernel
theorem dX5_nextToken_52 : decode cX5_nextToken 52 = .ok (.aload_n 0, 1) := by decide +kernel
theorem dX5_nextToken_53 : decode cX5_nextToken 53 = .ok (.getfield 78, 3) := by decide +kernel
theorem dX5_nextToken_56 : decode cX5_nextToken 56 = .ok (.aload_n 0, 1) := by decide +kernel
theorem dX5_nextToken_57 : decode cX5_nextToken 57 = .ok (.getfield 74, 3) := by decide +kernel
theorem dX5_nextToken_60 : decode cX5_nextToken 60 = .ok (.if_icmp .ge 79, 3) := by decide +kernel
theorem dX5_nextToken_63 : decode cX5_nextToken 63 = .ok (.aload_n 0, 1) := by decide +kernel
theorem dX5_nextToken_64 : decode cX5_nextToken 64 = .ok (.getfield 19, 3) := by decide +kernel
theorem dX5_nextToken_67 : decode cX5_nextToken 67 = .ok (.aload_n 0, 1) := by decide +kernel
theorem dX5_nextToken_68 : decode cX5_nextToken 68 = .ok (.getfield 78, 3) := by decide +kernel
theorem dX5_nextToken_71 : decode cX5_nextToken 71 = .ok (.iaload, 1) := by decide +kernel
theorem dX5_nextToken_72 : decode cX5_nextToken 72 = .ok (.bipush 48, 2) := by decide +kernel
theorem dX5_nextToken_74 : decode cX5_nextToken 74 = .ok (.bipush 57, 2) := by decide +kernel
theorem dX5_nextToken_76 : decode cX5_nextToken 76 = .ok (.invokestatic 50, 3) := by decide +kernel
theorem dX5_nextToken_79 : decode cX5_nextToken 79 = .ok (.ifCond .eq 60, 3) := by decide +kernel
theorem dX5_nextToken_82 : decode cX5_nextToken 82 = .ok (.aload_n 0, 1) := by decide +kernel
theorem dX5_nextToken_83 : decode cX5_nextToken 83 = .ok (.aload_n 0, 1) := by decide +kernel
theorem dX5_nextToken_84 : decode cX5_nextToken 84 = .ok (.getfield 78, 3) := by decide +kernel
theorem dX5_nextToken_87 : decode cX5_nextToken 87 = .ok (.aload_n 0, 1) := by decide +kernel
theorem dX5_nextToken_88 : decode cX5_nextToken 88 = .ok (.getfield 81, 3) := by decide +kernel
theorem dX5_nextToken_91 : decode cX5_nextToken 91 = .ok (.isub, 1) := by decide +kernel
theorem dX5_nextToken_92 : decode cX5_nextToken 92 = .ok (.iconst 2, 1) := by decide +kernel
theorem dX5_nextToken_93 : decode cX5_nextToken 93 = .ok (.if_icmp .ge 26, 3) := by decide +kernel
theorem dX5_nextToken_96 : decode cX5_nextToken 96 = .ok (.bipush 10, 2) := by decide +kernel
theorem dX5_nextToken_98 : decode cX5_nextToken 98 = .ok (.aload_n 0, 1) := by decide +kernel
theorem dX5_nextToken_99 : decode cX5_nextToken 99 = .ok (.getfield 84, 3) := by decide +kernel
theorem dX5_nextToken_102 : decode cX5_nextToken 102 = .ok (.imul, 1) := by decide +kernel
theorem dX5_nextToken_103 : decode cX5_nextToken 103 = .ok (.aload_n 0, 1) := by decide +kernel
theorem dX5_nextToken_104 : decode cX5_nextToken 104 = .ok (.getfield 19, 3) := by decide +kernel
theorem dX5_nextToken_107 : decode cX5_nextToken 107 = .ok (.aload_n 0, 1) := by decide +kernel
theorem dX5_nextToken_108 : decode cX5_nextToken 108 = .ok (.getfield 78, 3) := by decide +kernel
theorem dX5_nextToken_111 : decode cX5_nextToken 111 = .ok (.iaload, 1) := by decide +kernel
theorem dX5_nextToken_112 : decode cX5_nextToken 112 = .ok (.iadd, 1) := by decide +kernel
theorem dX5_nextToken_113 : decode cX5_nextToken 113 = .ok (.bipush 48, 2) := by decide +kernel
theorem dX5_nextToken_115 : decode cX5_nextToken 115 = .ok (.isub, 1) := by decide +kernel
theorem dX5_nextToken_116 : decode cX5_nextToken 116 = .ok (.goto 7, 3) := by decide +kernel
theorem dX5_nextToken_119 : decode cX5_nextToken 119 = .ok (.aload_n 0, 1) := by decide +kernel
theorem dX5_nextToken_120 : decode cX5_nextToken 120 = .ok (.getfield 84, 3) := by decide +kernel
theorem dX5_nextToken_123 : decode cX5_nextToken 123 = .ok (.putfield 84, 3) := by decide +kernel
theorem dX5_nextToken_126 : decode cX5_nextToken 126 = .ok (.aload_n 0, 1) := by decide +kernel
theorem dX5_nextToken_127 : decode cX5_nextToken 127 = .ok (.dup, 1) := by decide +kernel
theorem dX5_nextToken_128 : decode cX5_nextToken 128 = .ok (.getfield 78, 3) := by decide +kernel
theorem dX5_nextToken_131 : decode cX5_nextToken 131 = .ok (.iconst 1, 1) := by decide +kernel
theorem dX5_nextToken_132 : decode cX5_nextToken 132 = .ok (.iadd, 1) := by decide +kernel
theorem dX5_nextToken_133 : decode cX5_nextToken 133 = .ok (.putfield 78, 3) := by decide +kernel
theorem dX5_nextToken_136 : decode cX5_nextToken 136 = .ok (.goto (-84), 3) := by decide +kernel
theorem dX5_nextToken_139 : decode cX5_nextToken 139 = .ok (.aload_n 0, 1) := by decide +kernel
theorem dX5_nextToken_140 : decode cX5_nextToken 140 = .ok (.aload_n 0, 1) := by decide +kernel
theorem dX5_nextToken_141 : decode cX5_nextToken 141 = .ok (.getfield 78, 3) := by decide +kernel
theorem dX5_nextToken_144 : decode cX5_nextToken 144 = .ok (.aload_n 0, 1) := by decide +kernel
theorem dX5_nextToken_145 : decode cX5_nextToken 145 = .ok (.getfield 81, 3) := by decide +kernel
theorem dX5_nextToken_148 : decode cX5_nextToken 148 = .ok (.isub, 1) := by decide +kernel
theorem dX5_nextToken_149 : decode cX5_nextToken 149 = .ok (.iconst 2, 1) := by decide +kernel
theorem dX5_nextToken_150 : decode cX5_nextToken 150 = .ok (.if_icmp .le 8, 3) := by decide +kernel
theorem dX5_nextToken_153 : decode cX5_nextToken 153 = .ok (.bipush (-3), 2) := by decide +kernel
theorem dX5_nextToken_155 : decode cX5_nextToken 155 = .ok (.goto 4, 3) := by decide +kernel
theorem dX5_nextToken_158 : decode cX5_nextToken 158 = .ok (.iconst (-1), 1) := by decide +kernel
theorem dX5_nextToken_159 : decode cX5_nextToken 159 = .ok (.putfield 87, 3) := by decide +kernel
theorem dX5_nextToken_162 : decode cX5_nextToken 162 = .ok (.return_, 1) := by decide +kernel
theorem dX5_nextToken_163 : decode cX5_nextToken 163 = .ok (.aload_n 0, 1) := by decide +kernel
theorem dX5_nextToken_164 : decode cX5_nextToken 164 = .ok (.iload_n 1, 1) := by decide +kernel
theorem dX5_nextToken_165 : decode cX5_nextToken 165 = .ok (.bipush 97, 2) := by decide +kernel
theorem dX5_nextToken_167 : decode cX5_nextToken 167 = .ok (.bipush 122, 2) := by decide +kernel
theorem dX5_nextToken_169 : decode cX5_nextToken 169 = .ok (.invokestatic 50, 3) := by decide +kernel
theorem dX5_nextToken_172 : decode cX5_nextToken 172 = .ok (.ifCond .ne 15, 3) := by decide +kernel
theorem dX5_nextToken_175 : decode cX5_nextToken 175 = .ok (.iload_n 1, 1) := by decide +kernel
theorem dX5_nextToken_176 : decode cX5_nextToken 176 = .ok (.bipush 44, 2) := by decide +kernel
theorem dX5_nextToken_178 : decode cX5_nextToken 178 = .ok (.if_icmp .eq 9, 3) := by decide +kernel
theorem dX5_nextToken_181 : decode cX5_nextToken 181 = .ok (.iload_n 1, 1) := by decide +kernel
theorem dX5_nextToken_182 : decode cX5_nextToken 182 = .ok (.bipush 59, 2) := by decide +kernel
theorem dX5_nextToken_184 : decode cX5_nextToken 184 = .ok (.if_icmp .ne 7, 3) := by decide +kernel
theorem dX5_nextToken_187 : decode cX5_nextToken 187 = .ok (.iload_n 1, 1) := by decide +kernel
theorem dX5_nextToken_188 : decode cX5_nextToken 188 = .ok (.goto 5, 3) := by decide +kernel
theorem dX5_nextToken_191 : decode cX5_nextToken 191 = .ok (.bipush (-3), 2) := by decide +kernel
theorem dX5_nextToken_193 : decode cX5_nextToken 193 = .ok (.putfield 87, 3) := by decide +kernel
theorem dX5_nextToken_196 : decode cX5_nextToken 196 = .ok (.aload_n 0, 1) := by decide +kernel
theorem dX5_nextToken_197 : decode cX5_nextToken 197 = .ok (.dup, 1) := by decide +kernel
theorem dX5_nextToken_198 : decode cX5_nextToken 198 = .ok (.getfield 78, 3) := by decide +kernel
theorem dX5_nextToken_201 : decode cX5_nextToken 201 = .ok (.iconst 1, 1) := by decide +kernel
theorem dX5_nextToken_202 : decode cX5_nextToken 202 = .ok (.iadd, 1) := by decide +kernel
theorem dX5_nextToken_203 : decode cX5_nextToken 203 = .ok (.putfield 78, 3) := by decide +kernel
theorem dX5_nextToken_206 : decode cX5_nextToken 206 = .ok (.return_, 1) := by decide +kernel
theorem dX5_fails_0 : decode cX5_fails 0 = .ok (.aload_n 0, 1) := by decide +kernel
theorem dX5_fails_1 : decode cX5_fails 1 = .ok (.iload_n 1, 1) := by decide +kernel
theorem dX5_fails_2 : decode cX5_fails 2 = .ok (.putfield 90, 3) := by decide +kernel
theorem dX5_fails_5 : decode cX5_fails 5 = .ok (.iconst 0, 1) := by decide +kernel
theorem dX5_fails_6 : decode cX5_fails 6 = .ok (.ireturn, 1) := by decide +kernel
set_option maxRecDepth 20000 in
theorem ggX5_isSign_X5_nextToken : GoodIn wsX5_isSign wsX5_nextToken := goodIn_r _ [6, 7, 8, 9, 10, 1, 11, 12, 13, 5, 14, 20, 21, 22, 23, 24, 25, 26, 27, 28, 29, 30, 31, 32, 33, 34, 35, 36, 37, 38, 39, 40, 41, 42] (by decide +kernel) (by decide +kernel)
set_option maxRecDepth 20000 in
theorem gX5_isSign_X5_nextToken : GoodIn wsX5_isSign (wsV RX5 93 RX5 yX5_nextToken wsX5_nextToken) := goodIn_app (goodIn_of _ (by decide +kernel)) ggX5_isSign_X5_nextToken
set_option maxRecDepth 20000 in
theorem ggX5_isSign_X5_fails : GoodIn wsX5_isSign wsX5_fails := goodIn_r _ [18, 19, 20, 21, 22, 23, 24, 25, 26, 27, 28, 29, 30, 31, 32, 33, 34, 35, 36, 37, 38, 39, 40, 41, 42] (by decide +kernel) (by decide +kernel)
set_option maxRecDepth 20000 in
theorem gX5_isSign_X5_fails : GoodIn wsX5_isSign (wsV RX5 96 RX5 yX5_fails wsX5_fails) := goodIn_app (goodIn_of _ (by decide +kernel)) ggX5_isSign_X5_fails
theorem dX5_isSign_0 : decode cX5_isSign 0 = .ok (.aload_n 0, 1) := by decide +kernel
theorem dX5_isSign_1 : decode cX5_isSign 1 = .ok (.invokevirtual 93, 3) := by decide +kernel
theorem dX5_isSign_4 : decode cX5_isSign 4 = .ok (.aload_n 0, 1) := by decide +kernel
theorem dX5_isSign_5 : decode cX5_isSign 5 = .ok (.getfield 87, 3) := by decide +kernel
theorem dX5_isSign_8 : decode cX5_isSign 8 = .ok (.iload_n 1, 1) := by decide +kernel
theorem dX5_isSign_9 : decode cX5_isSign 9 = .ok (.if_icmp .eq 11, 3) := by decide +kernel
theorem dX5_isSign_12 : decode cX5_isSign 12 = .ok (.aload_n 0, 1) := by decide +kernel
theorem dX5_isSign_13 : decode cX5_isSign 13 = .ok (.iconst 1, 1) := by decide +kernel
theorem dX5_isSign_14 : decode cX5_isSign 14 = .ok (.invokevirtual 96, 3) := by decide +kernel
theorem dX5_isSign_17 : decode cX5_isSign 17 = .ok (.ifCond .eq 7, 3) := by decide +kernel
theorem dX5_isSign_20 : decode cX5_isSign 20 = .ok (.iconst 1, 1) := by decide +kernel
theorem dX5_isSign_21 : decode cX5_isSign 21 = .ok (.goto 4, 3) := by decide +kernel
theorem dX5_isSign_24 : decode cX5_isSign 24 = .ok (.iconst 0, 1) := by decide +kernel
theorem dX5_isSign_25 : decode cX5_isSign 25 = .ok (.ireturn, 1) := by decide +kernel
set_option maxRecDepth 20000 in
theorem ggX5_isNumber_X5_nextToken : GoodIn wsX5_isNumber wsX5_nextToken := goodIn_r _ [7, 8, 9, 2, 10, 1, 11, 12, 13, 6, 14, 20, 21, 22, 23, 24, 25, 26, 27, 28, 29, 30, 31, 32, 33, 34, 35, 36, 37, 38, 39, 40, 41, 42] (by decide +kernel) (by decide +kernel)
set_option maxRecDepth 20000 in
theorem gX5_isNumber_X5_nextToken : GoodIn wsX5_isNumber (wsV RX5 93 RX5 yX5_nextToken wsX5_nextToken) := goodIn_app (goodIn_of _ (by decide +kernel)) ggX5_isNumber_X5_nextToken
set_option maxRecDepth 20000 in
theorem ggX5_isNumber_X5_fails : GoodIn wsX5_isNumber wsX5_fails := goodIn_r _ [18, 19, 20, 21, 22, 23, 24, 25, 26, 27, 28, 29, 30, 31, 32, 33, 34, 35, 36, 37, 38, 39, 40, 41, 42] (by decide +kernel) (by decide +kernel)
set_option maxRecDepth 20000 in
theorem gX5_isNumber_X5_fails : GoodIn wsX5_isNumber (wsV RX5 96 RX5 yX5_fails wsX5_fails) := goodIn_app (goodIn_of _ (by decide +kernel)) ggX5_isNumber_X5_fails
set_option maxRecDepth 20000 in
theorem ggX5_isNumber_X5_in : GoodIn wsX5_isNumber wsX5_in := goodIn_r _ [14] (by decide +kernel) (by decide +kernel)
set_option maxRecDepth 20000 in
theorem gX5_isNumber_X5_in : GoodIn wsX5_isNumber (va_wsS RX5 50 yX5_in wsX5_in) := goodIn_app (goodIn_of _ (by decide +kernel)) ggX5_isNumber_X5_in
theorem dX5_isNumber_0 : decode cX5_isNumber 0 = .ok (.aload_n 0, 1) := by decide +kernel
theorem dX5_isNumber_1 : decode cX5_isNumber 1 = .ok (.invokevirtual 93, 3) := by decide +kernel
theorem dX5_isNumber_4 : decode cX5_isNumber 4 = .ok (.aload_n 0, 1) := by decide +kernel
theorem dX5_isNumber_5 : decode cX5_isNumber 5 = .ok (.getfield 87, 3) := by decide +kernel
theorem dX5_isNumber_8 : decode cX5_isNumber 8 = .ok (.iconst (-1), 1) := by decide +kernel
theorem dX5_isNumber_9 : decode cX5_isNumber 9 = .ok (.if_icmp .eq 9, 3) := by decide +kernel
theorem dX5_isNumber_12 : decode cX5_isNumber 12 = .ok (.aload_n 0, 1) := by decide +kernel
theorem dX5_isNumber_13 : decode cX5_isNumber 13 = .ok (.iconst 1, 1) := by decide +kernel
theorem dX5_isNumber_14 : decode cX5_isNumber 14 = .ok (.invokevirtual 96, 3) := by decide +kernel
theorem dX5_isNumber_17 : decode cX5_isNumber 17 = .ok (.ireturn, 1) := by decide +kernel
theorem dX5_isNumber_18 : decode cX5_isNumber 18 = .ok (.aload_n 0, 1) := by decide +kernel
theorem dX5_isNumber_19 : decode cX5_isNumber 19 = .ok (.getfield 84, 3) := by decide +kernel
theorem dX5_isNumber_22 : decode cX5_isNumber 22 = .ok (.iload_n 1, 1) := by decide +kernel
theorem dX5_isNumber_23 : decode cX5_isNumber 23 = .ok (.iload_n 2, 1) := by decide +kernel
theorem dX5_isNumber_24 : decode cX5_isNumber 24 = .ok (.invokestatic 50, 3) := by decide +kernel
theorem dX5_isNumber_27 : decode cX5_isNumber 27 = .ok (.ifCond .ne 11, 3) := by decide +kernel
theorem dX5_isNumber_30 : decode cX5_isNumber 30 = .ok (.aload_n 0, 1) := by decide +kernel
theorem dX5_isNumber_31 : decode cX5_isNumber 31 = .ok (.iconst 2, 1) := by decide +kernel
theorem dX5_isNumber_32 : decode cX5_isNumber 32 = .ok (.invokevirtual 96, 3) := by decide +kernel
theorem dX5_isNumber_35 : decode cX5_isNumber 35 = .ok (.ifCond .eq 7, 3) := by decide +kernel
theorem dX5_isNumber_38 : decode cX5_isNumber 38 = .ok (.iconst 1, 1) := by decide +kernel
theorem dX5_isNumber_39 : decode cX5_isNumber 39 = .ok (.goto 4, 3) := by decide +kernel
theorem dX5_isNumber_42 : decode cX5_isNumber 42 = .ok (.iconst 0, 1) := by decide +kernel
theorem dX5_isNumber_43 : decode cX5_isNumber 43 = .ok (.ireturn, 1) := by decide +kernel
theorem dX5_sortBy_0 : decode cX5_sortBy 0 = .ok (.iload_n 0, 1) := by decide +kernel
theorem dX5_sortBy_1 : decode cX5_sortBy 1 = .ok (.bipush 111, 2) := by decide +kernel
theorem dX5_sortBy_3 : decode cX5_sortBy 3 = .ok (.if_icmp .ne 7, 3) := by decide +kernel
theorem dX5_sortBy_6 : decode cX5_sortBy 6 = .ok (.iconst 1, 1) := by decide +kernel
theorem dX5_sortBy_7 : decode cX5_sortBy 7 = .ok (.goto 44, 3) := by decide +kernel
theorem dX5_sortBy_10 : decode cX5_sortBy 10 = .ok (.iload_n 0, 1) := by decide +kernel
theorem dX5_sortBy_11 : decode cX5_sortBy 11 = .ok (.bipush 109, 2) := by decide +kernel
theorem dX5_sortBy_13 : decode cX5_sortBy 13 = .ok (.if_icmp .ne 7, 3) := by decide +kernel
theorem dX5_sortBy_16 : decode cX5_sortBy 16 = .ok (.iconst 2, 1) := by decide +kernel
theorem dX5_sortBy_17 : decode cX5_sortBy 17 = .ok (.goto 34, 3) := by decide +kernel
theorem dX5_sortBy_20 : decode cX5_sortBy 20 = .ok (.iload_n 0, 1) := by decide +kernel
theorem dX5_sortBy_21 : decode cX5_sortBy 21 = .ok (.bipush 108, 2) := by decide +kernel
theorem dX5_sortBy_23 : decode cX5_sortBy 23 = .ok (.if_icmp .ne 7, 3) := by decide +kernel
theorem dX5_sortBy_26 : decode cX5_sortBy 26 = .ok (.iconst 3, 1) := by decide +kernel
theorem dX5_sortBy_27 : decode cX5_sortBy 27 = .ok (.goto 24, 3) := by decide +kernel
theorem dX5_sortBy_30 : decode cX5_sortBy 30 = .ok (.iload_n 0, 1) := by decide +kernel
theorem dX5_sortBy_31 : decode cX5_sortBy 31 = .ok (.bipush 102, 2) := by decide +kernel
theorem dX5_sortBy_33 : decode cX5_sortBy 33 = .ok (.if_icmp .ne 7, 3) := by decide +kernel
theorem dX5_sortBy_36 : decode cX5_sortBy 36 = .ok (.iconst 4, 1) := by decide +kernel
theorem dX5_sortBy_37 : decode cX5_sortBy 37 = .ok (.goto 14, 3) := by decide +kernel
theorem dX5_sortBy_40 : decode cX5_sortBy 40 = .ok (.iload_n 0, 1) := by decide +kernel
theorem dX5_sortBy_41 : decode cX5_sortBy 41 = .ok (.bipush 118, 2) := by decide +kernel
theorem dX5_sortBy_43 : decode cX5_sortBy 43 = .ok (.if_icmp .ne 7, 3) := by decide +kernel
theorem dX5_sortBy_46 : decode cX5_sortBy 46 = .ok (.iconst 5, 1) := by decide +kernel
theorem dX5_sortBy_47 : decode cX5_sortBy 47 = .ok (.goto 4, 3) := by decide +kernel
theorem dX5_sortBy_50 : decode cX5_sortBy 50 = .ok (.iconst 0, 1) := by decide +kernel
theorem dX5_sortBy_51 : decode cX5_sortBy 51 = .ok (.ireturn, 1) := by decide +kernel
set_option maxRecDepth 20000 in
theorem ggX5_isLaw_X5_isSign : GoodIn wsX5_isLaw wsX5_isSign := goodIn_r _ [7, 8, 9, 10, 11, 6, 12, 13, 14, 2, 15, 16, 17, 18, 19, 20, 21, 22, 23, 24, 29, 30, 31, 32, 33, 34, 35, 36, 37, 38, 39, 40, 41, 42, 43, 44, 45, 46, 47, 48, 49, 50, 51] (by decide +kernel) (by decide +kernel)
set_option maxRecDepth 20000 in
theorem gX5_isLaw_X5_isSign : GoodIn wsX5_isLaw (wsV RX5 99 RX5 yX5_isSign wsX5_isSign) := goodIn_app (goodIn_of _ (by decide +kernel)) ggX5_isLaw_X5_isSign
set_option maxRecDepth 20000 in
theorem ggX5_isLaw_X5_isNumber : GoodIn wsX5_isLaw wsX5_isNumber := goodIn_r _ [28, 8, 2, 9, 10, 11, 6, 12, 13, 14, 15, 16, 17, 18, 19, 20, 21, 22, 23, 24, 29, 30, 31, 32, 33, 34, 35, 36, 37, 38, 39, 40, 41, 42, 43, 44, 45, 46, 47, 48, 49, 50, 51] (by decide +kernel) (by decide +kernel)
set_option maxRecDepth 20000 in
theorem gX5_isLaw_X5_isNumber : GoodIn wsX5_isLaw (wsV RX5 102 RX5 yX5_isNumber wsX5_isNumber) := goodIn_app (goodIn_of _ (by decide +kernel)) ggX5_isLaw_X5_isNumber
theorem dX5_isLaw_0 : decode cX5_isLaw 0 = .ok (.aload_n 0, 1) := by decide +kernel
theorem dX5_isLaw_1 : decode cX5_isLaw 1 = .ok (.bipush 99, 2) := by decide +kernel
theorem dX5_isLaw_3 : decode cX5_isLaw 3 = .ok (.invokevirtual 99, 3) := by decide +kernel
theorem dX5_isLaw_6 : decode cX5_isLaw 6 = .ok (.ifCond .eq 13, 3) := by decide +kernel
theorem dX5_isLaw_9 : decode cX5_isLaw 9 = .ok (.aload_n 0, 1) := by decide +kernel
theorem dX5_isLaw_10 : decode cX5_isLaw 10 = .ok (.iconst 0, 1) := by decide +kernel
theorem dX5_isLaw_11 : decode cX5_isLaw 11 = .ok (.bipush 9, 2) := by decide +kernel
theorem dX5_isLaw_13 : decode cX5_isLaw 13 = .ok (.invokevirtual 102, 3) := by decide +kernel
theorem dX5_isLaw_16 : decode cX5_isLaw 16 = .ok (.ifCond .ne 5, 3) := by decide +kernel
theorem dX5_isLaw_19 : decode cX5_isLaw 19 = .ok (.iconst 0, 1) := by decide +kernel
theorem dX5_isLaw_20 : decode cX5_isLaw 20 = .ok (.ireturn, 1) := by decide +kernel
theorem dX5_isLaw_21 : decode cX5_isLaw 21 = .ok (.aload_n 0, 1) := by decide +kernel
theorem dX5_isLaw_22 : decode cX5_isLaw 22 = .ok (.getfield 25, 3) := by decide +kernel
theorem dX5_isLaw_25 : decode cX5_isLaw 25 = .ok (.iconst 0, 1) := by decide +kernel
theorem dX5_isLaw_26 : decode cX5_isLaw 26 = .ok (.aload_n 0, 1) := by decide +kernel
theorem dX5_isLaw_27 : decode cX5_isLaw 27 = .ok (.getfield 84, 3) := by decide +kernel
theorem dX5_isLaw_30 : decode cX5_isLaw 30 = .ok (.iastore, 1) := by decide +kernel
theorem dX5_isLaw_31 : decode cX5_isLaw 31 = .ok (.aload_n 0, 1) := by decide +kernel
theorem dX5_isLaw_32 : decode cX5_isLaw 32 = .ok (.bipush 44, 2) := by decide +kernel
theorem dX5_isLaw_34 : decode cX5_isLaw 34 = .ok (.invokevirtual 99, 3) := by decide +kernel
theorem dX5_isLaw_37 : decode cX5_isLaw 37 = .ok (.ifCond .eq 13, 3) := by decide +kernel
theorem dX5_isLaw_40 : decode cX5_isLaw 40 = .ok (.aload_n 0, 1) := by decide +kernel
theorem dX5_isLaw_41 : decode cX5_isLaw 41 = .ok (.iconst 0, 1) := by decide +kernel
theorem dX5_isLaw_42 : decode cX5_isLaw 42 = .ok (.bipush 9, 2) := by decide +kernel
theorem dX5_isLaw_44 : decode cX5_isLaw 44 = .ok (.invokevirtual 102, 3) := by decide +kernel
theorem dX5_isLaw_47 : decode cX5_isLaw 47 = .ok (.ifCond .ne 5, 3) := by decide +kernel
theorem dX5_isLaw_50 : decode cX5_isLaw 50 = .ok (.iconst 0, 1) := by decide +kernel
theorem dX5_isLaw_51 : decode cX5_isLaw 51 = .ok (.ireturn, 1) := by decide +kernel
theorem dX5_isLaw_52 : decode cX5_isLaw 52 = .ok (.aload_n 0, 1) := by decide +kernel
theorem dX5_isLaw_53 : decode cX5_isLaw 53 = .ok (.getfield 25, 3) := by decide +kernel
theorem dX5_isLaw_56 : decode cX5_isLaw 56 = .ok (.iconst 1, 1) := by decide +kernel
theorem dX5_isLaw_57 : decode cX5_isLaw 57 = .ok (.aload_n 0, 1) := by decide +kernel
theorem dX5_isLaw_58 : decode cX5_isLaw 58 = .ok (.getfield 84, 3) := by decide +kernel
theorem dX5_isLaw_61 : decode cX5_isLaw 61 = .ok (.iastore, 1) := by decide +kernel
theorem dX5_isLaw_62 : decode cX5_isLaw 62 = .ok (.aload_n 0, 1) := by decide +kernel
theorem dX5_isLaw_63 : decode cX5_isLaw 63 = .ok (.bipush 59, 2) := by decide +kernel
theorem dX5_isLaw_65 : decode cX5_isLaw 65 = .ok (.invokevirtual 99, 3) := by decide +kernel
theorem dX5_isLaw_68 : decode cX5_isLaw 68 = .ok (.ireturn, 1) := by decide +kernel
set_option maxRecDepth 20000 in
theorem ggX5_isOath_X5_sortBy : GoodIn wsX5_isOath wsX5_sortBy := goodIn_r _ [7] (by decide +kernel) (by decide +kernel)
set_option maxRecDepth 20000 in
theorem gX5_isOath_X5_sortBy : GoodIn wsX5_isOath (va_wsS RX5 106 yX5_sortBy wsX5_sortBy) := goodIn_app (goodIn_of _ (by decide +kernel)) ggX5_isOath_X5_sortBy
set_option maxRecDepth 20000 in
theorem ggX5_isOath_X5_fails : GoodIn wsX5_isOath wsX5_fails := goodIn_r _ [11, 12, 32, 33, 34, 35, 36, 37, 38, 39, 40, 41, 42, 43, 44, 45, 46, 47, 48, 49, 50, 51, 52, 53, 54] (by decide +kernel) (by decide +kernel)
set_option maxRecDepth 20000 in
theorem gX5_isOath_X5_fails : GoodIn wsX5_isOath (wsV RX5 96 RX5 yX5_fails wsX5_fails) := goodIn_app (goodIn_of _ (by decide +kernel)) ggX5_isOath_X5_fails
set_option maxRecDepth 20000 in
theorem ggX5_isOath_X5_isNumber : GoodIn wsX5_isOath wsX5_isNumber := goodIn_r _ [16, 1, 3, 17, 18, 19, 6, 20, 21, 22, 23, 24, 25, 26, 27, 8, 9, 10, 11, 12, 32, 33, 34, 35, 36, 37, 38, 39, 40, 41, 42, 43, 44, 45, 46, 47, 48, 49, 50, 51, 52, 53, 54] (by decide +kernel) (by decide +kernel)
set_option maxRecDepth 20000 in
theorem gX5_isOath_X5_isNumber : GoodIn wsX5_isOath (wsV RX5 102 RX5 yX5_isNumber wsX5_isNumber) := goodIn_app (goodIn_of _ (by decide +kernel)) ggX5_isOath_X5_isNumber
set_option maxRecDepth 20000 in
theorem ggX5_isOath_X5_isSign : GoodIn wsX5_isOath wsX5_isSign := goodIn_r _ [31, 1, 17, 18, 19, 6, 20, 21, 22, 3, 23, 24, 25, 26, 27, 8, 9, 10, 11, 12, 32, 33, 34, 35, 36, 37, 38, 39, 40, 41, 42, 43, 44, 45, 46, 47, 48, 49, 50, 51, 52, 53, 54] (by decide +kernel) (by decide +kernel)
set_option maxRecDepth 20000 in
theorem gX5_isOath_X5_isSign : GoodIn wsX5_isOath (wsV RX5 99 RX5 yX5_isSign wsX5_isSign) := goodIn_app (goodIn_of _ (by decide +kernel)) ggX5_isOath_X5_isSign
theorem dX5_isOath_0 : decode cX5_isOath 0 = .ok (.aload_n 0, 1) := by decide +kernel
theorem dX5_isOath_1 : decode cX5_isOath 1 = .ok (.getfield 87, 3) := by decide +kernel
theorem dX5_isOath_4 : decode cX5_isOath 4 = .ok (.ifCond .le 13, 3) := by decide +kernel
theorem dX5_isOath_7 : decode cX5_isOath 7 = .ok (.aload_n 0, 1) := by decide +kernel
theorem dX5_isOath_8 : decode cX5_isOath 8 = .ok (.getfield 87, 3) := by decide +kernel
theorem dX5_isOath_11 : decode cX5_isOath 11 = .ok (.invokestatic 106, 3) := by decide +kernel
theorem dX5_isOath_14 : decode cX5_isOath 14 = .ok (.goto 4, 3) := by decide +kernel
theorem dX5_isOath_17 : decode cX5_isOath 17 = .ok (.iconst 0, 1) := by decide +kernel
theorem dX5_isOath_18 : decode cX5_isOath 18 = .ok (.istore_n 1, 1) := by decide +kernel
theorem dX5_isOath_19 : decode cX5_isOath 19 = .ok (.iload_n 1, 1) := by decide +kernel
theorem dX5_isOath_20 : decode cX5_isOath 20 = .ok (.ifCond .ne 9, 3) := by decide +kernel
theorem dX5_isOath_23 : decode cX5_isOath 23 = .ok (.aload_n 0, 1) := by decide +kernel
theorem dX5_isOath_24 : decode cX5_isOath 24 = .ok (.iconst 1, 1) := by decide +kernel
theorem dX5_isOath_25 : decode cX5_isOath 25 = .ok (.invokevirtual 96, 3) := by decide +kernel
theorem dX5_isOath_28 : decode cX5_isOath 28 = .ok (.ireturn, 1) := by decide +kernel
theorem dX5_isOath_29 : decode cX5_isOath 29 = .ok (.aload_n 0, 1) := by decide +kernel
theorem dX5_isOath_30 : decode cX5_isOath 30 = .ok (.getfield 25, 3) := by decide +kernel
theorem dX5_isOath_33 : decode cX5_isOath 33 = .ok (.iconst 2, 1) := by decide +kernel
theorem dX5_isOath_34 : decode cX5_isOath 34 = .ok (.iaload, 1) := by decide +kernel
theorem dX5_isOath_35 : decode cX5_isOath 35 = .ok (.istore_n 2, 1) := by decide +kernel
theorem dX5_isOath_36 : decode cX5_isOath 36 = .ok (.iload_n 2, 1) := by decide +kernel
theorem dX5_isOath_37 : decode cX5_isOath 37 = .ok (.bipush 7, 2) := by decide +kernel
theorem dX5_isOath_39 : decode cX5_isOath 39 = .ok (.if_icmp .ne 9, 3) := by decide +kernel
theorem dX5_isOath_42 : decode cX5_isOath 42 = .ok (.aload_n 0, 1) := by decide +kernel
theorem dX5_isOath_43 : decode cX5_isOath 43 = .ok (.iconst 3, 1) := by decide +kernel
theorem dX5_isOath_44 : decode cX5_isOath 44 = .ok (.invokevirtual 96, 3) := by decide +kernel
theorem dX5_isOath_47 : decode cX5_isOath 47 = .ok (.ireturn, 1) := by decide +kernel
theorem dX5_isOath_48 : decode cX5_isOath 48 = .ok (.aload_n 0, 1) := by decide +kernel
theorem dX5_isOath_49 : decode cX5_isOath 49 = .ok (.getfield 25, 3) := by decide +kernel
theorem dX5_isOath_52 : decode cX5_isOath 52 = .ok (.bipush 7, 2) := by decide +kernel
theorem dX5_isOath_54 : decode cX5_isOath 54 = .ok (.iload_n 2, 1) := by decide +kernel
theorem dX5_isOath_55 : decode cX5_isOath 55 = .ok (.iadd, 1) := by decide +kernel
theorem dX5_isOath_56 : decode cX5_isOath 56 = .ok (.iload_n 1, 1) := by decide +kernel
theorem dX5_isOath_57 : decode cX5_isOath 57 = .ok (.iastore, 1) := by decide +kernel
theorem dX5_isOath_58 : decode cX5_isOath 58 = .ok (.iconst 0, 1) := by decide +kernel
theorem dX5_isOath_59 : decode cX5_isOath 59 = .ok (.istore_n 3, 1) := by decide +kernel
theorem dX5_isOath_60 : decode cX5_isOath 60 = .ok (.iload_n 3, 1) := by decide +kernel
theorem dX5_isOath_61 : decode cX5_isOath 61 = .ok (.iconst 3, 1) := by decide +kernel
theorem dX5_isOath_62 : decode cX5_isOath 62 = .ok (.if_icmp .ge 87, 3) := by decide +kernel
theorem dX5_isOath_65 : decode cX5_isOath 65 = .ok (.aload_n 0, 1) := by decide +kernel
theorem dX5_isOath_66 : decode cX5_isOath 66 = .ok (.iload_n 3, 1) := by decide +kernel
theorem dX5_isOath_67 : decode cX5_isOath 67 = .ok (.ifCond .ne 7, 3) := by decide +kernel
theorem dX5_isOath_70 : decode cX5_isOath 70 = .ok (.iconst 0, 1) := by decide +kernel
theorem dX5_isOath_71 : decode cX5_isOath 71 = .ok (.goto 4, 3) := by decide +kernel
theorem dX5_isOath_74 : decode cX5_isOath 74 = .ok (.iconst 1, 1) := by decide +kernel
theorem dX5_isOath_75 : decode cX5_isOath 75 = .ok (.iload_n 3, 1) := by decide +kernel
theorem dX5_isOath_76 : decode cX5_isOath 76 = .ok (.ifCond .ne 8, 3) := by decide +kernel
theorem dX5_isOath_79 : decode cX5_isOath 79 = .ok (.bipush 9, 2) := by decide +kernel
theorem dX5_isOath_81 : decode cX5_isOath 81 = .ok (.goto 15, 3) := by decide +kernel
theorem dX5_isOath_84 : decode cX5_isOath 84 = .ok (.iload_n 3, 1) := by decide +kernel
theorem dX5_isOath_85 : decode cX5_isOath 85 = .ok (.iconst 1, 1) := by decide +kernel
theorem dX5_isOath_86 : decode cX5_isOath 86 = .ok (.if_icmp .ne 8, 3) := by decide +kernel
theorem dX5_isOath_89 : decode cX5_isOath 89 = .ok (.bipush 20, 2) := by decide +kernel
theorem dX5_isOath_91 : decode cX5_isOath 91 = .ok (.goto 5, 3) := by decide +kernel
theorem dX5_isOath_94 : decode cX5_isOath 94 = .ok (.bipush 60, 2) := by decide +kernel
theorem dX5_isOath_96 : decode cX5_isOath 96 = .ok (.invokevirtual 102, 3) := by decide +kernel
theorem dX5_isOath_99 : decode cX5_isOath 99 = .ok (.ifCond .ne 5, 3) := by decide +kernel
theorem dX5_isOath_102 : decode cX5_isOath 102 = .ok (.iconst 0, 1) := by decide +kernel
theorem dX5_isOath_103 : decode cX5_isOath 103 = .ok (.ireturn, 1) := by decide +kernel
theorem dX5_isOath_104 : decode cX5_isOath 104 = .ok (.aload_n 0, 1) := by decide +kernel
theorem dX5_isOath_105 : decode cX5_isOath 105 = .ok (.getfield 25, 3) := by decide +kernel
theorem dX5_isOath_108 : decode cX5_isOath 108 = .ok (.bipush 14, 2) := by decide +kernel
theorem dX5_isOath_110 : decode cX5_isOath 110 = .ok (.bipush 7, 2) := by decide +kernel
theorem dX5_isOath_112 : decode cX5_isOath 112 = .ok (.iload_n 3, 1) := by decide +kernel
theorem dX5_isOath_113 : decode cX5_isOath 113 = .ok (.imul, 1) := by decide +kernel
theorem dX5_isOath_114 : decode cX5_isOath 114 = .ok (.iadd, 1) := by decide +kernel
theorem dX5_isOath_115 : decode cX5_isOath 115 = .ok (.iload_n 2, 1) := by decide +kernel
theorem dX5_isOath_116 : decode cX5_isOath 116 = .ok (.iadd, 1) := by decide +kernel
theorem dX5_isOath_117 : decode cX5_isOath 117 = .ok (.aload_n 0, 1) := by decide +kernel
theorem dX5_isOath_118 : decode cX5_isOath 118 = .ok (.getfield 84, 3) := by decide +kernel
theorem dX5_isOath_121 : decode cX5_isOath 121 = .ok (.iastore, 1) := by decide +kernel
theorem dX5_isOath_122 : decode cX5_isOath 122 = .ok (.aload_n 0, 1) := by decide +kernel
theorem dX5_isOath_123 : decode cX5_isOath 123 = .ok (.iload_n 3, 1) := by decide +kernel
theorem dX5_isOath_124 : decode cX5_isOath 124 = .ok (.iconst 2, 1) := by decide +kernel
theorem dX5_isOath_125 : decode cX5_isOath 125 = .ok (.if_icmp .ne 8, 3) := by decide +kernel
theorem dX5_isOath_128 : decode cX5_isOath 128 = .ok (.bipush 59, 2) := by decide +kernel
theorem dX5_isOath_130 : decode cX5_isOath 130 = .ok (.goto 5, 3) := by decide +kernel
theorem dX5_isOath_133 : decode cX5_isOath 133 = .ok (.bipush 44, 2) := by decide +kernel
theorem dX5_isOath_135 : decode cX5_isOath 135 = .ok (.invokevirtual 99, 3) := by decide +kernel
theorem dX5_isOath_138 : decode cX5_isOath 138 = .ok (.ifCond .ne 5, 3) := by decide +kernel
theorem dX5_isOath_141 : decode cX5_isOath 141 = .ok (.iconst 0, 1) := by decide +kernel
theorem dX5_isOath_142 : decode cX5_isOath 142 = .ok (.ireturn, 1) := by decide +kernel
theorem dX5_isOath_143 : decode cX5_isOath 143 = .ok (.iinc 3 1, 3) := by decide +kernel
theorem dX5_isOath_146 : decode cX5_isOath 146 = .ok (.goto (-86), 3) := by decide +kernel
theorem dX5_isOath_149 : decode cX5_isOath 149 = .ok (.aload_n 0, 1) := by decide +kernel
theorem dX5_isOath_150 : decode cX5_isOath 150 = .ok (.getfield 25, 3) := by decide +kernel
theorem dX5_isOath_153 : decode cX5_isOath 153 = .ok (.iconst 2, 1) := by decide +kernel
theorem dX5_isOath_154 : decode cX5_isOath 154 = .ok (.dup2, 1) := by decide +kernel
theorem dX5_isOath_155 : decode cX5_isOath 155 = .ok (.iaload, 1) := by decide +kernel
theorem dX5_isOath_156 : decode cX5_isOath 156 = .ok (.iconst 1, 1) := by decide +kernel
theorem dX5_isOath_157 : decode cX5_isOath 157 = .ok (.iadd, 1) := by decide +kernel
theorem dX5_isOath_158 : decode cX5_isOath 158 = .ok (.iastore, 1) := by decide +kernel
theorem dX5_isOath_159 : decode cX5_isOath 159 = .ok (.iconst 1, 1) := by decide +kernel
theorem dX5_isOath_160 : decode cX5_isOath 160 = .ok (.ireturn, 1) := by decide +kernel
set_option maxRecDepth 20000 in
theorem ggX5_isRead_X5_isLaw : GoodIn wsX5_isRead wsX5_isLaw := goodIn_r _ [8, 1, 9, 10, 11, 12, 7, 13, 3, 14, 15, 16, 17, 2, 18, 19, 20, 21, 22, 23, 24, 25, 26, 27, 28, 29, 30, 31, 32, 40, 41, 42, 43, 44, 45, 46, 47, 48, 49, 50, 51, 52, 53, 54, 55, 56, 57, 58, 59, 60, 61, 62] (by decide +kernel) (by decide +kernel)
set_option maxRecDepth 20000 in
theorem gX5_isRead_X5_isLaw : GoodIn wsX5_isRead (wsV RX5 109 RX5 yX5_isLaw wsX5_isLaw) := goodIn_app (goodIn_of _ (by decide +kernel)) ggX5_isRead_X5_isLaw
set_option maxRecDepth 20000 in
theorem ggX5_isRead_X5_nextToken : GoodIn wsX5_isRead wsX5_nextToken := goodIn_r _ [17, 2, 18, 9, 19, 3, 20, 21, 22, 7, 23, 40, 41, 42, 43, 44, 45, 46, 47, 48, 49, 50, 51, 52, 53, 54, 55, 56, 57, 58, 59, 60, 61, 62] (by decide +kernel) (by decide +kernel)
set_option maxRecDepth 20000 in
theorem gX5_isRead_X5_nextToken : GoodIn wsX5_isRead (wsV RX5 93 RX5 yX5_nextToken wsX5_nextToken) := goodIn_app (goodIn_of _ (by decide +kernel)) ggX5_isRead_X5_nextToken
set_option maxRecDepth 20000 in
theorem ggX5_isRead_X5_isOath : GoodIn wsX5_isRead wsX5_isOath := goodIn_r _ [36, 3, 1, 9, 37, 38, 7, 39, 24, 25, 26, 27, 28, 29, 30, 31, 32, 14, 15, 16, 17, 2, 18, 19, 20, 21, 22, 23, 10, 11, 12, 13, 40, 41, 42, 43, 44, 45, 46, 47, 48, 49, 50, 51, 52, 53, 54, 55, 56, 57, 58, 59, 60, 61, 62] (by decide +kernel) (by decide +kernel)
set_option maxRecDepth 20000 in
theorem gX5_isRead_X5_isOath : GoodIn wsX5_isRead (wsV RX5 113 RX5 yX5_isOath wsX5_isOath) := goodIn_app (goodIn_of _ (by decide +kernel)) ggX5_isRead_X5_isOath
theorem dX5_isRead_0 : decode cX5_isRead 0 = .ok (.iconst 0, 1) := by decide +kernel
theorem dX5_isRead_1 : decode cX5_isRead 1 = .ok (.istore_n 1, 1) := by decide +kernel
theorem dX5_isRead_2 : decode cX5_isRead 2 = .ok (.iload_n 1, 1) := by decide +kernel
theorem dX5_isRead_3 : decode cX5_isRead 3 = .ok (.bipush 42, 2) := by decide +kernel
theorem dX5_isRead_5 : decode cX5_isRead 5 = .ok (.if_icmp .ge 16, 3) := by decide +kernel
theorem dX5_isRead_8 : decode cX5_isRead 8 = .ok (.aload_n 0, 1) := by decide +kernel
theorem dX5_isRead_9 : decode cX5_isRead 9 = .ok (.getfield 25, 3) := by decide +kernel
theorem dX5_isRead_12 : decode cX5_isRead 12 = .ok (.iload_n 1, 1) := by decide +kernel
theorem dX5_isRead_13 : decode cX5_isRead 13 = .ok (.iconst 0, 1) := by decide +kernel
theorem dX5_isRead_14 : decode cX5_isRead 14 = .ok (.iastore, 1) := by decide +kernel
theorem dX5_isRead_15 : decode cX5_isRead 15 = .ok (.iinc 1 1, 3) := by decide +kernel
theorem dX5_isRead_18 : decode cX5_isRead 18 = .ok (.goto (-16), 3) := by decide +kernel
theorem dX5_isRead_21 : decode cX5_isRead 21 = .ok (.aload_n 0, 1) := by decide +kernel
theorem dX5_isRead_22 : decode cX5_isRead 22 = .ok (.iconst 0, 1) := by decide +kernel
theorem dX5_isRead_23 : decode cX5_isRead 23 = .ok (.putfield 78, 3) := by decide +kernel
theorem dX5_isRead_26 : decode cX5_isRead 26 = .ok (.aload_n 0, 1) := by decide +kernel
theorem dX5_isRead_27 : decode cX5_isRead 27 = .ok (.invokevirtual 109, 3) := by decide +kernel
theorem dX5_isRead_30 : decode cX5_isRead 30 = .ok (.ifCond .ne 5, 3) := by decide +kernel
theorem dX5_isRead_33 : decode cX5_isRead 33 = .ok (.iconst 0, 1) := by decide +kernel
theorem dX5_isRead_34 : decode cX5_isRead 34 = .ok (.ireturn, 1) := by decide +kernel
theorem dX5_isRead_35 : decode cX5_isRead 35 = .ok (.aload_n 0, 1) := by decide +kernel
theorem dX5_isRead_36 : decode cX5_isRead 36 = .ok (.invokevirtual 93, 3) := by decide +kernel
theorem dX5_isRead_39 : decode cX5_isRead 39 = .ok (.aload_n 0, 1) := by decide +kernel
theorem dX5_isRead_40 : decode cX5_isRead 40 = .ok (.getfield 87, 3) := by decide +kernel
theorem dX5_isRead_43 : decode cX5_isRead 43 = .ok (.bipush (-2), 2) := by decide +kernel
theorem dX5_isRead_45 : decode cX5_isRead 45 = .ok (.if_icmp .ne 12, 3) := by decide +kernel
theorem dX5_isRead_48 : decode cX5_isRead 48 = .ok (.aload_n 0, 1) := by decide +kernel
theorem dX5_isRead_49 : decode cX5_isRead 49 = .ok (.getfield 25, 3) := by decide +kernel
theorem dX5_isRead_52 : decode cX5_isRead 52 = .ok (.iconst 2, 1) := by decide +kernel
theorem dX5_isRead_53 : decode cX5_isRead 53 = .ok (.iaload, 1) := by decide +kernel
theorem dX5_isRead_54 : decode cX5_isRead 54 = .ok (.ifCond .ne 19, 3) := by decide +kernel
theorem dX5_isRead_57 : decode cX5_isRead 57 = .ok (.aload_n 0, 1) := by decide +kernel
theorem dX5_isRead_58 : decode cX5_isRead 58 = .ok (.invokevirtual 113, 3) := by decide +kernel
theorem dX5_isRead_61 : decode cX5_isRead 61 = .ok (.ifCond .ne 5, 3) := by decide +kernel
theorem dX5_isRead_64 : decode cX5_isRead 64 = .ok (.iconst 0, 1) := by decide +kernel
theorem dX5_isRead_65 : decode cX5_isRead 65 = .ok (.ireturn, 1) := by decide +kernel
theorem dX5_isRead_66 : decode cX5_isRead 66 = .ok (.aload_n 0, 1) := by decide +kernel
theorem dX5_isRead_67 : decode cX5_isRead 67 = .ok (.invokevirtual 93, 3) := by decide +kernel
theorem dX5_isRead_70 : decode cX5_isRead 70 = .ok (.goto (-31), 3) := by decide +kernel
theorem dX5_isRead_73 : decode cX5_isRead 73 = .ok (.iconst 1, 1) := by decide +kernel
theorem dX5_isRead_74 : decode cX5_isRead 74 = .ok (.ireturn, 1) := by decide +kernel
set_option maxRecDepth 20000 in
theorem ggX5_route_X5_isRead : GoodIn wsX5_route wsX5_isRead := goodIn_r _ [13, 6, 14, 15, 16, 17, 18, 12, 19, 20, 21, 22, 23, 24, 25, 26, 27, 28, 5, 1, 29, 30, 31, 32, 33, 34, 35, 36, 2, 37, 38, 39, 40, 41, 42, 43, 44, 45, 46, 47, 51, 52, 53, 54, 55, 56, 57, 58, 59, 60, 61, 62, 63, 64, 65, 66, 67, 68, 69, 70, 71, 72, 73] (by decide +kernel) (by decide +kernel)
set_option maxRecDepth 20000 in
theorem gX5_route_X5_isRead : GoodIn wsX5_route (wsV RX5 116 RX5 yX5_isRead wsX5_isRead) := goodIn_app (goodIn_of _ (by decide +kernel)) ggX5_route_X5_isRead
set_option maxRecDepth 20000 in
theorem ggX5_route_X5_lay : GoodIn wsX5_route wsX5_lay := goodIn_r _ [50] (by decide +kernel) (by decide +kernel)
set_option maxRecDepth 20000 in
theorem gX5_route_X5_lay : GoodIn wsX5_route (va_wsS RX5 123 yX5_lay wsX5_lay) := goodIn_app (goodIn_of _ (by decide +kernel)) ggX5_route_X5_lay
theorem dX5_route_0 : decode cX5_route 0 = .ok (.aload_n 0, 1) := by decide +kernel
theorem dX5_route_1 : decode cX5_route 1 = .ok (.invokevirtual 116, 3) := by decide +kernel
theorem dX5_route_4 : decode cX5_route 4 = .ok (.istore_n 1, 1) := by decide +kernel
theorem dX5_route_5 : decode cX5_route 5 = .ok (.aload_n 0, 1) := by decide +kernel
theorem dX5_route_6 : decode cX5_route 6 = .ok (.iconst 0, 1) := by decide +kernel
theorem dX5_route_7 : decode cX5_route 7 = .ok (.putfield 74, 3) := by decide +kernel
theorem dX5_route_10 : decode cX5_route 10 = .ok (.iload_n 1, 1) := by decide +kernel
theorem dX5_route_11 : decode cX5_route 11 = .ok (.ifCond .ne 19, 3) := by decide +kernel
theorem dX5_route_14 : decode cX5_route 14 = .ok (.aload_n 0, 1) := by decide +kernel
theorem dX5_route_15 : decode cX5_route 15 = .ok (.aload_n 0, 1) := by decide +kernel
theorem dX5_route_16 : decode cX5_route 16 = .ok (.getfield 90, 3) := by decide +kernel
theorem dX5_route_19 : decode cX5_route 19 = .ok (.putfield 119, 3) := by decide +kernel
theorem dX5_route_22 : decode cX5_route 22 = .ok (.ldc 122, 2) := by decide +kernel
theorem dX5_route_24 : decode cX5_route 24 = .ok (.aload_n 0, 1) := by decide +kernel
theorem dX5_route_25 : decode cX5_route 25 = .ok (.getfield 81, 3) := by decide +kernel
theorem dX5_route_28 : decode cX5_route 28 = .ok (.isub, 1) := by decide +kernel
theorem dX5_route_29 : decode cX5_route 29 = .ok (.ireturn, 1) := by decide +kernel
theorem dX5_route_30 : decode cX5_route 30 = .ok (.aload_n 0, 1) := by decide +kernel
theorem dX5_route_31 : decode cX5_route 31 = .ok (.getfield 25, 3) := by decide +kernel
theorem dX5_route_34 : decode cX5_route 34 = .ok (.iconst 0, 1) := by decide +kernel
theorem dX5_route_35 : decode cX5_route 35 = .ok (.aload_n 0, 1) := by decide +kernel
theorem dX5_route_36 : decode cX5_route 36 = .ok (.getfield 22, 3) := by decide +kernel
theorem dX5_route_39 : decode cX5_route 39 = .ok (.iconst 0, 1) := by decide +kernel
theorem dX5_route_40 : decode cX5_route 40 = .ok (.invokestatic 123, 3) := by decide +kernel
theorem dX5_route_43 : decode cX5_route 43 = .ok (.aload_n 0, 1) := by decide +kernel
theorem dX5_route_44 : decode cX5_route 44 = .ok (.iconst 0, 1) := by decide +kernel
theorem dX5_route_45 : decode cX5_route 45 = .ok (.putfield 127, 3) := by decide +kernel
theorem dX5_route_48 : decode cX5_route 48 = .ok (.aload_n 0, 1) := by decide +kernel
theorem dX5_route_49 : decode cX5_route 49 = .ok (.getfield 22, 3) := by decide +kernel
theorem dX5_route_52 : decode cX5_route 52 = .ok (.iconst 2, 1) := by decide +kernel
theorem dX5_route_53 : decode cX5_route 53 = .ok (.iaload, 1) := by decide +kernel
theorem dX5_route_54 : decode cX5_route 54 = .ok (.ireturn, 1) := by decide +kernel
theorem dX5_fault_0 : decode cX5_fault 0 = .ok (.aload_n 0, 1) := by decide +kernel
theorem dX5_fault_1 : decode cX5_fault 1 = .ok (.getfield 119, 3) := by decide +kernel
theorem dX5_fault_4 : decode cX5_fault 4 = .ok (.ireturn, 1) := by decide +kernel
set_option maxRecDepth 20000 in
theorem ggX5_note_X5_lay : GoodIn wsX5_note wsX5_lay := goodIn_r _ [7] (by decide +kernel) (by decide +kernel)
set_option maxRecDepth 20000 in
theorem gX5_note_X5_lay : GoodIn wsX5_note (va_wsS RX5 123 yX5_lay wsX5_lay) := goodIn_app (goodIn_of _ (by decide +kernel)) ggX5_note_X5_lay
theorem dX5_note_0 : decode cX5_note 0 = .ok (.aload_n 0, 1) := by decide +kernel
theorem dX5_note_1 : decode cX5_note 1 = .ok (.getfield 127, 3) := by decide +kernel
theorem dX5_note_4 : decode cX5_note 4 = .ok (.bipush 24, 2) := by decide +kernel
theorem dX5_note_6 : decode cX5_note 6 = .ok (.if_icmp .ne 43, 3) := by decide +kernel
theorem dX5_note_9 : decode cX5_note 9 = .ok (.iconst 0, 1) := by decide +kernel
theorem dX5_note_10 : decode cX5_note 10 = .ok (.istore_n 1, 1) := by decide +kernel
theorem dX5_note_11 : decode cX5_note 11 = .ok (.iload_n 1, 1) := by decide +kernel
theorem dX5_note_12 : decode cX5_note 12 = .ok (.sipush 966, 3) := by decide +kernel
theorem dX5_note_15 : decode cX5_note 15 = .ok (.if_icmp .ge 24, 3) := by decide +kernel
theorem dX5_note_18 : decode cX5_note 18 = .ok (.aload_n 0, 1) := by decide +kernel
theorem dX5_note_19 : decode cX5_note 19 = .ok (.getfield 38, 3) := by decide +kernel
theorem dX5_note_22 : decode cX5_note 22 = .ok (.iload_n 1, 1) := by decide +kernel
theorem dX5_note_23 : decode cX5_note 23 = .ok (.aload_n 0, 1) := by decide +kernel
theorem dX5_note_24 : decode cX5_note 24 = .ok (.getfield 38, 3) := by decide +kernel
theorem dX5_note_27 : decode cX5_note 27 = .ok (.iload_n 1, 1) := by decide +kernel
theorem dX5_note_28 : decode cX5_note 28 = .ok (.bipush 42, 2) := by decide +kernel
theorem dX5_note_30 : decode cX5_note 30 = .ok (.iadd, 1) := by decide +kernel
theorem dX5_note_31 : decode cX5_note 31 = .ok (.iaload, 1) := by decide +kernel
theorem dX5_note_32 : decode cX5_note 32 = .ok (.iastore, 1) := by decide +kernel
theorem dX5_note_33 : decode cX5_note 33 = .ok (.iinc 1 1, 3) := by decide +kernel
theorem dX5_note_36 : decode cX5_note 36 = .ok (.goto (-25), 3) := by decide +kernel
theorem dX5_note_39 : decode cX5_note 39 = .ok (.aload_n 0, 1) := by decide +kernel
theorem dX5_note_40 : decode cX5_note 40 = .ok (.dup, 1) := by decide +kernel
theorem dX5_note_41 : decode cX5_note 41 = .ok (.getfield 127, 3) := by decide +kernel
theorem dX5_note_44 : decode cX5_note 44 = .ok (.iconst 1, 1) := by decide +kernel
theorem dX5_note_45 : decode cX5_note 45 = .ok (.isub, 1) := by decide +kernel
theorem dX5_note_46 : decode cX5_note 46 = .ok (.putfield 127, 3) := by decide +kernel
theorem dX5_note_49 : decode cX5_note 49 = .ok (.aload_n 0, 1) := by decide +kernel
theorem dX5_note_50 : decode cX5_note 50 = .ok (.getfield 22, 3) := by decide +kernel
theorem dX5_note_53 : decode cX5_note 53 = .ok (.iconst 0, 1) := by decide +kernel
theorem dX5_note_54 : decode cX5_note 54 = .ok (.aload_n 0, 1) := by decide +kernel
theorem dX5_note_55 : decode cX5_note 55 = .ok (.getfield 38, 3) := by decide +kernel
theorem dX5_note_58 : decode cX5_note 58 = .ok (.bipush 42, 2) := by decide +kernel
theorem dX5_note_60 : decode cX5_note 60 = .ok (.aload_n 0, 1) := by decide +kernel
theorem dX5_note_61 : decode cX5_note 61 = .ok (.getfield 127, 3) := by decide +kernel
theorem dX5_note_64 : decode cX5_note 64 = .ok (.imul, 1) := by decide +kernel
theorem dX5_note_65 : decode cX5_note 65 = .ok (.invokestatic 123, 3) := by decide +kernel
theorem dX5_note_68 : decode cX5_note 68 = .ok (.aload_n 0, 1) := by decide +kernel
theorem dX5_note_69 : decode cX5_note 69 = .ok (.dup, 1) := by decide +kernel
theorem dX5_note_70 : decode cX5_note 70 = .ok (.getfield 127, 3) := by decide +kernel
theorem dX5_note_73 : decode cX5_note 73 = .ok (.iconst 1, 1) := by decide +kernel
theorem dX5_note_74 : decode cX5_note 74 = .ok (.iadd, 1) := by decide +kernel
theorem dX5_note_75 : decode cX5_note 75 = .ok (.putfield 127, 3) := by decide +kernel
theorem dX5_note_78 : decode cX5_note 78 = .ok (.return_, 1) := by decide +kernel
set_option maxRecDepth 20000 in
theorem ggX5_undo_X5_lay : GoodIn wsX5_undo wsX5_lay := goodIn_r _ [8] (by decide +kernel) (by decide +kernel)
set_option maxRecDepth 20000 in
theorem gX5_undo_X5_lay : GoodIn wsX5_undo (va_wsS RX5 123 yX5_lay wsX5_lay) := goodIn_app (goodIn_of _ (by decide +kernel)) ggX5_undo_X5_lay
theorem dX5_undo_0 : decode cX5_undo 0 = .ok (.aload_n 0, 1) := by decide +kernel
theorem dX5_undo_1 : decode cX5_undo 1 = .ok (.getfield 127, 3) := by decide +kernel
theorem dX5_undo_4 : decode cX5_undo 4 = .ok (.ifCond .ne 6, 3) := by decide +kernel
theorem dX5_undo_7 : decode cX5_undo 7 = .ok (.ldc 130, 2) := by decide +kernel
theorem dX5_undo_9 : decode cX5_undo 9 = .ok (.ireturn, 1) := by decide +kernel
theorem dX5_undo_10 : decode cX5_undo 10 = .ok (.aload_n 0, 1) := by decide +kernel
theorem dX5_undo_11 : decode cX5_undo 11 = .ok (.dup, 1) := by decide +kernel
theorem dX5_undo_12 : decode cX5_undo 12 = .ok (.getfield 127, 3) := by decide +kernel
theorem dX5_undo_15 : decode cX5_undo 15 = .ok (.iconst 1, 1) := by decide +kernel
theorem dX5_undo_16 : decode cX5_undo 16 = .ok (.isub, 1) := by decide +kernel
theorem dX5_undo_17 : decode cX5_undo 17 = .ok (.putfield 127, 3) := by decide +kernel
theorem dX5_undo_20 : decode cX5_undo 20 = .ok (.aload_n 0, 1) := by decide +kernel
theorem dX5_undo_21 : decode cX5_undo 21 = .ok (.getfield 38, 3) := by decide +kernel
theorem dX5_undo_24 : decode cX5_undo 24 = .ok (.bipush 42, 2) := by decide +kernel
theorem dX5_undo_26 : decode cX5_undo 26 = .ok (.aload_n 0, 1) := by decide +kernel
theorem dX5_undo_27 : decode cX5_undo 27 = .ok (.getfield 127, 3) := by decide +kernel
theorem dX5_undo_30 : decode cX5_undo 30 = .ok (.imul, 1) := by decide +kernel
theorem dX5_undo_31 : decode cX5_undo 31 = .ok (.aload_n 0, 1) := by decide +kernel
theorem dX5_undo_32 : decode cX5_undo 32 = .ok (.getfield 22, 3) := by decide +kernel
theorem dX5_undo_35 : decode cX5_undo 35 = .ok (.iconst 0, 1) := by decide +kernel
theorem dX5_undo_36 : decode cX5_undo 36 = .ok (.invokestatic 123, 3) := by decide +kernel
theorem dX5_undo_39 : decode cX5_undo 39 = .ok (.aload_n 0, 1) := by decide +kernel
theorem dX5_undo_40 : decode cX5_undo 40 = .ok (.getfield 127, 3) := by decide +kernel
theorem dX5_undo_43 : decode cX5_undo 43 = .ok (.ireturn, 1) := by decide +kernel
set_option maxRecDepth 20000 in
theorem ggX5_pullOf_X5_has : GoodIn wsX5_pullOf wsX5_has := goodIn_r _ [4] (by decide +kernel) (by decide +kernel)
set_option maxRecDepth 20000 in
theorem gX5_pullOf_X5_has : GoodIn wsX5_pullOf (va_wsS RX5 131 yX5_has wsX5_has) := goodIn_app (goodIn_of _ (by decide +kernel)) ggX5_pullOf_X5_has
theorem dX5_pullOf_0 : decode cX5_pullOf 0 = .ok (.aload_n 0, 1) := by decide +kernel
theorem dX5_pullOf_1 : decode cX5_pullOf 1 = .ok (.bipush 21, 2) := by decide +kernel
theorem dX5_pullOf_3 : decode cX5_pullOf 3 = .ok (.iload_n 1, 1) := by decide +kernel
theorem dX5_pullOf_4 : decode cX5_pullOf 4 = .ok (.iadd, 1) := by decide +kernel
theorem dX5_pullOf_5 : decode cX5_pullOf 5 = .ok (.iaload, 1) := by decide +kernel
theorem dX5_pullOf_6 : decode cX5_pullOf 6 = .ok (.istore_n 2, 1) := by decide +kernel
theorem dX5_pullOf_7 : decode cX5_pullOf 7 = .ok (.aload_n 0, 1) := by decide +kernel
theorem dX5_pullOf_8 : decode cX5_pullOf 8 = .ok (.iconst 3, 1) := by decide +kernel
theorem dX5_pullOf_9 : decode cX5_pullOf 9 = .ok (.iaload, 1) := by decide +kernel
theorem dX5_pullOf_10 : decode cX5_pullOf 10 = .ok (.aload_n 0, 1) := by decide +kernel
theorem dX5_pullOf_11 : decode cX5_pullOf 11 = .ok (.bipush 28, 2) := by decide +kernel
theorem dX5_pullOf_13 : decode cX5_pullOf 13 = .ok (.iload_n 1, 1) := by decide +kernel
theorem dX5_pullOf_14 : decode cX5_pullOf 14 = .ok (.iadd, 1) := by decide +kernel
theorem dX5_pullOf_15 : decode cX5_pullOf 15 = .ok (.iaload, 1) := by decide +kernel
theorem dX5_pullOf_16 : decode cX5_pullOf 16 = .ok (.if_icmp .lt 8, 3) := by decide +kernel
theorem dX5_pullOf_19 : decode cX5_pullOf 19 = .ok (.bipush 10, 2) := by decide +kernel
theorem dX5_pullOf_21 : decode cX5_pullOf 21 = .ok (.goto 4, 3) := by decide +kernel
theorem dX5_pullOf_24 : decode cX5_pullOf 24 = .ok (.iconst 0, 1) := by decide +kernel
theorem dX5_pullOf_25 : decode cX5_pullOf 25 = .ok (.istore_n 3, 1) := by decide +kernel
theorem dX5_pullOf_26 : decode cX5_pullOf 26 = .ok (.aload_n 0, 1) := by decide +kernel
theorem dX5_pullOf_27 : decode cX5_pullOf 27 = .ok (.bipush 35, 2) := by decide +kernel
theorem dX5_pullOf_29 : decode cX5_pullOf 29 = .ok (.iload_n 1, 1) := by decide +kernel
theorem dX5_pullOf_30 : decode cX5_pullOf 30 = .ok (.iadd, 1) := by decide +kernel
theorem dX5_pullOf_31 : decode cX5_pullOf 31 = .ok (.iaload, 1) := by decide +kernel
theorem dX5_pullOf_32 : decode cX5_pullOf 32 = .ok (.ifCond .ne 18, 3) := by decide +kernel
theorem dX5_pullOf_35 : decode cX5_pullOf 35 = .ok (.aload_n 0, 1) := by decide +kernel
theorem dX5_pullOf_36 : decode cX5_pullOf 36 = .ok (.iconst 4, 1) := by decide +kernel
theorem dX5_pullOf_37 : decode cX5_pullOf 37 = .ok (.iaload, 1) := by decide +kernel
theorem dX5_pullOf_38 : decode cX5_pullOf 38 = .ok (.aload_n 0, 1) := by decide +kernel
theorem dX5_pullOf_39 : decode cX5_pullOf 39 = .ok (.bipush 14, 2) := by decide +kernel
theorem dX5_pullOf_41 : decode cX5_pullOf 41 = .ok (.iload_n 1, 1) := by decide +kernel
theorem dX5_pullOf_42 : decode cX5_pullOf 42 = .ok (.iadd, 1) := by decide +kernel
theorem dX5_pullOf_43 : decode cX5_pullOf 43 = .ok (.iaload, 1) := by decide +kernel
theorem dX5_pullOf_44 : decode cX5_pullOf 44 = .ok (.invokestatic 131, 3) := by decide +kernel
theorem dX5_pullOf_47 : decode cX5_pullOf 47 = .ok (.ifCond .eq 5, 3) := by decide +kernel
theorem dX5_pullOf_50 : decode cX5_pullOf 50 = .ok (.iconst 0, 1) := by decide +kernel
theorem dX5_pullOf_51 : decode cX5_pullOf 51 = .ok (.ireturn, 1) := by decide +kernel
theorem dX5_pullOf_52 : decode cX5_pullOf 52 = .ok (.aload_n 0, 1) := by decide +kernel
theorem dX5_pullOf_53 : decode cX5_pullOf 53 = .ok (.bipush 7, 2) := by decide +kernel
theorem dX5_pullOf_55 : decode cX5_pullOf 55 = .ok (.iload_n 1, 1) := by decide +kernel
theorem dX5_pullOf_56 : decode cX5_pullOf 56 = .ok (.iadd, 1) := by decide +kernel
theorem dX5_pullOf_57 : decode cX5_pullOf 57 = .ok (.iaload, 1) := by decide +kernel
theorem dX5_pullOf_58 : decode cX5_pullOf 58 = .ok (.tableswitch 50 1 4 #[30, 34, 40, 46], 30) := by decide +kernel
theorem dX5_pullOf_88 : decode cX5_pullOf 88 = .ok (.iload_n 2, 1) := by decide +kernel
theorem dX5_pullOf_89 : decode cX5_pullOf 89 = .ok (.iload_n 3, 1) := by decide +kernel
theorem dX5_pullOf_90 : decode cX5_pullOf 90 = .ok (.iadd, 1) := by decide +kernel
theorem dX5_pullOf_91 : decode cX5_pullOf 91 = .ok (.ireturn, 1) := by decide +kernel
theorem dX5_pullOf_92 : decode cX5_pullOf 92 = .ok (.iconst 3, 1) := by decide +kernel
theorem dX5_pullOf_93 : decode cX5_pullOf 93 = .ok (.iload_n 2, 1) := by decide +kernel
theorem dX5_pullOf_94 : decode cX5_pullOf 94 = .ok (.imul, 1) := by decide +kernel
theorem dX5_pullOf_95 : decode cX5_pullOf 95 = .ok (.iload_n 3, 1) := by decide +kernel
theorem dX5_pullOf_96 : decode cX5_pullOf 96 = .ok (.iadd, 1) := by decide +kernel
theorem dX5_pullOf_97 : decode cX5_pullOf 97 = .ok (.ireturn, 1) := by decide +kernel
theorem dX5_pullOf_98 : decode cX5_pullOf 98 = .ok (.iload_n 2, 1) := by decide +kernel
theorem dX5_pullOf_99 : decode cX5_pullOf 99 = .ok (.iconst 2, 1) := by decide +kernel
theorem dX5_pullOf_100 : decode cX5_pullOf 100 = .ok (.idiv, 1) := by decide +kernel
theorem dX5_pullOf_101 : decode cX5_pullOf 101 = .ok (.iload_n 3, 1) := by decide +kernel
theorem dX5_pullOf_102 : decode cX5_pullOf 102 = .ok (.iadd, 1) := by decide +kernel
theorem dX5_pullOf_103 : decode cX5_pullOf 103 = .ok (.ireturn, 1) := by decide +kernel
theorem dX5_pullOf_104 : decode cX5_pullOf 104 = .ok (.iload_n 2, 1) := by decide +kernel
theorem dX5_pullOf_105 : decode cX5_pullOf 105 = .ok (.iconst 5, 1) := by decide +kernel
theorem dX5_pullOf_106 : decode cX5_pullOf 106 = .ok (.iadd, 1) := by decide +kernel
theorem dX5_pullOf_107 : decode cX5_pullOf 107 = .ok (.ireturn, 1) := by decide +kernel
theorem dX5_pullOf_108 : decode cX5_pullOf 108 = .ok (.aload_n 0, 1) := by decide +kernel
theorem dX5_pullOf_109 : decode cX5_pullOf 109 = .ok (.iconst 3, 1) := by decide +kernel
theorem dX5_pullOf_110 : decode cX5_pullOf 110 = .ok (.iaload, 1) := by decide +kernel
theorem dX5_pullOf_111 : decode cX5_pullOf 111 = .ok (.iconst 2, 1) := by decide +kernel
theorem dX5_pullOf_112 : decode cX5_pullOf 112 = .ok (.irem, 1) := by decide +kernel
theorem dX5_pullOf_113 : decode cX5_pullOf 113 = .ok (.ifCond .ne 9, 3) := by decide +kernel
theorem dX5_pullOf_116 : decode cX5_pullOf 116 = .ok (.iload_n 2, 1) := by decide +kernel
theorem dX5_pullOf_117 : decode cX5_pullOf 117 = .ok (.iconst 5, 1) := by decide +kernel
theorem dX5_pullOf_118 : decode cX5_pullOf 118 = .ok (.iadd, 1) := by decide +kernel
theorem dX5_pullOf_119 : decode cX5_pullOf 119 = .ok (.goto 4, 3) := by decide +kernel
theorem dX5_pullOf_122 : decode cX5_pullOf 122 = .ok (.iload_n 2, 1) := by decide +kernel
theorem dX5_pullOf_123 : decode cX5_pullOf 123 = .ok (.ireturn, 1) := by decide +kernel
set_option maxRecDepth 20000 in
theorem ggX5_pullerOf_X5_has : GoodIn wsX5_pullerOf wsX5_has := goodIn_r _ [4] (by decide +kernel) (by decide +kernel)
set_option maxRecDepth 20000 in
theorem gX5_pullerOf_X5_has : GoodIn wsX5_pullerOf (va_wsS RX5 131 yX5_has wsX5_has) := goodIn_app (goodIn_of _ (by decide +kernel)) ggX5_pullerOf_X5_has
set_option maxRecDepth 20000 in
theorem ggX5_pullerOf_X5_pullOf : GoodIn wsX5_pullerOf wsX5_pullOf := goodIn_r _ [7, 1, 2, 3, 4] (by decide +kernel) (by decide +kernel)
set_option maxRecDepth 20000 in
theorem gX5_pullerOf_X5_pullOf : GoodIn wsX5_pullerOf (va_wsS RX5 134 yX5_pullOf wsX5_pullOf) := goodIn_app (goodIn_of _ (by decide +kernel)) ggX5_pullerOf_X5_pullOf
theorem dX5_pullerOf_0 : decode cX5_pullerOf 0 = .ok (.iconst (-1), 1) := by decide +kernel
theorem dX5_pullerOf_1 : decode cX5_pullerOf 1 = .ok (.istore_n 2, 1) := by decide +kernel
theorem dX5_pullerOf_2 : decode cX5_pullerOf 2 = .ok (.iconst 0, 1) := by decide +kernel
theorem dX5_pullerOf_3 : decode cX5_pullerOf 3 = .ok (.istore_n 3, 1) := by decide +kernel
theorem dX5_pullerOf_4 : decode cX5_pullerOf 4 = .ok (.iconst 0, 1) := by decide +kernel
theorem dX5_pullerOf_5 : decode cX5_pullerOf 5 = .ok (.istore 4, 2) := by decide +kernel
theorem dX5_pullerOf_7 : decode cX5_pullerOf 7 = .ok (.iload 4, 2) := by decide +kernel
theorem dX5_pullerOf_9 : decode cX5_pullerOf 9 = .ok (.aload_n 0, 1) := by decide +kernel
theorem dX5_pullerOf_10 : decode cX5_pullerOf 10 = .ok (.iconst 2, 1) := by decide +kernel
theorem dX5_pullerOf_11 : decode cX5_pullerOf 11 = .ok (.iaload, 1) := by decide +kernel
theorem dX5_pullerOf_12 : decode cX5_pullerOf 12 = .ok (.if_icmp .ge 56, 3) := by decide +kernel
theorem dX5_pullerOf_15 : decode cX5_pullerOf 15 = .ok (.iload_n 1, 1) := by decide +kernel
theorem dX5_pullerOf_16 : decode cX5_pullerOf 16 = .ok (.iload 4, 2) := by decide +kernel
theorem dX5_pullerOf_18 : decode cX5_pullerOf 18 = .ok (.invokestatic 131, 3) := by decide +kernel
theorem dX5_pullerOf_21 : decode cX5_pullerOf 21 = .ok (.ifCond .eq 7, 3) := by decide +kernel
theorem dX5_pullerOf_24 : decode cX5_pullerOf 24 = .ok (.iconst 0, 1) := by decide +kernel
theorem dX5_pullerOf_25 : decode cX5_pullerOf 25 = .ok (.goto 9, 3) := by decide +kernel
theorem dX5_pullerOf_28 : decode cX5_pullerOf 28 = .ok (.aload_n 0, 1) := by decide +kernel
theorem dX5_pullerOf_29 : decode cX5_pullerOf 29 = .ok (.iload 4, 2) := by decide +kernel
theorem dX5_pullerOf_31 : decode cX5_pullerOf 31 = .ok (.invokestatic 134, 3) := by decide +kernel
theorem dX5_pullerOf_34 : decode cX5_pullerOf 34 = .ok (.istore 5, 2) := by decide +kernel
theorem dX5_pullerOf_36 : decode cX5_pullerOf 36 = .ok (.iload 5, 2) := by decide +kernel
theorem dX5_pullerOf_38 : decode cX5_pullerOf 38 = .ok (.iload_n 3, 1) := by decide +kernel
theorem dX5_pullerOf_39 : decode cX5_pullerOf 39 = .ok (.if_icmp .le 8, 3) := by decide +kernel
theorem dX5_pullerOf_42 : decode cX5_pullerOf 42 = .ok (.iload 4, 2) := by decide +kernel
theorem dX5_pullerOf_44 : decode cX5_pullerOf 44 = .ok (.goto 4, 3) := by decide +kernel
theorem dX5_pullerOf_47 : decode cX5_pullerOf 47 = .ok (.iload_n 2, 1) := by decide +kernel
theorem dX5_pullerOf_48 : decode cX5_pullerOf 48 = .ok (.istore_n 2, 1) := by decide +kernel
theorem dX5_pullerOf_49 : decode cX5_pullerOf 49 = .ok (.iload 5, 2) := by decide +kernel
theorem dX5_pullerOf_51 : decode cX5_pullerOf 51 = .ok (.iload_n 3, 1) := by decide +kernel
theorem dX5_pullerOf_52 : decode cX5_pullerOf 52 = .ok (.if_icmp .le 8, 3) := by decide +kernel
theorem dX5_pullerOf_55 : decode cX5_pullerOf 55 = .ok (.iload 5, 2) := by decide +kernel
theorem dX5_pullerOf_57 : decode cX5_pullerOf 57 = .ok (.goto 4, 3) := by decide +kernel
theorem dX5_pullerOf_60 : decode cX5_pullerOf 60 = .ok (.iload_n 3, 1) := by decide +kernel
theorem dX5_pullerOf_61 : decode cX5_pullerOf 61 = .ok (.istore_n 3, 1) := by decide +kernel
theorem dX5_pullerOf_62 : decode cX5_pullerOf 62 = .ok (.iinc 4 1, 3) := by decide +kernel
theorem dX5_pullerOf_65 : decode cX5_pullerOf 65 = .ok (.goto (-58), 3) := by decide +kernel
theorem dX5_pullerOf_68 : decode cX5_pullerOf 68 = .ok (.iload_n 2, 1) := by decide +kernel
theorem dX5_pullerOf_69 : decode cX5_pullerOf 69 = .ok (.ireturn, 1) := by decide +kernel
theorem dX5_towards_0 : decode cX5_towards 0 = .ok (.aload_n 0, 1) := by decide +kernel
theorem dX5_towards_1 : decode cX5_towards 1 = .ok (.iconst 0, 1) := by decide +kernel
theorem dX5_towards_2 : decode cX5_towards 2 = .ok (.iaload, 1) := by decide +kernel
theorem dX5_towards_3 : decode cX5_towards 3 = .ok (.istore_n 2, 1) := by decide +kernel
theorem dX5_towards_4 : decode cX5_towards 4 = .ok (.iload_n 1, 1) := by decide +kernel
theorem dX5_towards_5 : decode cX5_towards 5 = .ok (.ifCond .lt 13, 3) := by decide +kernel
theorem dX5_towards_8 : decode cX5_towards 8 = .ok (.aload_n 0, 1) := by decide +kernel
theorem dX5_towards_9 : decode cX5_towards 9 = .ok (.bipush 14, 2) := by decide +kernel
theorem dX5_towards_11 : decode cX5_towards 11 = .ok (.iload_n 1, 1) := by decide +kernel
theorem dX5_towards_12 : decode cX5_towards 12 = .ok (.iadd, 1) := by decide +kernel
theorem dX5_towards_13 : decode cX5_towards 13 = .ok (.iaload, 1) := by decide +kernel
theorem dX5_towards_14 : decode cX5_towards 14 = .ok (.iload_n 2, 1) := by decide +kernel
theorem dX5_towards_15 : decode cX5_towards 15 = .ok (.if_icmp .ne 7, 3) := by decide +kernel
theorem dX5_towards_18 : decode cX5_towards 18 = .ok (.iload_n 2, 1) := by decide +kernel
theorem dX5_towards_19 : decode cX5_towards 19 = .ok (.goto 22, 3) := by decide +kernel
theorem dX5_towards_22 : decode cX5_towards 22 = .ok (.aload_n 0, 1) := by decide +kernel
theorem dX5_towards_23 : decode cX5_towards 23 = .ok (.bipush 14, 2) := by decide +kernel
theorem dX5_towards_25 : decode cX5_towards 25 = .ok (.iload_n 1, 1) := by decide +kernel
theorem dX5_towards_26 : decode cX5_towards 26 = .ok (.iadd, 1) := by decide +kernel
theorem dX5_towards_27 : decode cX5_towards 27 = .ok (.iaload, 1) := by decide +kernel
theorem dX5_towards_28 : decode cX5_towards 28 = .ok (.iload_n 2, 1) := by decide +kernel
theorem dX5_towards_29 : decode cX5_towards 29 = .ok (.if_icmp .le 9, 3) := by decide +kernel
theorem dX5_towards_32 : decode cX5_towards 32 = .ok (.iload_n 2, 1) := by decide +kernel
theorem dX5_towards_33 : decode cX5_towards 33 = .ok (.iconst 1, 1) := by decide +kernel
theorem dX5_towards_34 : decode cX5_towards 34 = .ok (.iadd, 1) := by decide +kernel
theorem dX5_towards_35 : decode cX5_towards 35 = .ok (.goto 6, 3) := by decide +kernel
theorem dX5_towards_38 : decode cX5_towards 38 = .ok (.iload_n 2, 1) := by decide +kernel
theorem dX5_towards_39 : decode cX5_towards 39 = .ok (.iconst 1, 1) := by decide +kernel
theorem dX5_towards_40 : decode cX5_towards 40 = .ok (.isub, 1) := by decide +kernel
theorem dX5_towards_41 : decode cX5_towards 41 = .ok (.ireturn, 1) := by decide +kernel
set_option maxRecDepth 20000 in
theorem ggX5_pass_X5_pullerOf : GoodIn wsX5_pass wsX5_pullerOf := goodIn_r _ [4, 5, 6, 3, 7, 8, 9, 10] (by decide +kernel) (by decide +kernel)
set_option maxRecDepth 20000 in
theorem gX5_pass_X5_pullerOf : GoodIn wsX5_pass (va_wsS RX5 138 yX5_pullerOf wsX5_pullerOf) := goodIn_app (goodIn_of _ (by decide +kernel)) ggX5_pass_X5_pullerOf
set_option maxRecDepth 20000 in
theorem ggX5_pass_X5_towards : GoodIn wsX5_pass wsX5_towards := goodIn_r _ [13] (by decide +kernel) (by decide +kernel)
set_option maxRecDepth 20000 in
theorem gX5_pass_X5_towards : GoodIn wsX5_pass (va_wsS RX5 141 yX5_towards wsX5_towards) := goodIn_app (goodIn_of _ (by decide +kernel)) ggX5_pass_X5_towards
theorem dX5_pass_0 : decode cX5_pass 0 = .ok (.iconst 0, 1) := by decide +kernel
theorem dX5_pass_1 : decode cX5_pass 1 = .ok (.istore_n 1, 1) := by decide +kernel
theorem dX5_pass_2 : decode cX5_pass 2 = .ok (.aload_n 0, 1) := by decide +kernel
theorem dX5_pass_3 : decode cX5_pass 3 = .ok (.iconst 0, 1) := by decide +kernel
theorem dX5_pass_4 : decode cX5_pass 4 = .ok (.aload_n 0, 1) := by decide +kernel
theorem dX5_pass_5 : decode cX5_pass 5 = .ok (.aload_n 0, 1) := by decide +kernel
theorem dX5_pass_6 : decode cX5_pass 6 = .ok (.iconst 0, 1) := by decide +kernel
theorem dX5_pass_7 : decode cX5_pass 7 = .ok (.invokestatic 138, 3) := by decide +kernel
theorem dX5_pass_10 : decode cX5_pass 10 = .ok (.invokestatic 141, 3) := by decide +kernel
theorem dX5_pass_13 : decode cX5_pass 13 = .ok (.iastore, 1) := by decide +kernel
theorem dX5_pass_14 : decode cX5_pass 14 = .ok (.iconst 0, 1) := by decide +kernel
theorem dX5_pass_15 : decode cX5_pass 15 = .ok (.istore_n 2, 1) := by decide +kernel
theorem dX5_pass_16 : decode cX5_pass 16 = .ok (.iload_n 2, 1) := by decide +kernel
theorem dX5_pass_17 : decode cX5_pass 17 = .ok (.aload_n 0, 1) := by decide +kernel
theorem dX5_pass_18 : decode cX5_pass 18 = .ok (.iconst 2, 1) := by decide +kernel
theorem dX5_pass_19 : decode cX5_pass 19 = .ok (.iaload, 1) := by decide +kernel
theorem dX5_pass_20 : decode cX5_pass 20 = .ok (.if_icmp .ge 83, 3) := by decide +kernel
theorem dX5_pass_23 : decode cX5_pass 23 = .ok (.aload_n 0, 1) := by decide +kernel
theorem dX5_pass_24 : decode cX5_pass 24 = .ok (.bipush 35, 2) := by decide +kernel
theorem dX5_pass_26 : decode cX5_pass 26 = .ok (.iload_n 2, 1) := by decide +kernel
theorem dX5_pass_27 : decode cX5_pass 27 = .ok (.iadd, 1) := by decide +kernel
theorem dX5_pass_28 : decode cX5_pass 28 = .ok (.iaload, 1) := by decide +kernel
theorem dX5_pass_29 : decode cX5_pass 29 = .ok (.ifCond .ne 68, 3) := by decide +kernel
theorem dX5_pass_32 : decode cX5_pass 32 = .ok (.aload_n 0, 1) := by decide +kernel
theorem dX5_pass_33 : decode cX5_pass 33 = .ok (.bipush 14, 2) := by decide +kernel
theorem dX5_pass_35 : decode cX5_pass 35 = .ok (.iload_n 2, 1) := by decide +kernel
theorem dX5_pass_36 : decode cX5_pass 36 = .ok (.iadd, 1) := by decide +kernel
theorem dX5_pass_37 : decode cX5_pass 37 = .ok (.iaload, 1) := by decide +kernel
theorem dX5_pass_38 : decode cX5_pass 38 = .ok (.aload_n 0, 1) := by decide +kernel
theorem dX5_pass_39 : decode cX5_pass 39 = .ok (.iconst 0, 1) := by decide +kernel
theorem dX5_pass_40 : decode cX5_pass 40 = .ok (.iaload, 1) := by decide +kernel
theorem dX5_pass_41 : decode cX5_pass 41 = .ok (.if_icmp .ne 56, 3) := by decide +kernel
theorem dX5_pass_44 : decode cX5_pass 44 = .ok (.aload_n 0, 1) := by decide +kernel
theorem dX5_pass_45 : decode cX5_pass 45 = .ok (.bipush 7, 2) := by decide +kernel
theorem dX5_pass_47 : decode cX5_pass 47 = .ok (.iload_n 2, 1) := by decide +kernel
theorem dX5_pass_48 : decode cX5_pass 48 = .ok (.iadd, 1) := by decide +kernel
theorem dX5_pass_49 : decode cX5_pass 49 = .ok (.iaload, 1) := by decide +kernel
theorem dX5_pass_50 : decode cX5_pass 50 = .ok (.iconst 4, 1) := by decide +kernel
theorem dX5_pass_51 : decode cX5_pass 51 = .ok (.if_icmp .ne 7, 3) := by decide +kernel
theorem dX5_pass_54 : decode cX5_pass 54 = .ok (.iconst 1, 1) := by decide +kernel
theorem dX5_pass_55 : decode cX5_pass 55 = .ok (.goto 4, 3) := by decide +kernel
theorem dX5_pass_58 : decode cX5_pass 58 = .ok (.iconst 0, 1) := by decide +kernel
theorem dX5_pass_59 : decode cX5_pass 59 = .ok (.istore_n 3, 1) := by decide +kernel
theorem dX5_pass_60 : decode cX5_pass 60 = .ok (.aload_n 0, 1) := by decide +kernel
theorem dX5_pass_61 : decode cX5_pass 61 = .ok (.bipush 35, 2) := by decide +kernel
theorem dX5_pass_63 : decode cX5_pass 63 = .ok (.iload_n 2, 1) := by decide +kernel
theorem dX5_pass_64 : decode cX5_pass 64 = .ok (.iadd, 1) := by decide +kernel
theorem dX5_pass_65 : decode cX5_pass 65 = .ok (.iload_n 3, 1) := by decide +kernel
theorem dX5_pass_66 : decode cX5_pass 66 = .ok (.ifCond .eq 7, 3) := by decide +kernel
theorem dX5_pass_69 : decode cX5_pass 69 = .ok (.iconst 2, 1) := by decide +kernel
theorem dX5_pass_70 : decode cX5_pass 70 = .ok (.goto 4, 3) := by decide +kernel
theorem dX5_pass_73 : decode cX5_pass 73 = .ok (.iconst 1, 1) := by decide +kernel
theorem dX5_pass_74 : decode cX5_pass 74 = .ok (.iastore, 1) := by decide +kernel
theorem dX5_pass_75 : decode cX5_pass 75 = .ok (.aload_n 0, 1) := by decide +kernel
theorem dX5_pass_76 : decode cX5_pass 76 = .ok (.iload_n 3, 1) := by decide +kernel
theorem dX5_pass_77 : decode cX5_pass 77 = .ok (.ifCond .eq 8, 3) := by decide +kernel
theorem dX5_pass_80 : decode cX5_pass 80 = .ok (.bipush 6, 2) := by decide +kernel
theorem dX5_pass_82 : decode cX5_pass 82 = .ok (.goto 4, 3) := by decide +kernel
theorem dX5_pass_85 : decode cX5_pass 85 = .ok (.iconst 5, 1) := by decide +kernel
theorem dX5_pass_86 : decode cX5_pass 86 = .ok (.dup2, 1) := by decide +kernel
theorem dX5_pass_87 : decode cX5_pass 87 = .ok (.iaload, 1) := by decide +kernel
theorem dX5_pass_88 : decode cX5_pass 88 = .ok (.iconst 1, 1) := by decide +kernel
theorem dX5_pass_89 : decode cX5_pass 89 = .ok (.iadd, 1) := by decide +kernel
theorem dX5_pass_90 : decode cX5_pass 90 = .ok (.iastore, 1) := by decide +kernel
theorem dX5_pass_91 : decode cX5_pass 91 = .ok (.iload_n 1, 1) := by decide +kernel
theorem dX5_pass_92 : decode cX5_pass 92 = .ok (.iconst 1, 1) := by decide +kernel
theorem dX5_pass_93 : decode cX5_pass 93 = .ok (.iload_n 2, 1) := by decide +kernel
theorem dX5_pass_94 : decode cX5_pass 94 = .ok (.ishl, 1) := by decide +kernel
theorem dX5_pass_95 : decode cX5_pass 95 = .ok (.ior, 1) := by decide +kernel
theorem dX5_pass_96 : decode cX5_pass 96 = .ok (.istore_n 1, 1) := by decide +kernel
theorem dX5_pass_97 : decode cX5_pass 97 = .ok (.iinc 2 1, 3) := by decide +kernel
theorem dX5_pass_100 : decode cX5_pass 100 = .ok (.goto (-84), 3) := by decide +kernel
theorem dX5_pass_103 : decode cX5_pass 103 = .ok (.aload_n 0, 1) := by decide +kernel
theorem dX5_pass_104 : decode cX5_pass 104 = .ok (.iconst 3, 1) := by decide +kernel
theorem dX5_pass_105 : decode cX5_pass 105 = .ok (.dup2, 1) := by decide +kernel
theorem dX5_pass_106 : decode cX5_pass 106 = .ok (.iaload, 1) := by decide +kernel
theorem dX5_pass_107 : decode cX5_pass 107 = .ok (.iconst 1, 1) := by decide +kernel
theorem dX5_pass_108 : decode cX5_pass 108 = .ok (.iadd, 1) := by decide +kernel
theorem dX5_pass_109 : decode cX5_pass 109 = .ok (.iastore, 1) := by decide +kernel
theorem dX5_pass_110 : decode cX5_pass 110 = .ok (.iconst 0, 1) := by decide +kernel
theorem dX5_pass_111 : decode cX5_pass 111 = .ok (.istore_n 2, 1) := by decide +kernel
theorem dX5_pass_112 : decode cX5_pass 112 = .ok (.iload_n 2, 1) := by decide +kernel
theorem dX5_pass_113 : decode cX5_pass 113 = .ok (.aload_n 0, 1) := by decide +kernel
theorem dX5_pass_114 : decode cX5_pass 114 = .ok (.iconst 2, 1) := by decide +kernel
theorem dX5_pass_115 : decode cX5_pass 115 = .ok (.iaload, 1) := by decide +kernel
theorem dX5_pass_116 : decode cX5_pass 116 = .ok (.if_icmp .ge 70, 3) := by decide +kernel
theorem dX5_pass_119 : decode cX5_pass 119 = .ok (.aload_n 0, 1) := by decide +kernel
theorem dX5_pass_120 : decode cX5_pass 120 = .ok (.bipush 7, 2) := by decide +kernel
theorem dX5_pass_122 : decode cX5_pass 122 = .ok (.iload_n 2, 1) := by decide +kernel
theorem dX5_pass_123 : decode cX5_pass 123 = .ok (.iadd, 1) := by decide +kernel
theorem dX5_pass_124 : decode cX5_pass 124 = .ok (.iaload, 1) := by decide +kernel
theorem dX5_pass_125 : decode cX5_pass 125 = .ok (.iconst 5, 1) := by decide +kernel
theorem dX5_pass_126 : decode cX5_pass 126 = .ok (.if_icmp .ne 32, 3) := by decide +kernel
theorem dX5_pass_129 : decode cX5_pass 129 = .ok (.aload_n 0, 1) := by decide +kernel
theorem dX5_pass_130 : decode cX5_pass 130 = .ok (.bipush 35, 2) := by decide +kernel
theorem dX5_pass_132 : decode cX5_pass 132 = .ok (.iload_n 2, 1) := by decide +kernel
theorem dX5_pass_133 : decode cX5_pass 133 = .ok (.iadd, 1) := by decide +kernel
theorem dX5_pass_134 : decode cX5_pass 134 = .ok (.iaload, 1) := by decide +kernel
theorem dX5_pass_135 : decode cX5_pass 135 = .ok (.iconst 1, 1) := by decide +kernel
theorem dX5_pass_136 : decode cX5_pass 136 = .ok (.if_icmp .ne 22, 3) := by decide +kernel
theorem dX5_pass_139 : decode cX5_pass 139 = .ok (.aload_n 0, 1) := by decide +kernel
theorem dX5_pass_140 : decode cX5_pass 140 = .ok (.iconst 3, 1) := by decide +kernel
theorem dX5_pass_141 : decode cX5_pass 141 = .ok (.iaload, 1) := by decide +kernel
theorem dX5_pass_142 : decode cX5_pass 142 = .ok (.aload_n 0, 1) := by decide +kernel
theorem dX5_pass_143 : decode cX5_pass 143 = .ok (.bipush 21, 2) := by decide +kernel
theorem dX5_pass_145 : decode cX5_pass 145 = .ok (.iload_n 2, 1) := by decide +kernel
theorem dX5_pass_146 : decode cX5_pass 146 = .ok (.iadd, 1) := by decide +kernel
theorem dX5_pass_147 : decode cX5_pass 147 = .ok (.iaload, 1) := by decide +kernel
theorem dX5_pass_148 : decode cX5_pass 148 = .ok (.iconst 1, 1) := by decide +kernel
theorem dX5_pass_149 : decode cX5_pass 149 = .ok (.iadd, 1) := by decide +kernel
theorem dX5_pass_150 : decode cX5_pass 150 = .ok (.irem, 1) := by decide +kernel
theorem dX5_pass_151 : decode cX5_pass 151 = .ok (.ifCond .ne 7, 3) := by decide +kernel
theorem dX5_pass_154 : decode cX5_pass 154 = .ok (.iconst 1, 1) := by decide +kernel
theorem dX5_pass_155 : decode cX5_pass 155 = .ok (.goto 4, 3) := by decide +kernel
theorem dX5_pass_158 : decode cX5_pass 158 = .ok (.iconst 0, 1) := by decide +kernel
theorem dX5_pass_159 : decode cX5_pass 159 = .ok (.istore_n 3, 1) := by decide +kernel
theorem dX5_pass_160 : decode cX5_pass 160 = .ok (.aload_n 0, 1) := by decide +kernel
theorem dX5_pass_161 : decode cX5_pass 161 = .ok (.bipush 35, 2) := by decide +kernel
theorem dX5_pass_163 : decode cX5_pass 163 = .ok (.iload_n 2, 1) := by decide +kernel
theorem dX5_pass_164 : decode cX5_pass 164 = .ok (.iadd, 1) := by decide +kernel
theorem dX5_pass_165 : decode cX5_pass 165 = .ok (.iload_n 3, 1) := by decide +kernel
theorem dX5_pass_166 : decode cX5_pass 166 = .ok (.ifCond .eq 7, 3) := by decide +kernel
theorem dX5_pass_169 : decode cX5_pass 169 = .ok (.iconst 0, 1) := by decide +kernel
theorem dX5_pass_170 : decode cX5_pass 170 = .ok (.goto 9, 3) := by decide +kernel
theorem dX5_pass_173 : decode cX5_pass 173 = .ok (.aload_n 0, 1) := by decide +kernel
theorem dX5_pass_174 : decode cX5_pass 174 = .ok (.bipush 35, 2) := by decide +kernel
theorem dX5_pass_176 : decode cX5_pass 176 = .ok (.iload_n 2, 1) := by decide +kernel
theorem dX5_pass_177 : decode cX5_pass 177 = .ok (.iadd, 1) := by decide +kernel
theorem dX5_pass_178 : decode cX5_pass 178 = .ok (.iaload, 1) := by decide +kernel
theorem dX5_pass_179 : decode cX5_pass 179 = .ok (.iastore, 1) := by decide +kernel
theorem dX5_pass_180 : decode cX5_pass 180 = .ok (.iinc 2 1, 3) := by decide +kernel
