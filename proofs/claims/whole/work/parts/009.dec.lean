theorem dX5_isSo_3 : decode cX5_isSo 3 = .ok (.istore_n 3, 1) := by decide +kernel
theorem dX5_isSo_4 : decode cX5_isSo 4 = .ok (.iload_n 3, 1) := by decide +kernel
theorem dX5_isSo_5 : decode cX5_isSo 5 = .ok (.iload_n 1, 1) := by decide +kernel
theorem dX5_isSo_6 : decode cX5_isSo 6 = .ok (.if_icmp .ge 42, 3) := by decide +kernel
theorem dX5_isSo_9 : decode cX5_isSo 9 = .ok (.aload_n 0, 1) := by decide +kernel
theorem dX5_isSo_10 : decode cX5_isSo 10 = .ok (.getfield 28, 3) := by decide +kernel
theorem dX5_isSo_13 : decode cX5_isSo 13 = .ok (.invokestatic 150, 3) := by decide +kernel
theorem dX5_isSo_16 : decode cX5_isSo 16 = .ok (.pop, 1) := by decide +kernel
theorem dX5_isSo_17 : decode cX5_isSo 17 = .ok (.iload_n 2, 1) := by decide +kernel
theorem dX5_isSo_18 : decode cX5_isSo 18 = .ok (.ifCond .eq 22, 3) := by decide +kernel
theorem dX5_isSo_21 : decode cX5_isSo 21 = .ok (.aload_n 0, 1) := by decide +kernel
theorem dX5_isSo_22 : decode cX5_isSo 22 = .ok (.getfield 28, 3) := by decide +kernel
theorem dX5_isSo_25 : decode cX5_isSo 25 = .ok (.iconst 0, 1) := by decide +kernel
theorem dX5_isSo_26 : decode cX5_isSo 26 = .ok (.iaload, 1) := by decide +kernel
theorem dX5_isSo_27 : decode cX5_isSo 27 = .ok (.aload_n 0, 1) := by decide +kernel
theorem dX5_isSo_28 : decode cX5_isSo 28 = .ok (.getfield 44, 3) := by decide +kernel
theorem dX5_isSo_31 : decode cX5_isSo 31 = .ok (.iload_n 3, 1) := by decide +kernel
theorem dX5_isSo_32 : decode cX5_isSo 32 = .ok (.iaload, 1) := by decide +kernel
theorem dX5_isSo_33 : decode cX5_isSo 33 = .ok (.if_icmp .ne 7, 3) := by decide +kernel
theorem dX5_isSo_36 : decode cX5_isSo 36 = .ok (.iconst 1, 1) := by decide +kernel
theorem dX5_isSo_37 : decode cX5_isSo 37 = .ok (.goto 4, 3) := by decide +kernel
theorem dX5_isSo_40 : decode cX5_isSo 40 = .ok (.iconst 0, 1) := by decide +kernel
theorem dX5_isSo_41 : decode cX5_isSo 41 = .ok (.istore_n 2, 1) := by decide +kernel
theorem dX5_isSo_42 : decode cX5_isSo 42 = .ok (.iinc 3 1, 3) := by decide +kernel
theorem dX5_isSo_45 : decode cX5_isSo 45 = .ok (.goto (-41), 3) := by decide +kernel
theorem dX5_isSo_48 : decode cX5_isSo 48 = .ok (.iload_n 2, 1) := by decide +kernel
theorem dX5_isSo_49 : decode cX5_isSo 49 = .ok (.ireturn, 1) := by decide +kernel
set_option maxRecDepth 20000 in
theorem ggX5_broke_X5_isRoute : GoodIn wsX5_broke wsX5_isRoute := goodIn_r _ [8, 3, 67, 68, 69, 70, 71, 72, 73, 74, 75, 76, 77, 78, 79, 80, 81, 82, 83, 84, 85, 86, 87, 88, 89] (by decide +kernel) (by decide +kernel)
set_option maxRecDepth 20000 in
theorem gX5_broke_X5_isRoute : GoodIn wsX5_broke (wsV RX5 144 RX5 yX5_isRoute wsX5_isRoute) := goodIn_app (goodIn_of _ (by decide +kernel)) ggX5_broke_X5_isRoute
set_option maxRecDepth 20000 in
theorem ggX5_broke_X5_isRow : GoodIn wsX5_broke wsX5_isRow := goodIn_r _ [11, 12, 13, 7, 14] (by decide +kernel) (by decide +kernel)
set_option maxRecDepth 20000 in
theorem gX5_broke_X5_isRow : GoodIn wsX5_broke (va_wsS RX5 59 yX5_isRow wsX5_isRow) := goodIn_app (goodIn_of _ (by decide +kernel)) ggX5_broke_X5_isRow
set_option maxRecDepth 20000 in
theorem ggX5_broke_X5_in : GoodIn wsX5_broke wsX5_in := goodIn_r _ [14] (by decide +kernel) (by decide +kernel)
set_option maxRecDepth 20000 in
theorem gX5_broke_X5_in : GoodIn wsX5_broke (va_wsS RX5 50 yX5_in wsX5_in) := goodIn_app (goodIn_of _ (by decide +kernel)) ggX5_broke_X5_in
set_option maxRecDepth 20000 in
theorem ggX5_broke_X5_takeOut : GoodIn wsX5_broke wsX5_takeOut := goodIn_r _ [18, 19, 20, 21, 22, 23, 24, 25, 7, 26, 27, 28, 29, 30, 31, 67, 68, 69, 70, 71, 72, 73, 74, 75, 76, 77, 78, 79, 80, 81, 82, 83, 84, 85, 86, 87, 88, 89] (by decide +kernel) (by decide +kernel)
set_option maxRecDepth 20000 in
theorem gX5_broke_X5_takeOut : GoodIn wsX5_broke (wsV RX5 177 RX5 yX5_takeOut wsX5_takeOut) := goodIn_app (goodIn_of _ (by decide +kernel)) ggX5_broke_X5_takeOut
set_option maxRecDepth 20000 in
theorem ggX5_broke_X5_begin : GoodIn wsX5_broke wsX5_begin := goodIn_r _ [35, 3, 36, 37, 38, 7, 39, 67, 68, 69, 70, 71, 72, 73, 74, 75, 76, 77, 78, 79, 80, 81, 82, 83, 84, 85, 86, 87, 88, 89] (by decide +kernel) (by decide +kernel)
set_option maxRecDepth 20000 in
theorem gX5_broke_X5_begin : GoodIn wsX5_broke (wsV RX5 164 RX5 yX5_begin wsX5_begin) := goodIn_app (goodIn_of _ (by decide +kernel)) ggX5_broke_X5_begin
set_option maxRecDepth 20000 in
theorem ggX5_broke_X5_isSo : GoodIn wsX5_broke wsX5_isSo := goodIn_r _ [43, 36, 21, 44, 45, 7, 46, 47, 48, 49, 50, 51, 52, 53, 54, 55, 56, 57, 58, 67, 68, 69, 70, 71, 72, 73, 74, 75, 76, 77, 78, 79, 80, 81, 82, 83, 84, 85, 86, 87, 88, 89] (by decide +kernel) (by decide +kernel)
set_option maxRecDepth 20000 in
theorem gX5_broke_X5_isSo : GoodIn wsX5_broke (wsV RX5 181 RX5 yX5_isSo wsX5_isSo) := goodIn_app (goodIn_of _ (by decide +kernel)) ggX5_broke_X5_isSo
set_option maxRecDepth 20000 in
theorem ggX5_broke_X5_beginBut : GoodIn wsX5_broke wsX5_beginBut := goodIn_r _ [62, 3, 36, 32, 33, 34, 7, 35, 37, 38, 39, 50, 51, 52, 67, 68, 69, 70, 71, 72, 73, 74, 75, 76, 77, 78, 79, 80, 81, 82, 83, 84, 85, 86, 87, 88, 89] (by decide +kernel) (by decide +kernel)
set_option maxRecDepth 20000 in
theorem gX5_broke_X5_beginBut : GoodIn wsX5_broke (wsV RX5 173 RX5 yX5_beginBut wsX5_beginBut) := goodIn_app (goodIn_of _ (by decide +kernel)) ggX5_broke_X5_beginBut
set_option maxRecDepth 20000 in
theorem ggX5_broke_X5_done : GoodIn wsX5_broke wsX5_done := goodIn_r _ [66, 27, 67, 68, 69, 70, 71, 72, 73, 74, 75, 76, 77, 78, 79, 80, 81, 82, 83, 84, 85, 86, 87, 88, 89] (by decide +kernel) (by decide +kernel)
set_option maxRecDepth 20000 in
theorem gX5_broke_X5_done : GoodIn wsX5_broke (wsV RX5 68 RX5 yX5_done wsX5_done) := goodIn_app (goodIn_of _ (by decide +kernel)) ggX5_broke_X5_done
theorem dX5_broke_0 : decode cX5_broke 0 = .ok (.aload_n 0, 1) := by decide +kernel
theorem dX5_broke_1 : decode cX5_broke 1 = .ok (.invokevirtual 144, 3) := by decide +kernel
theorem dX5_broke_4 : decode cX5_broke 4 = .ok (.ifCond .ne 6, 3) := by decide +kernel
theorem dX5_broke_7 : decode cX5_broke 7 = .ok (.ldc 130, 2) := by decide +kernel
theorem dX5_broke_9 : decode cX5_broke 9 = .ok (.ireturn, 1) := by decide +kernel
theorem dX5_broke_10 : decode cX5_broke 10 = .ok (.iload_n 1, 1) := by decide +kernel
theorem dX5_broke_11 : decode cX5_broke 11 = .ok (.invokestatic 59, 3) := by decide +kernel
theorem dX5_broke_14 : decode cX5_broke 14 = .ok (.ifCond .eq 13, 3) := by decide +kernel
theorem dX5_broke_17 : decode cX5_broke 17 = .ok (.iload_n 3, 1) := by decide +kernel
theorem dX5_broke_18 : decode cX5_broke 18 = .ok (.iconst 1, 1) := by decide +kernel
theorem dX5_broke_19 : decode cX5_broke 19 = .ok (.bipush 12, 2) := by decide +kernel
theorem dX5_broke_21 : decode cX5_broke 21 = .ok (.invokestatic 50, 3) := by decide +kernel
theorem dX5_broke_24 : decode cX5_broke 24 = .ok (.ifCond .ne 6, 3) := by decide +kernel
theorem dX5_broke_27 : decode cX5_broke 27 = .ok (.ldc 63, 2) := by decide +kernel
theorem dX5_broke_29 : decode cX5_broke 29 = .ok (.ireturn, 1) := by decide +kernel
theorem dX5_broke_30 : decode cX5_broke 30 = .ok (.aload_n 0, 1) := by decide +kernel
theorem dX5_broke_31 : decode cX5_broke 31 = .ok (.iload_n 1, 1) := by decide +kernel
theorem dX5_broke_32 : decode cX5_broke 32 = .ok (.iload_n 2, 1) := by decide +kernel
theorem dX5_broke_33 : decode cX5_broke 33 = .ok (.iload_n 3, 1) := by decide +kernel
theorem dX5_broke_34 : decode cX5_broke 34 = .ok (.invokevirtual 177, 3) := by decide +kernel
theorem dX5_broke_37 : decode cX5_broke 37 = .ok (.istore 4, 2) := by decide +kernel
theorem dX5_broke_39 : decode cX5_broke 39 = .ok (.iload 4, 2) := by decide +kernel
theorem dX5_broke_41 : decode cX5_broke 41 = .ok (.ifCond .ge 6, 3) := by decide +kernel
theorem dX5_broke_44 : decode cX5_broke 44 = .ok (.iload 4, 2) := by decide +kernel
theorem dX5_broke_46 : decode cX5_broke 46 = .ok (.ireturn, 1) := by decide +kernel
theorem dX5_broke_47 : decode cX5_broke 47 = .ok (.aload_n 0, 1) := by decide +kernel
theorem dX5_broke_48 : decode cX5_broke 48 = .ok (.invokevirtual 164, 3) := by decide +kernel
theorem dX5_broke_51 : decode cX5_broke 51 = .ok (.aload_n 0, 1) := by decide +kernel
theorem dX5_broke_52 : decode cX5_broke 52 = .ok (.iload_n 3, 1) := by decide +kernel
theorem dX5_broke_53 : decode cX5_broke 53 = .ok (.invokevirtual 181, 3) := by decide +kernel
theorem dX5_broke_56 : decode cX5_broke 56 = .ok (.ifCond .eq 9, 3) := by decide +kernel
theorem dX5_broke_59 : decode cX5_broke 59 = .ok (.sipush 128, 3) := by decide +kernel
theorem dX5_broke_62 : decode cX5_broke 62 = .ok (.goto 4, 3) := by decide +kernel
theorem dX5_broke_65 : decode cX5_broke 65 = .ok (.iconst 0, 1) := by decide +kernel
theorem dX5_broke_66 : decode cX5_broke 66 = .ok (.istore 5, 2) := by decide +kernel
theorem dX5_broke_68 : decode cX5_broke 68 = .ok (.iconst 0, 1) := by decide +kernel
theorem dX5_broke_69 : decode cX5_broke 69 = .ok (.istore 6, 2) := by decide +kernel
theorem dX5_broke_71 : decode cX5_broke 71 = .ok (.iload 6, 2) := by decide +kernel
theorem dX5_broke_73 : decode cX5_broke 73 = .ok (.aload_n 0, 1) := by decide +kernel
theorem dX5_broke_74 : decode cX5_broke 74 = .ok (.getfield 22, 3) := by decide +kernel
theorem dX5_broke_77 : decode cX5_broke 77 = .ok (.iconst 2, 1) := by decide +kernel
theorem dX5_broke_78 : decode cX5_broke 78 = .ok (.iaload, 1) := by decide +kernel
theorem dX5_broke_79 : decode cX5_broke 79 = .ok (.if_icmp .ge 51, 3) := by decide +kernel
theorem dX5_broke_82 : decode cX5_broke 82 = .ok (.aload_n 0, 1) := by decide +kernel
theorem dX5_broke_83 : decode cX5_broke 83 = .ok (.getfield 22, 3) := by decide +kernel
theorem dX5_broke_86 : decode cX5_broke 86 = .ok (.bipush 35, 2) := by decide +kernel
theorem dX5_broke_88 : decode cX5_broke 88 = .ok (.iload 6, 2) := by decide +kernel
theorem dX5_broke_90 : decode cX5_broke 90 = .ok (.iadd, 1) := by decide +kernel
theorem dX5_broke_91 : decode cX5_broke 91 = .ok (.iaload, 1) := by decide +kernel
theorem dX5_broke_92 : decode cX5_broke 92 = .ok (.ifCond .ne 32, 3) := by decide +kernel
theorem dX5_broke_95 : decode cX5_broke 95 = .ok (.aload_n 0, 1) := by decide +kernel
theorem dX5_broke_96 : decode cX5_broke 96 = .ok (.iconst 1, 1) := by decide +kernel
theorem dX5_broke_97 : decode cX5_broke 97 = .ok (.iload 6, 2) := by decide +kernel
theorem dX5_broke_99 : decode cX5_broke 99 = .ok (.ishl, 1) := by decide +kernel
theorem dX5_broke_100 : decode cX5_broke 100 = .ok (.invokevirtual 173, 3) := by decide +kernel
theorem dX5_broke_103 : decode cX5_broke 103 = .ok (.iload 5, 2) := by decide +kernel
theorem dX5_broke_105 : decode cX5_broke 105 = .ok (.aload_n 0, 1) := by decide +kernel
theorem dX5_broke_106 : decode cX5_broke 106 = .ok (.iload_n 3, 1) := by decide +kernel
theorem dX5_broke_107 : decode cX5_broke 107 = .ok (.invokevirtual 181, 3) := by decide +kernel
theorem dX5_broke_110 : decode cX5_broke 110 = .ok (.ifCond .eq 10, 3) := by decide +kernel
theorem dX5_broke_113 : decode cX5_broke 113 = .ok (.iconst 1, 1) := by decide +kernel
theorem dX5_broke_114 : decode cX5_broke 114 = .ok (.iload 6, 2) := by decide +kernel
theorem dX5_broke_116 : decode cX5_broke 116 = .ok (.ishl, 1) := by decide +kernel
theorem dX5_broke_117 : decode cX5_broke 117 = .ok (.goto 4, 3) := by decide +kernel
theorem dX5_broke_120 : decode cX5_broke 120 = .ok (.iconst 0, 1) := by decide +kernel
theorem dX5_broke_121 : decode cX5_broke 121 = .ok (.ior, 1) := by decide +kernel
theorem dX5_broke_122 : decode cX5_broke 122 = .ok (.istore 5, 2) := by decide +kernel
theorem dX5_broke_124 : decode cX5_broke 124 = .ok (.iinc 6 1, 3) := by decide +kernel
theorem dX5_broke_127 : decode cX5_broke 127 = .ok (.goto (-56), 3) := by decide +kernel
theorem dX5_broke_130 : decode cX5_broke 130 = .ok (.aload_n 0, 1) := by decide +kernel
theorem dX5_broke_131 : decode cX5_broke 131 = .ok (.iload 5, 2) := by decide +kernel
theorem dX5_broke_133 : decode cX5_broke 133 = .ok (.invokevirtual 68, 3) := by decide +kernel
theorem dX5_broke_136 : decode cX5_broke 136 = .ok (.ireturn, 1) := by decide +kernel
set_option maxRecDepth 20000 in
theorem ggX5_sworn_X5_isOne : GoodIn wsX5_sworn wsX5_isOne := goodIn_r _ [9, 2, 10, 11, 8, 12, 63, 64, 65, 66, 67, 68, 69, 70, 71, 72, 73, 74, 75, 76, 77, 78, 79, 80, 81, 82, 83, 84, 85] (by decide +kernel) (by decide +kernel)
set_option maxRecDepth 20000 in
theorem gX5_sworn_X5_isOne : GoodIn wsX5_sworn (wsV RX5 154 RX5 yX5_isOne wsX5_isOne) := goodIn_app (goodIn_of _ (by decide +kernel)) ggX5_sworn_X5_isOne
set_option maxRecDepth 20000 in
theorem ggX5_sworn_X5_isRow : GoodIn wsX5_sworn wsX5_isRow := goodIn_r _ [15, 10, 11, 8, 12] (by decide +kernel) (by decide +kernel)
set_option maxRecDepth 20000 in
theorem gX5_sworn_X5_isRow : GoodIn wsX5_sworn (va_wsS RX5 59 yX5_isRow wsX5_isRow) := goodIn_app (goodIn_of _ (by decide +kernel)) ggX5_sworn_X5_isRow
set_option maxRecDepth 20000 in
theorem ggX5_sworn_X5_in : GoodIn wsX5_sworn wsX5_in := goodIn_r _ [12] (by decide +kernel) (by decide +kernel)
set_option maxRecDepth 20000 in
theorem gX5_sworn_X5_in : GoodIn wsX5_sworn (va_wsS RX5 50 yX5_in wsX5_in) := goodIn_app (goodIn_of _ (by decide +kernel)) ggX5_sworn_X5_in
set_option maxRecDepth 20000 in
theorem ggX5_sworn_X5_takeOut : GoodIn wsX5_sworn wsX5_takeOut := goodIn_r _ [19, 20, 21, 22, 23, 24, 25, 26, 8, 27, 28, 29, 30, 31, 32, 63, 64, 65, 66, 67, 68, 69, 70, 71, 72, 73, 74, 75, 76, 77, 78, 79, 80, 81, 82, 83, 84, 85] (by decide +kernel) (by decide +kernel)
set_option maxRecDepth 20000 in
theorem gX5_sworn_X5_takeOut : GoodIn wsX5_sworn (wsV RX5 177 RX5 yX5_takeOut wsX5_takeOut) := goodIn_app (goodIn_of _ (by decide +kernel)) ggX5_sworn_X5_takeOut
set_option maxRecDepth 20000 in
theorem ggX5_sworn_X5_begin : GoodIn wsX5_sworn wsX5_begin := goodIn_r _ [36, 2, 4, 37, 38, 8, 39, 63, 64, 65, 66, 67, 68, 69, 70, 71, 72, 73, 74, 75, 76, 77, 78, 79, 80, 81, 82, 83, 84, 85] (by decide +kernel) (by decide +kernel)
set_option maxRecDepth 20000 in
theorem gX5_sworn_X5_begin : GoodIn wsX5_sworn (wsV RX5 164 RX5 yX5_begin wsX5_begin) := goodIn_app (goodIn_of _ (by decide +kernel)) ggX5_sworn_X5_begin
set_option maxRecDepth 20000 in
theorem ggX5_sworn_X5_isSo : GoodIn wsX5_sworn wsX5_isSo := goodIn_r _ [43, 4, 22, 44, 45, 8, 46, 47, 48, 49, 50, 51, 52, 53, 54, 55, 56, 57, 58, 63, 64, 65, 66, 67, 68, 69, 70, 71, 72, 73, 74, 75, 76, 77, 78, 79, 80, 81, 82, 83, 84, 85] (by decide +kernel) (by decide +kernel)
set_option maxRecDepth 20000 in
theorem gX5_sworn_X5_isSo : GoodIn wsX5_sworn (wsV RX5 181 RX5 yX5_isSo wsX5_isSo) := goodIn_app (goodIn_of _ (by decide +kernel)) ggX5_sworn_X5_isSo
set_option maxRecDepth 20000 in
theorem ggX5_sworn_X5_done : GoodIn wsX5_sworn wsX5_done := goodIn_r _ [62, 28, 63, 64, 65, 66, 67, 68, 69, 70, 71, 72, 73, 74, 75, 76, 77, 78, 79, 80, 81, 82, 83, 84, 85] (by decide +kernel) (by decide +kernel)
set_option maxRecDepth 20000 in
theorem gX5_sworn_X5_done : GoodIn wsX5_sworn (wsV RX5 68 RX5 yX5_done wsX5_done) := goodIn_app (goodIn_of _ (by decide +kernel)) ggX5_sworn_X5_done
theorem dX5_sworn_0 : decode cX5_sworn 0 = .ok (.aload_n 0, 1) := by decide +kernel
theorem dX5_sworn_1 : decode cX5_sworn 1 = .ok (.iload_n 1, 1) := by decide +kernel
theorem dX5_sworn_2 : decode cX5_sworn 2 = .ok (.invokevirtual 154, 3) := by decide +kernel
theorem dX5_sworn_5 : decode cX5_sworn 5 = .ok (.ifCond .eq 21, 3) := by decide +kernel
theorem dX5_sworn_8 : decode cX5_sworn 8 = .ok (.iload_n 2, 1) := by decide +kernel
theorem dX5_sworn_9 : decode cX5_sworn 9 = .ok (.invokestatic 59, 3) := by decide +kernel
theorem dX5_sworn_12 : decode cX5_sworn 12 = .ok (.ifCond .eq 14, 3) := by decide +kernel
theorem dX5_sworn_15 : decode cX5_sworn 15 = .ok (.iload 4, 2) := by decide +kernel
theorem dX5_sworn_17 : decode cX5_sworn 17 = .ok (.iconst 1, 1) := by decide +kernel
theorem dX5_sworn_18 : decode cX5_sworn 18 = .ok (.bipush 12, 2) := by decide +kernel
theorem dX5_sworn_20 : decode cX5_sworn 20 = .ok (.invokestatic 50, 3) := by decide +kernel
theorem dX5_sworn_23 : decode cX5_sworn 23 = .ok (.ifCond .ne 6, 3) := by decide +kernel
theorem dX5_sworn_26 : decode cX5_sworn 26 = .ok (.ldc 63, 2) := by decide +kernel
theorem dX5_sworn_28 : decode cX5_sworn 28 = .ok (.ireturn, 1) := by decide +kernel
theorem dX5_sworn_29 : decode cX5_sworn 29 = .ok (.aload_n 0, 1) := by decide +kernel
theorem dX5_sworn_30 : decode cX5_sworn 30 = .ok (.iload_n 2, 1) := by decide +kernel
theorem dX5_sworn_31 : decode cX5_sworn 31 = .ok (.iload_n 3, 1) := by decide +kernel
theorem dX5_sworn_32 : decode cX5_sworn 32 = .ok (.iload 4, 2) := by decide +kernel
theorem dX5_sworn_34 : decode cX5_sworn 34 = .ok (.invokevirtual 177, 3) := by decide +kernel
theorem dX5_sworn_37 : decode cX5_sworn 37 = .ok (.istore 5, 2) := by decide +kernel
theorem dX5_sworn_39 : decode cX5_sworn 39 = .ok (.iload 5, 2) := by decide +kernel
theorem dX5_sworn_41 : decode cX5_sworn 41 = .ok (.ifCond .ge 6, 3) := by decide +kernel
theorem dX5_sworn_44 : decode cX5_sworn 44 = .ok (.iload 5, 2) := by decide +kernel
theorem dX5_sworn_46 : decode cX5_sworn 46 = .ok (.ireturn, 1) := by decide +kernel
theorem dX5_sworn_47 : decode cX5_sworn 47 = .ok (.aload_n 0, 1) := by decide +kernel
theorem dX5_sworn_48 : decode cX5_sworn 48 = .ok (.getfield 22, 3) := by decide +kernel
theorem dX5_sworn_51 : decode cX5_sworn 51 = .ok (.bipush 35, 2) := by decide +kernel
theorem dX5_sworn_53 : decode cX5_sworn 53 = .ok (.iload_n 1, 1) := by decide +kernel
theorem dX5_sworn_54 : decode cX5_sworn 54 = .ok (.iadd, 1) := by decide +kernel
theorem dX5_sworn_55 : decode cX5_sworn 55 = .ok (.iaload, 1) := by decide +kernel
theorem dX5_sworn_56 : decode cX5_sworn 56 = .ok (.ifCond .eq 6, 3) := by decide +kernel
theorem dX5_sworn_59 : decode cX5_sworn 59 = .ok (.ldc 130, 2) := by decide +kernel
theorem dX5_sworn_61 : decode cX5_sworn 61 = .ok (.ireturn, 1) := by decide +kernel
theorem dX5_sworn_62 : decode cX5_sworn 62 = .ok (.iconst 0, 1) := by decide +kernel
theorem dX5_sworn_63 : decode cX5_sworn 63 = .ok (.istore 6, 2) := by decide +kernel
theorem dX5_sworn_65 : decode cX5_sworn 65 = .ok (.iconst 0, 1) := by decide +kernel
theorem dX5_sworn_66 : decode cX5_sworn 66 = .ok (.istore 7, 2) := by decide +kernel
theorem dX5_sworn_68 : decode cX5_sworn 68 = .ok (.iload 7, 2) := by decide +kernel
theorem dX5_sworn_70 : decode cX5_sworn 70 = .ok (.bipush 10, 2) := by decide +kernel
theorem dX5_sworn_72 : decode cX5_sworn 72 = .ok (.if_icmp .ge 46, 3) := by decide +kernel
theorem dX5_sworn_75 : decode cX5_sworn 75 = .ok (.aload_n 0, 1) := by decide +kernel
theorem dX5_sworn_76 : decode cX5_sworn 76 = .ok (.invokevirtual 164, 3) := by decide +kernel
theorem dX5_sworn_79 : decode cX5_sworn 79 = .ok (.aload_n 0, 1) := by decide +kernel
theorem dX5_sworn_80 : decode cX5_sworn 80 = .ok (.getfield 28, 3) := by decide +kernel
theorem dX5_sworn_83 : decode cX5_sworn 83 = .ok (.bipush 14, 2) := by decide +kernel
theorem dX5_sworn_85 : decode cX5_sworn 85 = .ok (.iload_n 1, 1) := by decide +kernel
theorem dX5_sworn_86 : decode cX5_sworn 86 = .ok (.iadd, 1) := by decide +kernel
theorem dX5_sworn_87 : decode cX5_sworn 87 = .ok (.iload 7, 2) := by decide +kernel
theorem dX5_sworn_89 : decode cX5_sworn 89 = .ok (.iastore, 1) := by decide +kernel
theorem dX5_sworn_90 : decode cX5_sworn 90 = .ok (.iload 6, 2) := by decide +kernel
theorem dX5_sworn_92 : decode cX5_sworn 92 = .ok (.aload_n 0, 1) := by decide +kernel
theorem dX5_sworn_93 : decode cX5_sworn 93 = .ok (.iload 4, 2) := by decide +kernel
theorem dX5_sworn_95 : decode cX5_sworn 95 = .ok (.invokevirtual 181, 3) := by decide +kernel
theorem dX5_sworn_98 : decode cX5_sworn 98 = .ok (.ifCond .eq 10, 3) := by decide +kernel
theorem dX5_sworn_101 : decode cX5_sworn 101 = .ok (.iconst 1, 1) := by decide +kernel
theorem dX5_sworn_102 : decode cX5_sworn 102 = .ok (.iload 7, 2) := by decide +kernel
theorem dX5_sworn_104 : decode cX5_sworn 104 = .ok (.ishl, 1) := by decide +kernel
theorem dX5_sworn_105 : decode cX5_sworn 105 = .ok (.goto 4, 3) := by decide +kernel
theorem dX5_sworn_108 : decode cX5_sworn 108 = .ok (.iconst 0, 1) := by decide +kernel
theorem dX5_sworn_109 : decode cX5_sworn 109 = .ok (.ior, 1) := by decide +kernel
theorem dX5_sworn_110 : decode cX5_sworn 110 = .ok (.istore 6, 2) := by decide +kernel
theorem dX5_sworn_112 : decode cX5_sworn 112 = .ok (.iinc 7 1, 3) := by decide +kernel
theorem dX5_sworn_115 : decode cX5_sworn 115 = .ok (.goto (-47), 3) := by decide +kernel
theorem dX5_sworn_118 : decode cX5_sworn 118 = .ok (.aload_n 0, 1) := by decide +kernel
theorem dX5_sworn_119 : decode cX5_sworn 119 = .ok (.iload 6, 2) := by decide +kernel
theorem dX5_sworn_121 : decode cX5_sworn 121 = .ok (.invokevirtual 68, 3) := by decide +kernel
theorem dX5_sworn_124 : decode cX5_sworn 124 = .ok (.ireturn, 1) := by decide +kernel
set_option maxRecDepth 20000 in
theorem ggX5_who_X5_isOne : GoodIn wsX5_who wsX5_isOne := goodIn_r _ [7, 8, 9, 10, 6, 11, 62, 63, 64, 65, 66, 67, 68, 69, 70, 71, 72, 73, 74, 75, 76, 77, 78, 79, 80, 81, 82, 83, 84] (by decide +kernel) (by decide +kernel)
set_option maxRecDepth 20000 in
theorem gX5_who_X5_isOne : GoodIn wsX5_who (wsV RX5 154 RX5 yX5_isOne wsX5_isOne) := goodIn_app (goodIn_of _ (by decide +kernel)) ggX5_who_X5_isOne
set_option maxRecDepth 20000 in
theorem ggX5_who_X5_isRow : GoodIn wsX5_who wsX5_isRow := goodIn_r _ [14, 9, 10, 6, 11] (by decide +kernel) (by decide +kernel)
set_option maxRecDepth 20000 in
theorem gX5_who_X5_isRow : GoodIn wsX5_who (va_wsS RX5 59 yX5_isRow wsX5_isRow) := goodIn_app (goodIn_of _ (by decide +kernel)) ggX5_who_X5_isRow
set_option maxRecDepth 20000 in
theorem ggX5_who_X5_in : GoodIn wsX5_who wsX5_in := goodIn_r _ [11] (by decide +kernel) (by decide +kernel)
set_option maxRecDepth 20000 in
theorem gX5_who_X5_in : GoodIn wsX5_who (va_wsS RX5 50 yX5_in wsX5_in) := goodIn_app (goodIn_of _ (by decide +kernel)) ggX5_who_X5_in
set_option maxRecDepth 20000 in
theorem ggX5_who_X5_takeOut : GoodIn wsX5_who wsX5_takeOut := goodIn_r _ [18, 19, 20, 21, 22, 23, 24, 25, 6, 26, 27, 28, 29, 30, 31, 62, 63, 64, 65, 66, 67, 68, 69, 70, 71, 72, 73, 74, 75, 76, 77, 78, 79, 80, 81, 82, 83, 84] (by decide +kernel) (by decide +kernel)
set_option maxRecDepth 20000 in
theorem gX5_who_X5_takeOut : GoodIn wsX5_who (wsV RX5 177 RX5 yX5_takeOut wsX5_takeOut) := goodIn_app (goodIn_of _ (by decide +kernel)) ggX5_who_X5_takeOut
set_option maxRecDepth 20000 in
theorem ggX5_who_X5_begin : GoodIn wsX5_who wsX5_begin := goodIn_r _ [35, 8, 2, 36, 37, 6, 38, 62, 63, 64, 65, 66, 67, 68, 69, 70, 71, 72, 73, 74, 75, 76, 77, 78, 79, 80, 81, 82, 83, 84] (by decide +kernel) (by decide +kernel)
set_option maxRecDepth 20000 in
theorem gX5_who_X5_begin : GoodIn wsX5_who (wsV RX5 164 RX5 yX5_begin wsX5_begin) := goodIn_app (goodIn_of _ (by decide +kernel)) ggX5_who_X5_begin
set_option maxRecDepth 20000 in
theorem ggX5_who_X5_isSo : GoodIn wsX5_who wsX5_isSo := goodIn_r _ [42, 2, 21, 43, 44, 6, 45, 46, 47, 48, 49, 50, 51, 52, 53, 54, 55, 56, 57, 62, 63, 64, 65, 66, 67, 68, 69, 70, 71, 72, 73, 74, 75, 76, 77, 78, 79, 80, 81, 82, 83, 84] (by decide +kernel) (by decide +kernel)
set_option maxRecDepth 20000 in
theorem gX5_who_X5_isSo : GoodIn wsX5_who (wsV RX5 181 RX5 yX5_isSo wsX5_isSo) := goodIn_app (goodIn_of _ (by decide +kernel)) ggX5_who_X5_isSo
set_option maxRecDepth 20000 in
theorem ggX5_who_X5_done : GoodIn wsX5_who wsX5_done := goodIn_r _ [61, 27, 62, 63, 64, 65, 66, 67, 68, 69, 70, 71, 72, 73, 74, 75, 76, 77, 78, 79, 80, 81, 82, 83, 84] (by decide +kernel) (by decide +kernel)
set_option maxRecDepth 20000 in
theorem gX5_who_X5_done : GoodIn wsX5_who (wsV RX5 68 RX5 yX5_done wsX5_done) := goodIn_app (goodIn_of _ (by decide +kernel)) ggX5_who_X5_done
theorem dX5_who_0 : decode cX5_who 0 = .ok (.aload_n 0, 1) := by decide +kernel
theorem dX5_who_1 : decode cX5_who 1 = .ok (.iload_n 1, 1) := by decide +kernel
theorem dX5_who_2 : decode cX5_who 2 = .ok (.invokevirtual 154, 3) := by decide +kernel
theorem dX5_who_5 : decode cX5_who 5 = .ok (.ifCond .eq 21, 3) := by decide +kernel
theorem dX5_who_8 : decode cX5_who 8 = .ok (.iload_n 2, 1) := by decide +kernel
theorem dX5_who_9 : decode cX5_who 9 = .ok (.invokestatic 59, 3) := by decide +kernel
theorem dX5_who_12 : decode cX5_who 12 = .ok (.ifCond .eq 14, 3) := by decide +kernel
theorem dX5_who_15 : decode cX5_who 15 = .ok (.iload 4, 2) := by decide +kernel
theorem dX5_who_17 : decode cX5_who 17 = .ok (.iconst 1, 1) := by decide +kernel
theorem dX5_who_18 : decode cX5_who 18 = .ok (.bipush 12, 2) := by decide +kernel
theorem dX5_who_20 : decode cX5_who 20 = .ok (.invokestatic 50, 3) := by decide +kernel
theorem dX5_who_23 : decode cX5_who 23 = .ok (.ifCond .ne 6, 3) := by decide +kernel
theorem dX5_who_26 : decode cX5_who 26 = .ok (.ldc 63, 2) := by decide +kernel
theorem dX5_who_28 : decode cX5_who 28 = .ok (.ireturn, 1) := by decide +kernel
theorem dX5_who_29 : decode cX5_who 29 = .ok (.aload_n 0, 1) := by decide +kernel
theorem dX5_who_30 : decode cX5_who 30 = .ok (.iload_n 2, 1) := by decide +kernel
theorem dX5_who_31 : decode cX5_who 31 = .ok (.iload_n 3, 1) := by decide +kernel
theorem dX5_who_32 : decode cX5_who 32 = .ok (.iload 4, 2) := by decide +kernel
theorem dX5_who_34 : decode cX5_who 34 = .ok (.invokevirtual 177, 3) := by decide +kernel
theorem dX5_who_37 : decode cX5_who 37 = .ok (.istore 5, 2) := by decide +kernel
theorem dX5_who_39 : decode cX5_who 39 = .ok (.iload 5, 2) := by decide +kernel
theorem dX5_who_41 : decode cX5_who 41 = .ok (.ifCond .ge 6, 3) := by decide +kernel
theorem dX5_who_44 : decode cX5_who 44 = .ok (.iload 5, 2) := by decide +kernel
theorem dX5_who_46 : decode cX5_who 46 = .ok (.ireturn, 1) := by decide +kernel
theorem dX5_who_47 : decode cX5_who 47 = .ok (.iconst 0, 1) := by decide +kernel
theorem dX5_who_48 : decode cX5_who 48 = .ok (.istore 6, 2) := by decide +kernel
theorem dX5_who_50 : decode cX5_who 50 = .ok (.iconst 1, 1) := by decide +kernel
theorem dX5_who_51 : decode cX5_who 51 = .ok (.istore 7, 2) := by decide +kernel
theorem dX5_who_53 : decode cX5_who 53 = .ok (.iload 7, 2) := by decide +kernel
theorem dX5_who_55 : decode cX5_who 55 = .ok (.iconst 5, 1) := by decide +kernel
theorem dX5_who_56 : decode cX5_who 56 = .ok (.if_icmp .gt 46, 3) := by decide +kernel
theorem dX5_who_59 : decode cX5_who 59 = .ok (.aload_n 0, 1) := by decide +kernel
theorem dX5_who_60 : decode cX5_who 60 = .ok (.invokevirtual 164, 3) := by decide +kernel
theorem dX5_who_63 : decode cX5_who 63 = .ok (.aload_n 0, 1) := by decide +kernel
theorem dX5_who_64 : decode cX5_who 64 = .ok (.getfield 28, 3) := by decide +kernel
theorem dX5_who_67 : decode cX5_who 67 = .ok (.bipush 7, 2) := by decide +kernel
theorem dX5_who_69 : decode cX5_who 69 = .ok (.iload_n 1, 1) := by decide +kernel
theorem dX5_who_70 : decode cX5_who 70 = .ok (.iadd, 1) := by decide +kernel
theorem dX5_who_71 : decode cX5_who 71 = .ok (.iload 7, 2) := by decide +kernel
theorem dX5_who_73 : decode cX5_who 73 = .ok (.iastore, 1) := by decide +kernel
theorem dX5_who_74 : decode cX5_who 74 = .ok (.iload 6, 2) := by decide +kernel
theorem dX5_who_76 : decode cX5_who 76 = .ok (.aload_n 0, 1) := by decide +kernel
theorem dX5_who_77 : decode cX5_who 77 = .ok (.iload 4, 2) := by decide +kernel
theorem dX5_who_79 : decode cX5_who 79 = .ok (.invokevirtual 181, 3) := by decide +kernel
theorem dX5_who_82 : decode cX5_who 82 = .ok (.ifCond .eq 10, 3) := by decide +kernel
theorem dX5_who_85 : decode cX5_who 85 = .ok (.iconst 1, 1) := by decide +kernel
theorem dX5_who_86 : decode cX5_who 86 = .ok (.iload 7, 2) := by decide +kernel
theorem dX5_who_88 : decode cX5_who 88 = .ok (.ishl, 1) := by decide +kernel
theorem dX5_who_89 : decode cX5_who 89 = .ok (.goto 4, 3) := by decide +kernel
theorem dX5_who_92 : decode cX5_who 92 = .ok (.iconst 0, 1) := by decide +kernel
theorem dX5_who_93 : decode cX5_who 93 = .ok (.ior, 1) := by decide +kernel
theorem dX5_who_94 : decode cX5_who 94 = .ok (.istore 6, 2) := by decide +kernel
theorem dX5_who_96 : decode cX5_who 96 = .ok (.iinc 7 1, 3) := by decide +kernel
theorem dX5_who_99 : decode cX5_who 99 = .ok (.goto (-46), 3) := by decide +kernel
theorem dX5_who_102 : decode cX5_who 102 = .ok (.aload_n 0, 1) := by decide +kernel
theorem dX5_who_103 : decode cX5_who 103 = .ok (.iload 6, 2) := by decide +kernel
theorem dX5_who_105 : decode cX5_who 105 = .ok (.invokevirtual 68, 3) := by decide +kernel
theorem dX5_who_108 : decode cX5_who 108 = .ok (.ireturn, 1) := by decide +kernel
set_option maxRecDepth 20000 in
theorem ggX5_late_X5_isRoute : GoodIn wsX5_late wsX5_isRoute := goodIn_r _ [9, 4, 13, 14, 15, 16, 17, 18, 19, 20, 21, 22, 23, 24, 25, 26, 27, 28, 29, 30, 31, 32, 33, 34, 35] (by decide +kernel) (by decide +kernel)
set_option maxRecDepth 20000 in
theorem gX5_late_X5_isRoute : GoodIn wsX5_late (wsV RX5 144 RX5 yX5_isRoute wsX5_isRoute) := goodIn_app (goodIn_of _ (by decide +kernel)) ggX5_late_X5_isRoute
set_option maxRecDepth 20000 in
theorem ggX5_late_X5_in : GoodIn wsX5_late wsX5_in := goodIn_r _ [12] (by decide +kernel) (by decide +kernel)
set_option maxRecDepth 20000 in
theorem gX5_late_X5_in : GoodIn wsX5_late (va_wsS RX5 50 yX5_in wsX5_in) := goodIn_app (goodIn_of _ (by decide +kernel)) ggX5_late_X5_in
theorem dX5_late_0 : decode cX5_late 0 = .ok (.aload_n 0, 1) := by decide +kernel
theorem dX5_late_1 : decode cX5_late 1 = .ok (.invokevirtual 144, 3) := by decide +kernel
theorem dX5_late_4 : decode cX5_late 4 = .ok (.ifCond .ne 6, 3) := by decide +kernel
theorem dX5_late_7 : decode cX5_late 7 = .ok (.ldc 130, 2) := by decide +kernel
theorem dX5_late_9 : decode cX5_late 9 = .ok (.ireturn, 1) := by decide +kernel
theorem dX5_late_10 : decode cX5_late 10 = .ok (.iload_n 1, 1) := by decide +kernel
theorem dX5_late_11 : decode cX5_late 11 = .ok (.iconst 0, 1) := by decide +kernel
theorem dX5_late_12 : decode cX5_late 12 = .ok (.iconst 1, 1) := by decide +kernel
theorem dX5_late_13 : decode cX5_late 13 = .ok (.invokestatic 50, 3) := by decide +kernel
theorem dX5_late_16 : decode cX5_late 16 = .ok (.ifCond .ne 6, 3) := by decide +kernel
theorem dX5_late_19 : decode cX5_late 19 = .ok (.ldc 63, 2) := by decide +kernel
theorem dX5_late_21 : decode cX5_late 21 = .ok (.ireturn, 1) := by decide +kernel
theorem dX5_late_22 : decode cX5_late 22 = .ok (.iconst 0, 1) := by decide +kernel
theorem dX5_late_23 : decode cX5_late 23 = .ok (.istore_n 2, 1) := by decide +kernel
theorem dX5_late_24 : decode cX5_late 24 = .ok (.ldc 163, 2) := by decide +kernel
theorem dX5_late_26 : decode cX5_late 26 = .ok (.istore_n 3, 1) := by decide +kernel
theorem dX5_late_27 : decode cX5_late 27 = .ok (.iconst 0, 1) := by decide +kernel
theorem dX5_late_28 : decode cX5_late 28 = .ok (.istore 4, 2) := by decide +kernel
theorem dX5_late_30 : decode cX5_late 30 = .ok (.iload 4, 2) := by decide +kernel
theorem dX5_late_32 : decode cX5_late 32 = .ok (.aload_n 0, 1) := by decide +kernel
theorem dX5_late_33 : decode cX5_late 33 = .ok (.getfield 22, 3) := by decide +kernel
theorem dX5_late_36 : decode cX5_late 36 = .ok (.iconst 2, 1) := by decide +kernel
theorem dX5_late_37 : decode cX5_late 37 = .ok (.iaload, 1) := by decide +kernel
theorem dX5_late_38 : decode cX5_late 38 = .ok (.if_icmp .ge 71, 3) := by decide +kernel
theorem dX5_late_41 : decode cX5_late 41 = .ok (.aload_n 0, 1) := by decide +kernel
theorem dX5_late_42 : decode cX5_late 42 = .ok (.getfield 22, 3) := by decide +kernel
theorem dX5_late_45 : decode cX5_late 45 = .ok (.bipush 35, 2) := by decide +kernel
theorem dX5_late_47 : decode cX5_late 47 = .ok (.iload 4, 2) := by decide +kernel
theorem dX5_late_49 : decode cX5_late 49 = .ok (.iadd, 1) := by decide +kernel
theorem dX5_late_50 : decode cX5_late 50 = .ok (.iaload, 1) := by decide +kernel
theorem dX5_late_51 : decode cX5_late 51 = .ok (.ifCond .ne 23, 3) := by decide +kernel
theorem dX5_late_54 : decode cX5_late 54 = .ok (.aload_n 0, 1) := by decide +kernel
theorem dX5_late_55 : decode cX5_late 55 = .ok (.getfield 22, 3) := by decide +kernel
theorem dX5_late_58 : decode cX5_late 58 = .ok (.iconst 3, 1) := by decide +kernel
theorem dX5_late_59 : decode cX5_late 59 = .ok (.iaload, 1) := by decide +kernel
theorem dX5_late_60 : decode cX5_late 60 = .ok (.aload_n 0, 1) := by decide +kernel
theorem dX5_late_61 : decode cX5_late 61 = .ok (.getfield 22, 3) := by decide +kernel
theorem dX5_late_64 : decode cX5_late 64 = .ok (.bipush 28, 2) := by decide +kernel
theorem dX5_late_66 : decode cX5_late 66 = .ok (.iload 4, 2) := by decide +kernel
theorem dX5_late_68 : decode cX5_late 68 = .ok (.iadd, 1) := by decide +kernel
theorem dX5_late_69 : decode cX5_late 69 = .ok (.iaload, 1) := by decide +kernel
theorem dX5_late_70 : decode cX5_late 70 = .ok (.isub, 1) := by decide +kernel
theorem dX5_late_71 : decode cX5_late 71 = .ok (.goto 4, 3) := by decide +kernel
theorem dX5_late_74 : decode cX5_late 74 = .ok (.iconst 0, 1) := by decide +kernel
theorem dX5_late_75 : decode cX5_late 75 = .ok (.istore 5, 2) := by decide +kernel
theorem dX5_late_77 : decode cX5_late 77 = .ok (.iload 5, 2) := by decide +kernel
theorem dX5_late_79 : decode cX5_late 79 = .ok (.iload_n 2, 1) := by decide +kernel
theorem dX5_late_80 : decode cX5_late 80 = .ok (.if_icmp .le 8, 3) := by decide +kernel
theorem dX5_late_83 : decode cX5_late 83 = .ok (.iload 4, 2) := by decide +kernel
theorem dX5_late_85 : decode cX5_late 85 = .ok (.goto 4, 3) := by decide +kernel
theorem dX5_late_88 : decode cX5_late 88 = .ok (.iload_n 3, 1) := by decide +kernel
theorem dX5_late_89 : decode cX5_late 89 = .ok (.istore_n 3, 1) := by decide +kernel
theorem dX5_late_90 : decode cX5_late 90 = .ok (.iload 5, 2) := by decide +kernel
theorem dX5_late_92 : decode cX5_late 92 = .ok (.iload_n 2, 1) := by decide +kernel
theorem dX5_late_93 : decode cX5_late 93 = .ok (.if_icmp .le 8, 3) := by decide +kernel
theorem dX5_late_96 : decode cX5_late 96 = .ok (.iload 5, 2) := by decide +kernel
theorem dX5_late_98 : decode cX5_late 98 = .ok (.goto 4, 3) := by decide +kernel
theorem dX5_late_101 : decode cX5_late 101 = .ok (.iload_n 2, 1) := by decide +kernel
theorem dX5_late_102 : decode cX5_late 102 = .ok (.istore_n 2, 1) := by decide +kernel
theorem dX5_late_103 : decode cX5_late 103 = .ok (.iinc 4 1, 3) := by decide +kernel
theorem dX5_late_106 : decode cX5_late 106 = .ok (.goto (-76), 3) := by decide +kernel
theorem dX5_late_109 : decode cX5_late 109 = .ok (.iload_n 3, 1) := by decide +kernel
theorem dX5_late_110 : decode cX5_late 110 = .ok (.ldc 163, 2) := by decide +kernel
theorem dX5_late_112 : decode cX5_late 112 = .ok (.if_icmp .eq 8, 3) := by decide +kernel
theorem dX5_late_115 : decode cX5_late 115 = .ok (.iload_n 1, 1) := by decide +kernel
theorem dX5_late_116 : decode cX5_late 116 = .ok (.iconst 1, 1) := by decide +kernel
theorem dX5_late_117 : decode cX5_late 117 = .ok (.if_icmp .ne 7, 3) := by decide +kernel
theorem dX5_late_120 : decode cX5_late 120 = .ok (.iload_n 3, 1) := by decide +kernel
theorem dX5_late_121 : decode cX5_late 121 = .ok (.goto 4, 3) := by decide +kernel
theorem dX5_late_124 : decode cX5_late 124 = .ok (.iload_n 2, 1) := by decide +kernel
theorem dX5_late_125 : decode cX5_late 125 = .ok (.ireturn, 1) := by decide +kernel
set_option maxRecDepth 20000 in
theorem ggX5_lies_X5_isRoute : GoodIn wsX5_lies wsX5_isRoute := goodIn_r _ [9, 3, 31, 32, 33, 34, 35, 36, 37, 38, 39, 40, 41, 42, 43, 44, 45, 46, 47, 48, 49, 50, 51, 52, 53] (by decide +kernel) (by decide +kernel)
set_option maxRecDepth 20000 in
theorem gX5_lies_X5_isRoute : GoodIn wsX5_lies (wsV RX5 144 RX5 yX5_isRoute wsX5_isRoute) := goodIn_app (goodIn_of _ (by decide +kernel)) ggX5_lies_X5_isRoute
set_option maxRecDepth 20000 in
theorem ggX5_lies_X5_in : GoodIn wsX5_lies wsX5_in := goodIn_r _ [12] (by decide +kernel) (by decide +kernel)
set_option maxRecDepth 20000 in
theorem gX5_lies_X5_in : GoodIn wsX5_lies (va_wsS RX5 50 yX5_in wsX5_in) := goodIn_app (goodIn_of _ (by decide +kernel)) ggX5_lies_X5_in
set_option maxRecDepth 20000 in
theorem ggX5_lies_X5_openOf : GoodIn wsX5_lies wsX5_openOf := goodIn_r _ [15] (by decide +kernel) (by decide +kernel)
set_option maxRecDepth 20000 in
theorem gX5_lies_X5_openOf : GoodIn wsX5_lies (va_wsS RX5 157 yX5_openOf wsX5_openOf) := goodIn_app (goodIn_of _ (by decide +kernel)) ggX5_lies_X5_openOf
set_option maxRecDepth 20000 in
theorem ggX5_lies_X5_bits : GoodIn wsX5_lies wsX5_bits := goodIn_r _ [18] (by decide +kernel) (by decide +kernel)
set_option maxRecDepth 20000 in
theorem gX5_lies_X5_bits : GoodIn wsX5_lies (va_wsS RX5 160 yX5_bits wsX5_bits) := goodIn_app (goodIn_of _ (by decide +kernel)) ggX5_lies_X5_bits
set_option maxRecDepth 20000 in
theorem ggX5_lies_X5_has : GoodIn wsX5_lies wsX5_has := goodIn_r _ [21] (by decide +kernel) (by decide +kernel)
set_option maxRecDepth 20000 in
theorem gX5_lies_X5_has : GoodIn wsX5_lies (va_wsS RX5 131 yX5_has wsX5_has) := goodIn_app (goodIn_of _ (by decide +kernel)) ggX5_lies_X5_has
set_option maxRecDepth 20000 in
theorem ggX5_lies_X5_pullerOf : GoodIn wsX5_lies wsX5_pullerOf := goodIn_r _ [24, 19, 20, 8, 21, 25, 26, 27] (by decide +kernel) (by decide +kernel)
set_option maxRecDepth 20000 in
theorem gX5_lies_X5_pullerOf : GoodIn wsX5_lies (va_wsS RX5 138 yX5_pullerOf wsX5_pullerOf) := goodIn_app (goodIn_of _ (by decide +kernel)) ggX5_lies_X5_pullerOf
set_option maxRecDepth 20000 in
theorem ggX5_lies_X5_towards : GoodIn wsX5_lies wsX5_towards := goodIn_r _ [30] (by decide +kernel) (by decide +kernel)
set_option maxRecDepth 20000 in
theorem gX5_lies_X5_towards : GoodIn wsX5_lies (va_wsS RX5 141 yX5_towards wsX5_towards) := goodIn_app (goodIn_of _ (by decide +kernel)) ggX5_lies_X5_towards
theorem dX5_lies_0 : decode cX5_lies 0 = .ok (.aload_n 0, 1) := by decide +kernel
theorem dX5_lies_1 : decode cX5_lies 1 = .ok (.invokevirtual 144, 3) := by decide +kernel
theorem dX5_lies_4 : decode cX5_lies 4 = .ok (.ifCond .ne 7, 3) := by decide +kernel
theorem dX5_lies_7 : decode cX5_lies 7 = .ok (.ldc2_w 184, 3) := by decide +kernel
theorem dX5_lies_10 : decode cX5_lies 10 = .ok (.lreturn, 1) := by decide +kernel
theorem dX5_lies_11 : decode cX5_lies 11 = .ok (.iload_n 1, 1) := by decide +kernel
theorem dX5_lies_12 : decode cX5_lies 12 = .ok (.iconst 0, 1) := by decide +kernel
theorem dX5_lies_13 : decode cX5_lies 13 = .ok (.bipush 9, 2) := by decide +kernel
theorem dX5_lies_15 : decode cX5_lies 15 = .ok (.invokestatic 50, 3) := by decide +kernel
theorem dX5_lies_18 : decode cX5_lies 18 = .ok (.ifCond .eq 22, 3) := by decide +kernel
theorem dX5_lies_21 : decode cX5_lies 21 = .ok (.iload_n 2, 1) := by decide +kernel
theorem dX5_lies_22 : decode cX5_lies 22 = .ok (.iconst 0, 1) := by decide +kernel
theorem dX5_lies_23 : decode cX5_lies 23 = .ok (.bipush 10, 2) := by decide +kernel
theorem dX5_lies_25 : decode cX5_lies 25 = .ok (.invokestatic 50, 3) := by decide +kernel
theorem dX5_lies_28 : decode cX5_lies 28 = .ok (.ifCond .eq 12, 3) := by decide +kernel
theorem dX5_lies_31 : decode cX5_lies 31 = .ok (.iload_n 3, 1) := by decide +kernel
theorem dX5_lies_32 : decode cX5_lies 32 = .ok (.iconst 0, 1) := by decide +kernel
theorem dX5_lies_33 : decode cX5_lies 33 = .ok (.iconst 1, 1) := by decide +kernel
theorem dX5_lies_34 : decode cX5_lies 34 = .ok (.invokestatic 50, 3) := by decide +kernel
theorem dX5_lies_37 : decode cX5_lies 37 = .ok (.ifCond .ne 7, 3) := by decide +kernel
theorem dX5_lies_40 : decode cX5_lies 40 = .ok (.ldc2_w 186, 3) := by decide +kernel
theorem dX5_lies_43 : decode cX5_lies 43 = .ok (.lreturn, 1) := by decide +kernel
theorem dX5_lies_44 : decode cX5_lies 44 = .ok (.aload_n 0, 1) := by decide +kernel
theorem dX5_lies_45 : decode cX5_lies 45 = .ok (.getfield 22, 3) := by decide +kernel
theorem dX5_lies_48 : decode cX5_lies 48 = .ok (.invokestatic 157, 3) := by decide +kernel
theorem dX5_lies_51 : decode cX5_lies 51 = .ok (.istore 4, 2) := by decide +kernel
theorem dX5_lies_53 : decode cX5_lies 53 = .ok (.lconst 0, 1) := by decide +kernel
theorem dX5_lies_54 : decode cX5_lies 54 = .ok (.lstore 5, 2) := by decide +kernel
theorem dX5_lies_56 : decode cX5_lies 56 = .ok (.lconst 1, 1) := by decide +kernel
theorem dX5_lies_57 : decode cX5_lies 57 = .ok (.lstore 7, 2) := by decide +kernel
theorem dX5_lies_59 : decode cX5_lies 59 = .ok (.iconst 0, 1) := by decide +kernel
theorem dX5_lies_60 : decode cX5_lies 60 = .ok (.istore 9, 2) := by decide +kernel
theorem dX5_lies_62 : decode cX5_lies 62 = .ok (.iload 9, 2) := by decide +kernel
theorem dX5_lies_64 : decode cX5_lies 64 = .ok (.iload 4, 2) := by decide +kernel
theorem dX5_lies_66 : decode cX5_lies 66 = .ok (.invokestatic 160, 3) := by decide +kernel
theorem dX5_lies_69 : decode cX5_lies 69 = .ok (.if_icmp .ge 17, 3) := by decide +kernel
theorem dX5_lies_72 : decode cX5_lies 72 = .ok (.lload 7, 2) := by decide +kernel
theorem dX5_lies_74 : decode cX5_lies 74 = .ok (.ldc2_w 188, 3) := by decide +kernel
theorem dX5_lies_77 : decode cX5_lies 77 = .ok (.lmul, 1) := by decide +kernel
theorem dX5_lies_78 : decode cX5_lies 78 = .ok (.lstore 7, 2) := by decide +kernel
theorem dX5_lies_80 : decode cX5_lies 80 = .ok (.iinc 9 1, 3) := by decide +kernel
theorem dX5_lies_83 : decode cX5_lies 83 = .ok (.goto (-21), 3) := by decide +kernel
theorem dX5_lies_86 : decode cX5_lies 86 = .ok (.iconst 0, 1) := by decide +kernel
theorem dX5_lies_87 : decode cX5_lies 87 = .ok (.istore 9, 2) := by decide +kernel
theorem dX5_lies_89 : decode cX5_lies 89 = .ok (.iload 9, 2) := by decide +kernel
theorem dX5_lies_91 : decode cX5_lies 91 = .ok (.iload 4, 2) := by decide +kernel
theorem dX5_lies_93 : decode cX5_lies 93 = .ok (.if_icmp .gt 112, 3) := by decide +kernel
theorem dX5_lies_96 : decode cX5_lies 96 = .ok (.iload 9, 2) := by decide +kernel
theorem dX5_lies_98 : decode cX5_lies 98 = .ok (.iload 4, 2) := by decide +kernel
theorem dX5_lies_100 : decode cX5_lies 100 = .ok (.iconst (-1), 1) := by decide +kernel
theorem dX5_lies_101 : decode cX5_lies 101 = .ok (.ixor, 1) := by decide +kernel
theorem dX5_lies_102 : decode cX5_lies 102 = .ok (.iand, 1) := by decide +kernel
theorem dX5_lies_103 : decode cX5_lies 103 = .ok (.ifCond .ne 96, 3) := by decide +kernel
theorem dX5_lies_106 : decode cX5_lies 106 = .ok (.lconst 1, 1) := by decide +kernel
theorem dX5_lies_107 : decode cX5_lies 107 = .ok (.lstore 10, 2) := by decide +kernel
theorem dX5_lies_109 : decode cX5_lies 109 = .ok (.iconst 0, 1) := by decide +kernel
theorem dX5_lies_110 : decode cX5_lies 110 = .ok (.istore 12, 2) := by decide +kernel
theorem dX5_lies_112 : decode cX5_lies 112 = .ok (.iload 12, 2) := by decide +kernel
theorem dX5_lies_114 : decode cX5_lies 114 = .ok (.aload_n 0, 1) := by decide +kernel
theorem dX5_lies_115 : decode cX5_lies 115 = .ok (.getfield 22, 3) := by decide +kernel
theorem dX5_lies_118 : decode cX5_lies 118 = .ok (.iconst 2, 1) := by decide +kernel
theorem dX5_lies_119 : decode cX5_lies 119 = .ok (.iaload, 1) := by decide +kernel
theorem dX5_lies_120 : decode cX5_lies 120 = .ok (.if_icmp .ge 48, 3) := by decide +kernel
theorem dX5_lies_123 : decode cX5_lies 123 = .ok (.lload 10, 2) := by decide +kernel
theorem dX5_lies_125 : decode cX5_lies 125 = .ok (.iload 9, 2) := by decide +kernel
theorem dX5_lies_127 : decode cX5_lies 127 = .ok (.iload 12, 2) := by decide +kernel
theorem dX5_lies_129 : decode cX5_lies 129 = .ok (.invokestatic 131, 3) := by decide +kernel
theorem dX5_lies_132 : decode cX5_lies 132 = .ok (.ifCond .eq 8, 3) := by decide +kernel
theorem dX5_lies_135 : decode cX5_lies 135 = .ok (.iload_n 2, 1) := by decide +kernel
theorem dX5_lies_136 : decode cX5_lies 136 = .ok (.i2l, 1) := by decide +kernel
theorem dX5_lies_137 : decode cX5_lies 137 = .ok (.goto 22, 3) := by decide +kernel
theorem dX5_lies_140 : decode cX5_lies 140 = .ok (.iload 4, 2) := by decide +kernel
theorem dX5_lies_142 : decode cX5_lies 142 = .ok (.iload 12, 2) := by decide +kernel
theorem dX5_lies_144 : decode cX5_lies 144 = .ok (.invokestatic 131, 3) := by decide +kernel
theorem dX5_lies_147 : decode cX5_lies 147 = .ok (.ifCond .eq 11, 3) := by decide +kernel
theorem dX5_lies_150 : decode cX5_lies 150 = .ok (.bipush 10, 2) := by decide +kernel
theorem dX5_lies_152 : decode cX5_lies 152 = .ok (.iload_n 2, 1) := by decide +kernel
theorem dX5_lies_153 : decode cX5_lies 153 = .ok (.isub, 1) := by decide +kernel
theorem dX5_lies_154 : decode cX5_lies 154 = .ok (.i2l, 1) := by decide +kernel
theorem dX5_lies_155 : decode cX5_lies 155 = .ok (.goto 4, 3) := by decide +kernel
theorem dX5_lies_158 : decode cX5_lies 158 = .ok (.lconst 1, 1) := by decide +kernel
theorem dX5_lies_159 : decode cX5_lies 159 = .ok (.lmul, 1) := by decide +kernel
theorem dX5_lies_160 : decode cX5_lies 160 = .ok (.lstore 10, 2) := by decide +kernel
theorem dX5_lies_162 : decode cX5_lies 162 = .ok (.iinc 12 1, 3) := by decide +kernel
theorem dX5_lies_165 : decode cX5_lies 165 = .ok (.goto (-53), 3) := by decide +kernel
theorem dX5_lies_168 : decode cX5_lies 168 = .ok (.lload 5, 2) := by decide +kernel
theorem dX5_lies_170 : decode cX5_lies 170 = .ok (.aload_n 0, 1) := by decide +kernel
theorem dX5_lies_171 : decode cX5_lies 171 = .ok (.getfield 22, 3) := by decide +kernel
theorem dX5_lies_174 : decode cX5_lies 174 = .ok (.aload_n 0, 1) := by decide +kernel
theorem dX5_lies_175 : decode cX5_lies 175 = .ok (.getfield 22, 3) := by decide +kernel
theorem dX5_lies_178 : decode cX5_lies 178 = .ok (.iload 9, 2) := by decide +kernel
theorem dX5_lies_180 : decode cX5_lies 180 = .ok (.invokestatic 138, 3) := by decide +kernel
theorem dX5_lies_183 : decode cX5_lies 183 = .ok (.invokestatic 141, 3) := by decide +kernel
theorem dX5_lies_186 : decode cX5_lies 186 = .ok (.iload_n 1, 1) := by decide +kernel
theorem dX5_lies_187 : decode cX5_lies 187 = .ok (.if_icmp .ne 8, 3) := by decide +kernel
theorem dX5_lies_190 : decode cX5_lies 190 = .ok (.lload 10, 2) := by decide +kernel
theorem dX5_lies_192 : decode cX5_lies 192 = .ok (.goto 4, 3) := by decide +kernel
theorem dX5_lies_195 : decode cX5_lies 195 = .ok (.lconst 0, 1) := by decide +kernel
theorem dX5_lies_196 : decode cX5_lies 196 = .ok (.ladd, 1) := by decide +kernel
theorem dX5_lies_197 : decode cX5_lies 197 = .ok (.lstore 5, 2) := by decide +kernel
theorem dX5_lies_199 : decode cX5_lies 199 = .ok (.iinc 9 1, 3) := by decide +kernel
theorem dX5_lies_202 : decode cX5_lies 202 = .ok (.goto (-113), 3) := by decide +kernel
theorem dX5_lies_205 : decode cX5_lies 205 = .ok (.lload 5, 2) := by decide +kernel
theorem dX5_lies_207 : decode cX5_lies 207 = .ok (.lstore 9, 2) := by decide +kernel
theorem dX5_lies_209 : decode cX5_lies 209 = .ok (.lload 7, 2) := by decide +kernel
theorem dX5_lies_211 : decode cX5_lies 211 = .ok (.lstore 11, 2) := by decide +kernel
theorem dX5_lies_213 : decode cX5_lies 213 = .ok (.lload 11, 2) := by decide +kernel
theorem dX5_lies_215 : decode cX5_lies 215 = .ok (.lconst 0, 1) := by decide +kernel
theorem dX5_lies_216 : decode cX5_lies 216 = .ok (.lcmp, 1) := by decide +kernel
theorem dX5_lies_217 : decode cX5_lies 217 = .ok (.ifCond .le 21, 3) := by decide +kernel
theorem dX5_lies_220 : decode cX5_lies 220 = .ok (.lload 9, 2) := by decide +kernel
theorem dX5_lies_222 : decode cX5_lies 222 = .ok (.lload 11, 2) := by decide +kernel
theorem dX5_lies_224 : decode cX5_lies 224 = .ok (.lrem, 1) := by decide +kernel
theorem dX5_lies_225 : decode cX5_lies 225 = .ok (.lstore 13, 2) := by decide +kernel
theorem dX5_lies_227 : decode cX5_lies 227 = .ok (.lload 11, 2) := by decide +kernel
theorem dX5_lies_229 : decode cX5_lies 229 = .ok (.lstore 9, 2) := by decide +kernel
theorem dX5_lies_231 : decode cX5_lies 231 = .ok (.lload 13, 2) := by decide +kernel
theorem dX5_lies_233 : decode cX5_lies 233 = .ok (.lstore 11, 2) := by decide +kernel
theorem dX5_lies_235 : decode cX5_lies 235 = .ok (.goto (-22), 3) := by decide +kernel
theorem dX5_lies_238 : decode cX5_lies 238 = .ok (.iload_n 3, 1) := by decide +kernel
theorem dX5_lies_239 : decode cX5_lies 239 = .ok (.ifCond .ne 8, 3) := by decide +kernel
theorem dX5_lies_242 : decode cX5_lies 242 = .ok (.lload 5, 2) := by decide +kernel
theorem dX5_lies_244 : decode cX5_lies 244 = .ok (.goto 5, 3) := by decide +kernel
theorem dX5_lies_247 : decode cX5_lies 247 = .ok (.lload 7, 2) := by decide +kernel
theorem dX5_lies_249 : decode cX5_lies 249 = .ok (.lload 9, 2) := by decide +kernel
theorem dX5_lies_251 : decode cX5_lies 251 = .ok (.ldiv, 1) := by decide +kernel
theorem dX5_lies_252 : decode cX5_lies 252 = .ok (.lreturn, 1) := by decide +kernel
set_option maxRecDepth 20000 in
theorem ggX5_order_X5_isRoute : GoodIn wsX5_order wsX5_isRoute := goodIn_r _ [10, 4, 33, 34, 35, 36, 37, 38, 39, 40, 41, 42, 43, 44, 45, 46, 47, 48, 49, 50, 51, 52, 53, 54, 55] (by decide +kernel) (by decide +kernel)
set_option maxRecDepth 20000 in
theorem gX5_order_X5_isRoute : GoodIn wsX5_order (wsV RX5 144 RX5 yX5_isRoute wsX5_isRoute) := goodIn_app (goodIn_of _ (by decide +kernel)) ggX5_order_X5_isRoute
set_option maxRecDepth 20000 in
theorem ggX5_order_X5_begin : GoodIn wsX5_order wsX5_begin := goodIn_r _ [14, 4, 3, 15, 16, 9, 17, 33, 34, 35, 36, 37, 38, 39, 40, 41, 42, 43, 44, 45, 46, 47, 48, 49, 50, 51, 52, 53, 54, 55] (by decide +kernel) (by decide +kernel)
set_option maxRecDepth 20000 in
theorem gX5_order_X5_begin : GoodIn wsX5_order (wsV RX5 164 RX5 yX5_begin wsX5_begin) := goodIn_app (goodIn_of _ (by decide +kernel)) ggX5_order_X5_begin
set_option maxRecDepth 20000 in
theorem ggX5_order_X5_pass : GoodIn wsX5_order wsX5_pass := goodIn_r _ [20, 21, 22, 9, 23, 24, 25, 26, 27, 28, 29, 30, 31, 32] (by decide +kernel) (by decide +kernel)
set_option maxRecDepth 20000 in
theorem gX5_order_X5_pass : GoodIn wsX5_order (va_wsS RX5 150 yX5_pass wsX5_pass) := goodIn_app (goodIn_of _ (by decide +kernel)) ggX5_order_X5_pass
set_option maxRecDepth 20000 in
theorem ggX5_order_X5_has : GoodIn wsX5_order wsX5_has := goodIn_r _ [26] (by decide +kernel) (by decide +kernel)
set_option maxRecDepth 20000 in
theorem gX5_order_X5_has : GoodIn wsX5_order (va_wsS RX5 131 yX5_has wsX5_has) := goodIn_app (goodIn_of _ (by decide +kernel)) ggX5_order_X5_has
theorem dX5_order_0 : decode cX5_order 0 = .ok (.aload_n 0, 1) := by decide +kernel
theorem dX5_order_1 : decode cX5_order 1 = .ok (.invokevirtual 144, 3) := by decide +kernel
theorem dX5_order_4 : decode cX5_order 4 = .ok (.ifCond .ne 6, 3) := by decide +kernel
theorem dX5_order_7 : decode cX5_order 7 = .ok (.ldc 130, 2) := by decide +kernel
theorem dX5_order_9 : decode cX5_order 9 = .ok (.ireturn, 1) := by decide +kernel
theorem dX5_order_10 : decode cX5_order 10 = .ok (.iload_n 1, 1) := by decide +kernel
theorem dX5_order_11 : decode cX5_order 11 = .ok (.ifCond .ge 6, 3) := by decide +kernel
theorem dX5_order_14 : decode cX5_order 14 = .ok (.ldc 63, 2) := by decide +kernel
theorem dX5_order_16 : decode cX5_order 16 = .ok (.ireturn, 1) := by decide +kernel
theorem dX5_order_17 : decode cX5_order 17 = .ok (.aload_n 0, 1) := by decide +kernel
theorem dX5_order_18 : decode cX5_order 18 = .ok (.invokevirtual 164, 3) := by decide +kernel
theorem dX5_order_21 : decode cX5_order 21 = .ok (.iload_n 1, 1) := by decide +kernel
theorem dX5_order_22 : decode cX5_order 22 = .ok (.istore_n 2, 1) := by decide +kernel
theorem dX5_order_23 : decode cX5_order 23 = .ok (.iconst 0, 1) := by decide +kernel
theorem dX5_order_24 : decode cX5_order 24 = .ok (.istore_n 3, 1) := by decide +kernel
theorem dX5_order_25 : decode cX5_order 25 = .ok (.iload_n 3, 1) := by decide +kernel
theorem dX5_order_26 : decode cX5_order 26 = .ok (.bipush 60, 2) := by decide +kernel
theorem dX5_order_28 : decode cX5_order 28 = .ok (.if_icmp .ge 58, 3) := by decide +kernel
theorem dX5_order_31 : decode cX5_order 31 = .ok (.aload_n 0, 1) := by decide +kernel
theorem dX5_order_32 : decode cX5_order 32 = .ok (.getfield 28, 3) := by decide +kernel
theorem dX5_order_35 : decode cX5_order 35 = .ok (.invokestatic 150, 3) := by decide +kernel
theorem dX5_order_38 : decode cX5_order 38 = .ok (.istore 4, 2) := by decide +kernel
theorem dX5_order_40 : decode cX5_order 40 = .ok (.iconst 0, 1) := by decide +kernel
theorem dX5_order_41 : decode cX5_order 41 = .ok (.istore 5, 2) := by decide +kernel
theorem dX5_order_43 : decode cX5_order 43 = .ok (.iload 5, 2) := by decide +kernel
theorem dX5_order_45 : decode cX5_order 45 = .ok (.aload_n 0, 1) := by decide +kernel
theorem dX5_order_46 : decode cX5_order 46 = .ok (.getfield 22, 3) := by decide +kernel
theorem dX5_order_49 : decode cX5_order 49 = .ok (.iconst 2, 1) := by decide +kernel
theorem dX5_order_50 : decode cX5_order 50 = .ok (.iaload, 1) := by decide +kernel
theorem dX5_order_51 : decode cX5_order 51 = .ok (.if_icmp .ge 29, 3) := by decide +kernel
theorem dX5_order_54 : decode cX5_order 54 = .ok (.iload 4, 2) := by decide +kernel
theorem dX5_order_56 : decode cX5_order 56 = .ok (.iload 5, 2) := by decide +kernel
theorem dX5_order_58 : decode cX5_order 58 = .ok (.invokestatic 131, 3) := by decide +kernel
theorem dX5_order_61 : decode cX5_order 61 = .ok (.ifCond .eq 13, 3) := by decide +kernel
theorem dX5_order_64 : decode cX5_order 64 = .ok (.iload_n 2, 1) := by decide +kernel
theorem dX5_order_65 : decode cX5_order 65 = .ok (.ifCond .ne 6, 3) := by decide +kernel
theorem dX5_order_68 : decode cX5_order 68 = .ok (.iload 5, 2) := by decide +kernel
theorem dX5_order_70 : decode cX5_order 70 = .ok (.ireturn, 1) := by decide +kernel
theorem dX5_order_71 : decode cX5_order 71 = .ok (.iinc 2 (-1), 3) := by decide +kernel
theorem dX5_order_74 : decode cX5_order 74 = .ok (.iinc 5 1, 3) := by decide +kernel
theorem dX5_order_77 : decode cX5_order 77 = .ok (.goto (-34), 3) := by decide +kernel
theorem dX5_order_80 : decode cX5_order 80 = .ok (.iinc 3 1, 3) := by decide +kernel
theorem dX5_order_83 : decode cX5_order 83 = .ok (.goto (-58), 3) := by decide +kernel
theorem dX5_order_86 : decode cX5_order 86 = .ok (.ldc 163, 2) := by decide +kernel
theorem dX5_order_88 : decode cX5_order 88 = .ok (.ireturn, 1) := by decide +kernel
set_option maxRecDepth 20000 in
theorem ggX5_drawn_X5_isRoute : GoodIn wsX5_drawn wsX5_isRoute := goodIn_r _ [14, 7, 46, 47, 48, 49, 50, 51, 52, 53, 54, 55, 56, 57, 58, 59, 60, 61, 62, 63, 64, 65, 66, 67, 68] (by decide +kernel) (by decide +kernel)
set_option maxRecDepth 20000 in
theorem gX5_drawn_X5_isRoute : GoodIn wsX5_drawn (wsV RX5 144 RX5 yX5_isRoute wsX5_isRoute) := goodIn_app (goodIn_of _ (by decide +kernel)) ggX5_drawn_X5_isRoute
set_option maxRecDepth 20000 in
theorem ggX5_drawn_X5_in : GoodIn wsX5_drawn wsX5_in := goodIn_r _ [17] (by decide +kernel) (by decide +kernel)
set_option maxRecDepth 20000 in
theorem gX5_drawn_X5_in : GoodIn wsX5_drawn (va_wsS RX5 50 yX5_in wsX5_in) := goodIn_app (goodIn_of _ (by decide +kernel)) ggX5_drawn_X5_in
set_option maxRecDepth 20000 in
theorem ggX5_drawn_X5_begin : GoodIn wsX5_drawn wsX5_begin := goodIn_r _ [21, 7, 8, 22, 23, 13, 24, 46, 47, 48, 49, 50, 51, 52, 53, 54, 55, 56, 57, 58, 59, 60, 61, 62, 63, 64, 65, 66, 67, 68] (by decide +kernel) (by decide +kernel)
set_option maxRecDepth 20000 in
theorem gX5_drawn_X5_begin : GoodIn wsX5_drawn (wsV RX5 164 RX5 yX5_begin wsX5_begin) := goodIn_app (goodIn_of _ (by decide +kernel)) ggX5_drawn_X5_begin
set_option maxRecDepth 20000 in
theorem ggX5_drawn_X5_pass : GoodIn wsX5_drawn wsX5_pass := goodIn_r _ [27, 28, 29, 13, 30, 31, 32, 33, 34, 35, 36, 37, 38, 39] (by decide +kernel) (by decide +kernel)
set_option maxRecDepth 20000 in
theorem gX5_drawn_X5_pass : GoodIn wsX5_drawn (va_wsS RX5 150 yX5_pass wsX5_pass) := goodIn_app (goodIn_of _ (by decide +kernel)) ggX5_drawn_X5_pass
set_option maxRecDepth 20000 in
theorem ggX5_drawn_X5_openOf : GoodIn wsX5_drawn wsX5_openOf := goodIn_r _ [42] (by decide +kernel) (by decide +kernel)
set_option maxRecDepth 20000 in
theorem gX5_drawn_X5_openOf : GoodIn wsX5_drawn (va_wsS RX5 157 yX5_openOf wsX5_openOf) := goodIn_app (goodIn_of _ (by decide +kernel)) ggX5_drawn_X5_openOf
set_option maxRecDepth 20000 in
theorem ggX5_drawn_X5_bits : GoodIn wsX5_drawn wsX5_bits := goodIn_r _ [45] (by decide +kernel) (by decide +kernel)
set_option maxRecDepth 20000 in
theorem gX5_drawn_X5_bits : GoodIn wsX5_drawn (va_wsS RX5 160 yX5_bits wsX5_bits) := goodIn_app (goodIn_of _ (by decide +kernel)) ggX5_drawn_X5_bits
theorem dX5_drawn_0 : decode cX5_drawn 0 = .ok (.aload_n 0, 1) := by decide +kernel
theorem dX5_drawn_1 : decode cX5_drawn 1 = .ok (.invokevirtual 144, 3) := by decide +kernel
theorem dX5_drawn_4 : decode cX5_drawn 4 = .ok (.ifCond .ne 6, 3) := by decide +kernel
theorem dX5_drawn_7 : decode cX5_drawn 7 = .ok (.ldc 130, 2) := by decide +kernel
theorem dX5_drawn_9 : decode cX5_drawn 9 = .ok (.ireturn, 1) := by decide +kernel
theorem dX5_drawn_10 : decode cX5_drawn 10 = .ok (.iload_n 1, 1) := by decide +kernel
theorem dX5_drawn_11 : decode cX5_drawn 11 = .ok (.iconst 0, 1) := by decide +kernel
theorem dX5_drawn_12 : decode cX5_drawn 12 = .ok (.bipush 60, 2) := by decide +kernel
theorem dX5_drawn_14 : decode cX5_drawn 14 = .ok (.invokestatic 50, 3) := by decide +kernel
theorem dX5_drawn_17 : decode cX5_drawn 17 = .ok (.ifCond .eq 22, 3) := by decide +kernel
theorem dX5_drawn_20 : decode cX5_drawn 20 = .ok (.iload_n 2, 1) := by decide +kernel
theorem dX5_drawn_21 : decode cX5_drawn 21 = .ok (.iconst 1, 1) := by decide +kernel
theorem dX5_drawn_22 : decode cX5_drawn 22 = .ok (.ldc 190, 2) := by decide +kernel
theorem dX5_drawn_24 : decode cX5_drawn 24 = .ok (.invokestatic 50, 3) := by decide +kernel
theorem dX5_drawn_27 : decode cX5_drawn 27 = .ok (.ifCond .eq 12, 3) := by decide +kernel
theorem dX5_drawn_30 : decode cX5_drawn 30 = .ok (.iload_n 3, 1) := by decide +kernel
theorem dX5_drawn_31 : decode cX5_drawn 31 = .ok (.iconst 0, 1) := by decide +kernel
theorem dX5_drawn_32 : decode cX5_drawn 32 = .ok (.iconst 1, 1) := by decide +kernel
theorem dX5_drawn_33 : decode cX5_drawn 33 = .ok (.invokestatic 50, 3) := by decide +kernel
theorem dX5_drawn_36 : decode cX5_drawn 36 = .ok (.ifCond .ne 6, 3) := by decide +kernel
theorem dX5_drawn_39 : decode cX5_drawn 39 = .ok (.ldc 63, 2) := by decide +kernel
theorem dX5_drawn_41 : decode cX5_drawn 41 = .ok (.ireturn, 1) := by decide +kernel
theorem dX5_drawn_42 : decode cX5_drawn 42 = .ok (.aload_n 0, 1) := by decide +kernel
theorem dX5_drawn_43 : decode cX5_drawn 43 = .ok (.invokevirtual 164, 3) := by decide +kernel
theorem dX5_drawn_46 : decode cX5_drawn 46 = .ok (.iload_n 2, 1) := by decide +kernel
theorem dX5_drawn_47 : decode cX5_drawn 47 = .ok (.i2l, 1) := by decide +kernel
theorem dX5_drawn_48 : decode cX5_drawn 48 = .ok (.lstore 4, 2) := by decide +kernel
theorem dX5_drawn_50 : decode cX5_drawn 50 = .ok (.iconst 0, 1) := by decide +kernel
theorem dX5_drawn_51 : decode cX5_drawn 51 = .ok (.istore 6, 2) := by decide +kernel
theorem dX5_drawn_53 : decode cX5_drawn 53 = .ok (.iload 6, 2) := by decide +kernel
theorem dX5_drawn_55 : decode cX5_drawn 55 = .ok (.iload_n 1, 1) := by decide +kernel
theorem dX5_drawn_56 : decode cX5_drawn 56 = .ok (.if_icmp .ge 81, 3) := by decide +kernel
theorem dX5_drawn_59 : decode cX5_drawn 59 = .ok (.lload 4, 2) := by decide +kernel
theorem dX5_drawn_61 : decode cX5_drawn 61 = .ok (.ldc2_w 191, 3) := by decide +kernel
theorem dX5_drawn_64 : decode cX5_drawn 64 = .ok (.lmul, 1) := by decide +kernel
theorem dX5_drawn_65 : decode cX5_drawn 65 = .ok (.ldc2_w 193, 3) := by decide +kernel
theorem dX5_drawn_68 : decode cX5_drawn 68 = .ok (.lrem, 1) := by decide +kernel
theorem dX5_drawn_69 : decode cX5_drawn 69 = .ok (.lstore 4, 2) := by decide +kernel
theorem dX5_drawn_71 : decode cX5_drawn 71 = .ok (.lload 4, 2) := by decide +kernel
theorem dX5_drawn_73 : decode cX5_drawn 73 = .ok (.ldc2_w 195, 3) := by decide +kernel
theorem dX5_drawn_76 : decode cX5_drawn 76 = .ok (.lrem, 1) := by decide +kernel
theorem dX5_drawn_77 : decode cX5_drawn 77 = .ok (.lconst 0, 1) := by decide +kernel
theorem dX5_drawn_78 : decode cX5_drawn 78 = .ok (.lcmp, 1) := by decide +kernel
theorem dX5_drawn_79 : decode cX5_drawn 79 = .ok (.ifCond .ne 44, 3) := by decide +kernel
theorem dX5_drawn_82 : decode cX5_drawn 82 = .ok (.lload 4, 2) := by decide +kernel
theorem dX5_drawn_84 : decode cX5_drawn 84 = .ok (.aload_n 0, 1) := by decide +kernel
theorem dX5_drawn_85 : decode cX5_drawn 85 = .ok (.getfield 22, 3) := by decide +kernel
theorem dX5_drawn_88 : decode cX5_drawn 88 = .ok (.iconst 2, 1) := by decide +kernel
theorem dX5_drawn_89 : decode cX5_drawn 89 = .ok (.iaload, 1) := by decide +kernel
theorem dX5_drawn_90 : decode cX5_drawn 90 = .ok (.i2l, 1) := by decide +kernel
theorem dX5_drawn_91 : decode cX5_drawn 91 = .ok (.lrem, 1) := by decide +kernel
theorem dX5_drawn_92 : decode cX5_drawn 92 = .ok (.l2i, 1) := by decide +kernel
theorem dX5_drawn_93 : decode cX5_drawn 93 = .ok (.istore 7, 2) := by decide +kernel
theorem dX5_drawn_95 : decode cX5_drawn 95 = .ok (.aload_n 0, 1) := by decide +kernel
theorem dX5_drawn_96 : decode cX5_drawn 96 = .ok (.getfield 28, 3) := by decide +kernel
theorem dX5_drawn_99 : decode cX5_drawn 99 = .ok (.bipush 14, 2) := by decide +kernel
theorem dX5_drawn_101 : decode cX5_drawn 101 = .ok (.iload 7, 2) := by decide +kernel
theorem dX5_drawn_103 : decode cX5_drawn 103 = .ok (.iadd, 1) := by decide +kernel
theorem dX5_drawn_104 : decode cX5_drawn 104 = .ok (.lload 4, 2) := by decide +kernel
theorem dX5_drawn_106 : decode cX5_drawn 106 = .ok (.ldc2_w 188, 3) := by decide +kernel
theorem dX5_drawn_109 : decode cX5_drawn 109 = .ok (.lrem, 1) := by decide +kernel
theorem dX5_drawn_110 : decode cX5_drawn 110 = .ok (.l2i, 1) := by decide +kernel
theorem dX5_drawn_111 : decode cX5_drawn 111 = .ok (.iastore, 1) := by decide +kernel
theorem dX5_drawn_112 : decode cX5_drawn 112 = .ok (.aload_n 0, 1) := by decide +kernel
theorem dX5_drawn_113 : decode cX5_drawn 113 = .ok (.getfield 28, 3) := by decide +kernel
theorem dX5_drawn_116 : decode cX5_drawn 116 = .ok (.bipush 35, 2) := by decide +kernel
theorem dX5_drawn_118 : decode cX5_drawn 118 = .ok (.iload 7, 2) := by decide +kernel
theorem dX5_drawn_120 : decode cX5_drawn 120 = .ok (.iadd, 1) := by decide +kernel
theorem dX5_drawn_121 : decode cX5_drawn 121 = .ok (.iconst 0, 1) := by decide +kernel
theorem dX5_drawn_122 : decode cX5_drawn 122 = .ok (.iastore, 1) := by decide +kernel
theorem dX5_drawn_123 : decode cX5_drawn 123 = .ok (.aload_n 0, 1) := by decide +kernel
theorem dX5_drawn_124 : decode cX5_drawn 124 = .ok (.getfield 28, 3) := by decide +kernel
theorem dX5_drawn_127 : decode cX5_drawn 127 = .ok (.invokestatic 150, 3) := by decide +kernel
theorem dX5_drawn_130 : decode cX5_drawn 130 = .ok (.pop, 1) := by decide +kernel
theorem dX5_drawn_131 : decode cX5_drawn 131 = .ok (.iinc 6 1, 3) := by decide +kernel
theorem dX5_drawn_134 : decode cX5_drawn 134 = .ok (.goto (-81), 3) := by decide +kernel
theorem dX5_drawn_137 : decode cX5_drawn 137 = .ok (.iload_n 3, 1) := by decide +kernel
theorem dX5_drawn_138 : decode cX5_drawn 138 = .ok (.ifCond .ne 12, 3) := by decide +kernel
theorem dX5_drawn_141 : decode cX5_drawn 141 = .ok (.aload_n 0, 1) := by decide +kernel
theorem dX5_drawn_142 : decode cX5_drawn 142 = .ok (.getfield 28, 3) := by decide +kernel
theorem dX5_drawn_145 : decode cX5_drawn 145 = .ok (.iconst 0, 1) := by decide +kernel
theorem dX5_drawn_146 : decode cX5_drawn 146 = .ok (.iaload, 1) := by decide +kernel
theorem dX5_drawn_147 : decode cX5_drawn 147 = .ok (.goto 13, 3) := by decide +kernel
theorem dX5_drawn_150 : decode cX5_drawn 150 = .ok (.aload_n 0, 1) := by decide +kernel
theorem dX5_drawn_151 : decode cX5_drawn 151 = .ok (.getfield 28, 3) := by decide +kernel
theorem dX5_drawn_154 : decode cX5_drawn 154 = .ok (.invokestatic 157, 3) := by decide +kernel
theorem dX5_drawn_157 : decode cX5_drawn 157 = .ok (.invokestatic 160, 3) := by decide +kernel
theorem dX5_drawn_160 : decode cX5_drawn 160 = .ok (.ireturn, 1) := by decide +kernel
set_option maxRecDepth 20000 in
theorem ggX5_image_X5_in : GoodIn wsX5_image wsX5_in := goodIn_r _ [9] (by decide +kernel) (by decide +kernel)
set_option maxRecDepth 20000 in
theorem gX5_image_X5_in : GoodIn wsX5_image (va_wsS RX5 50 yX5_in wsX5_in) := goodIn_app (goodIn_of _ (by decide +kernel)) ggX5_image_X5_in
set_option maxRecDepth 20000 in
theorem ggX5_image_X5_isRoute : GoodIn wsX5_image wsX5_isRoute := goodIn_r _ [13, 3, 17, 18, 19, 20, 21, 22, 23, 24, 25, 26, 27, 28, 29, 30, 31, 32, 33, 34, 35, 36, 37, 38, 39] (by decide +kernel) (by decide +kernel)
set_option maxRecDepth 20000 in
theorem gX5_image_X5_isRoute : GoodIn wsX5_image (wsV RX5 144 RX5 yX5_isRoute wsX5_isRoute) := goodIn_app (goodIn_of _ (by decide +kernel)) ggX5_image_X5_isRoute
set_option maxRecDepth 20000 in
theorem ggX5_image_X5_lay : GoodIn wsX5_image wsX5_lay := goodIn_r _ [16] (by decide +kernel) (by decide +kernel)
set_option maxRecDepth 20000 in
theorem gX5_image_X5_lay : GoodIn wsX5_image (va_wsS RX5 123 yX5_lay wsX5_lay) := goodIn_app (goodIn_of _ (by decide +kernel)) ggX5_image_X5_lay
theorem dX5_image_0 : decode cX5_image 0 = .ok (.iload_n 1, 1) := by decide +kernel
theorem dX5_image_1 : decode cX5_image 1 = .ok (.iconst 0, 1) := by decide +kernel
theorem dX5_image_2 : decode cX5_image 2 = .ok (.iconst 1, 1) := by decide +kernel
theorem dX5_image_3 : decode cX5_image 3 = .ok (.invokestatic 50, 3) := by decide +kernel
theorem dX5_image_6 : decode cX5_image 6 = .ok (.ifCond .ne 6, 3) := by decide +kernel
theorem dX5_image_9 : decode cX5_image 9 = .ok (.ldc 63, 2) := by decide +kernel
theorem dX5_image_11 : decode cX5_image 11 = .ok (.ireturn, 1) := by decide +kernel
theorem dX5_image_12 : decode cX5_image 12 = .ok (.aload_n 0, 1) := by decide +kernel
theorem dX5_image_13 : decode cX5_image 13 = .ok (.invokevirtual 144, 3) := by decide +kernel
theorem dX5_image_16 : decode cX5_image 16 = .ok (.ifCond .ne 6, 3) := by decide +kernel
theorem dX5_image_19 : decode cX5_image 19 = .ok (.ldc 130, 2) := by decide +kernel
theorem dX5_image_21 : decode cX5_image 21 = .ok (.ireturn, 1) := by decide +kernel
theorem dX5_image_22 : decode cX5_image 22 = .ok (.aload_n 0, 1) := by decide +kernel
theorem dX5_image_23 : decode cX5_image 23 = .ok (.getfield 22, 3) := by decide +kernel
theorem dX5_image_26 : decode cX5_image 26 = .ok (.iconst 0, 1) := by decide +kernel
theorem dX5_image_27 : decode cX5_image 27 = .ok (.aload_n 0, 1) := by decide +kernel
theorem dX5_image_28 : decode cX5_image 28 = .ok (.getfield 31, 3) := by decide +kernel
theorem dX5_image_31 : decode cX5_image 31 = .ok (.bipush 42, 2) := by decide +kernel
theorem dX5_image_33 : decode cX5_image 33 = .ok (.iload_n 1, 1) := by decide +kernel
theorem dX5_image_34 : decode cX5_image 34 = .ok (.imul, 1) := by decide +kernel
theorem dX5_image_35 : decode cX5_image 35 = .ok (.invokestatic 123, 3) := by decide +kernel
theorem dX5_image_38 : decode cX5_image 38 = .ok (.aload_n 0, 1) := by decide +kernel
theorem dX5_image_39 : decode cX5_image 39 = .ok (.getfield 34, 3) := by decide +kernel
theorem dX5_image_42 : decode cX5_image 42 = .ok (.iload_n 1, 1) := by decide +kernel
theorem dX5_image_43 : decode cX5_image 43 = .ok (.iconst 1, 1) := by decide +kernel
theorem dX5_image_44 : decode cX5_image 44 = .ok (.bastore, 1) := by decide +kernel
theorem dX5_image_45 : decode cX5_image 45 = .ok (.iconst 1, 1) := by decide +kernel
theorem dX5_image_46 : decode cX5_image 46 = .ok (.ireturn, 1) := by decide +kernel
set_option maxRecDepth 20000 in
theorem ggX5_restore_X5_in : GoodIn wsX5_restore wsX5_in := goodIn_r _ [10] (by decide +kernel) (by decide +kernel)
set_option maxRecDepth 20000 in
theorem gX5_restore_X5_in : GoodIn wsX5_restore (va_wsS RX5 50 yX5_in wsX5_in) := goodIn_app (goodIn_of _ (by decide +kernel)) ggX5_restore_X5_in
set_option maxRecDepth 20000 in
theorem ggX5_restore_X5_lay : GoodIn wsX5_restore wsX5_lay := goodIn_r _ [13] (by decide +kernel) (by decide +kernel)
set_option maxRecDepth 20000 in
theorem gX5_restore_X5_lay : GoodIn wsX5_restore (va_wsS RX5 123 yX5_lay wsX5_lay) := goodIn_app (goodIn_of _ (by decide +kernel)) ggX5_restore_X5_lay
theorem dX5_restore_0 : decode cX5_restore 0 = .ok (.iload_n 1, 1) := by decide +kernel
theorem dX5_restore_1 : decode cX5_restore 1 = .ok (.iconst 0, 1) := by decide +kernel
theorem dX5_restore_2 : decode cX5_restore 2 = .ok (.iconst 1, 1) := by decide +kernel
theorem dX5_restore_3 : decode cX5_restore 3 = .ok (.invokestatic 50, 3) := by decide +kernel
theorem dX5_restore_6 : decode cX5_restore 6 = .ok (.ifCond .ne 6, 3) := by decide +kernel
theorem dX5_restore_9 : decode cX5_restore 9 = .ok (.ldc 63, 2) := by decide +kernel
theorem dX5_restore_11 : decode cX5_restore 11 = .ok (.ireturn, 1) := by decide +kernel
theorem dX5_restore_12 : decode cX5_restore 12 = .ok (.aload_n 0, 1) := by decide +kernel
theorem dX5_restore_13 : decode cX5_restore 13 = .ok (.getfield 34, 3) := by decide +kernel
theorem dX5_restore_16 : decode cX5_restore 16 = .ok (.iload_n 1, 1) := by decide +kernel
theorem dX5_restore_17 : decode cX5_restore 17 = .ok (.baload, 1) := by decide +kernel
theorem dX5_restore_18 : decode cX5_restore 18 = .ok (.ifCond .ne 6, 3) := by decide +kernel
theorem dX5_restore_21 : decode cX5_restore 21 = .ok (.ldc 130, 2) := by decide +kernel
theorem dX5_restore_23 : decode cX5_restore 23 = .ok (.ireturn, 1) := by decide +kernel
theorem dX5_restore_24 : decode cX5_restore 24 = .ok (.aload_n 0, 1) := by decide +kernel
theorem dX5_restore_25 : decode cX5_restore 25 = .ok (.getfield 31, 3) := by decide +kernel
theorem dX5_restore_28 : decode cX5_restore 28 = .ok (.bipush 42, 2) := by decide +kernel
theorem dX5_restore_30 : decode cX5_restore 30 = .ok (.iload_n 1, 1) := by decide +kernel
theorem dX5_restore_31 : decode cX5_restore 31 = .ok (.imul, 1) := by decide +kernel
theorem dX5_restore_32 : decode cX5_restore 32 = .ok (.aload_n 0, 1) := by decide +kernel
theorem dX5_restore_33 : decode cX5_restore 33 = .ok (.getfield 22, 3) := by decide +kernel
theorem dX5_restore_36 : decode cX5_restore 36 = .ok (.iconst 0, 1) := by decide +kernel
theorem dX5_restore_37 : decode cX5_restore 37 = .ok (.invokestatic 123, 3) := by decide +kernel
theorem dX5_restore_40 : decode cX5_restore 40 = .ok (.aload_n 0, 1) := by decide +kernel
theorem dX5_restore_41 : decode cX5_restore 41 = .ok (.iconst 0, 1) := by decide +kernel
theorem dX5_restore_42 : decode cX5_restore 42 = .ok (.putfield 127, 3) := by decide +kernel
theorem dX5_restore_45 : decode cX5_restore 45 = .ok (.iconst 1, 1) := by decide +kernel
theorem dX5_restore_46 : decode cX5_restore 46 = .ok (.ireturn, 1) := by decide +kernel
set_option maxRecDepth 20000 in
theorem ggX5_kind_X5_isOne : GoodIn wsX5_kind wsX5_isOne := goodIn_r _ [7, 1, 8, 9, 6, 10, 11, 12, 13, 14, 15, 16, 17, 18, 19, 20, 21, 22, 23, 24, 25, 26, 27, 28, 29, 30, 31, 32, 33] (by decide +kernel) (by decide +kernel)
set_option maxRecDepth 20000 in
theorem gX5_kind_X5_isOne : GoodIn wsX5_kind (wsV RX5 154 RX5 yX5_isOne wsX5_isOne) := goodIn_app (goodIn_of _ (by decide +kernel)) ggX5_kind_X5_isOne
theorem dX5_kind_0 : decode cX5_kind 0 = .ok (.aload_n 0, 1) := by decide +kernel
theorem dX5_kind_1 : decode cX5_kind 1 = .ok (.iload_n 1, 1) := by decide +kernel
theorem dX5_kind_2 : decode cX5_kind 2 = .ok (.invokevirtual 154, 3) := by decide +kernel
theorem dX5_kind_5 : decode cX5_kind 5 = .ok (.ifCond .eq 15, 3) := by decide +kernel
theorem dX5_kind_8 : decode cX5_kind 8 = .ok (.aload_n 0, 1) := by decide +kernel
theorem dX5_kind_9 : decode cX5_kind 9 = .ok (.getfield 22, 3) := by decide +kernel
theorem dX5_kind_12 : decode cX5_kind 12 = .ok (.bipush 7, 2) := by decide +kernel
theorem dX5_kind_14 : decode cX5_kind 14 = .ok (.iload_n 1, 1) := by decide +kernel
theorem dX5_kind_15 : decode cX5_kind 15 = .ok (.iadd, 1) := by decide +kernel
theorem dX5_kind_16 : decode cX5_kind 16 = .ok (.iaload, 1) := by decide +kernel
theorem dX5_kind_17 : decode cX5_kind 17 = .ok (.goto 5, 3) := by decide +kernel
theorem dX5_kind_20 : decode cX5_kind 20 = .ok (.ldc 63, 2) := by decide +kernel
theorem dX5_kind_22 : decode cX5_kind 22 = .ok (.ireturn, 1) := by decide +kernel
theorem dX5_parentOf_0 : decode cX5_parentOf 0 = .ok (.iload_n 0, 1) := by decide +kernel
theorem dX5_parentOf_1 : decode cX5_parentOf 1 = .ok (.iconst 1, 1) := by decide +kernel
theorem dX5_parentOf_2 : decode cX5_parentOf 2 = .ok (.if_icmp .eq 8, 3) := by decide +kernel
theorem dX5_parentOf_5 : decode cX5_parentOf 5 = .ok (.iload_n 0, 1) := by decide +kernel
theorem dX5_parentOf_6 : decode cX5_parentOf 6 = .ok (.iconst 4, 1) := by decide +kernel
theorem dX5_parentOf_7 : decode cX5_parentOf 7 = .ok (.if_icmp .ne 7, 3) := by decide +kernel
theorem dX5_parentOf_10 : decode cX5_parentOf 10 = .ok (.iconst 0, 1) := by decide +kernel
theorem dX5_parentOf_11 : decode cX5_parentOf 11 = .ok (.goto 13, 3) := by decide +kernel
theorem dX5_parentOf_14 : decode cX5_parentOf 14 = .ok (.iload_n 0, 1) := by decide +kernel
theorem dX5_parentOf_15 : decode cX5_parentOf 15 = .ok (.iconst 5, 1) := by decide +kernel
theorem dX5_parentOf_16 : decode cX5_parentOf 16 = .ok (.if_icmp .ne 7, 3) := by decide +kernel
theorem dX5_parentOf_19 : decode cX5_parentOf 19 = .ok (.iconst 4, 1) := by decide +kernel
theorem dX5_parentOf_20 : decode cX5_parentOf 20 = .ok (.goto 4, 3) := by decide +kernel
theorem dX5_parentOf_23 : decode cX5_parentOf 23 = .ok (.iconst 1, 1) := by decide +kernel
theorem dX5_parentOf_24 : decode cX5_parentOf 24 = .ok (.ireturn, 1) := by decide +kernel
set_option maxRecDepth 20000 in
theorem ggX5_as_X5_isOne : GoodIn wsX5_as wsX5_isOne := goodIn_r _ [7, 2, 8, 9, 6, 10, 24, 25, 26, 27, 28, 29, 30, 31, 32, 33, 34, 35, 36, 37, 38, 39, 40, 41, 42, 43, 44, 45, 46] (by decide +kernel) (by decide +kernel)
set_option maxRecDepth 20000 in
theorem gX5_as_X5_isOne : GoodIn wsX5_as (wsV RX5 154 RX5 yX5_isOne wsX5_isOne) := goodIn_app (goodIn_of _ (by decide +kernel)) ggX5_as_X5_isOne
set_option maxRecDepth 20000 in
theorem ggX5_as_X5_in : GoodIn wsX5_as wsX5_in := goodIn_r _ [10] (by decide +kernel) (by decide +kernel)
set_option maxRecDepth 20000 in
theorem gX5_as_X5_in : GoodIn wsX5_as (va_wsS RX5 50 yX5_in wsX5_in) := goodIn_app (goodIn_of _ (by decide +kernel)) ggX5_as_X5_in
set_option maxRecDepth 20000 in
theorem ggX5_as_X5_parentOf : GoodIn wsX5_as wsX5_parentOf := goodIn_r _ [13] (by decide +kernel) (by decide +kernel)
set_option maxRecDepth 20000 in
theorem gX5_as_X5_parentOf : GoodIn wsX5_as (va_wsS RX5 197 yX5_parentOf wsX5_parentOf) := goodIn_app (goodIn_of _ (by decide +kernel)) ggX5_as_X5_parentOf
set_option maxRecDepth 20000 in
theorem ggX5_as_X5_done : GoodIn wsX5_as wsX5_done := goodIn_r _ [17, 18, 24, 25, 26, 27, 28, 29, 30, 31, 32, 33, 34, 35, 36, 37, 38, 39, 40, 41, 42, 43, 44, 45, 46] (by decide +kernel) (by decide +kernel)
set_option maxRecDepth 20000 in
theorem gX5_as_X5_done : GoodIn wsX5_as (wsV RX5 68 RX5 yX5_done wsX5_done) := goodIn_app (goodIn_of _ (by decide +kernel)) ggX5_as_X5_done
set_option maxRecDepth 20000 in
theorem ggX5_as_X5_finds : GoodIn wsX5_as wsX5_finds := goodIn_r _ [22, 18, 23, 24, 25, 26, 27, 28, 29, 30, 31, 32, 33, 34, 35, 36, 37, 38, 39, 40, 41, 42, 43, 44, 45, 46] (by decide +kernel) (by decide +kernel)
set_option maxRecDepth 20000 in
theorem gX5_as_X5_finds : GoodIn wsX5_as (wsV RX5 64 RX5 yX5_finds wsX5_finds) := goodIn_app (goodIn_of _ (by decide +kernel)) ggX5_as_X5_finds
theorem dX5_as_0 : decode cX5_as 0 = .ok (.aload_n 0, 1) := by decide +kernel
theorem dX5_as_1 : decode cX5_as 1 = .ok (.iload_n 1, 1) := by decide +kernel
theorem dX5_as_2 : decode cX5_as 2 = .ok (.invokevirtual 154, 3) := by decide +kernel
theorem dX5_as_5 : decode cX5_as 5 = .ok (.ifCond .eq 12, 3) := by decide +kernel
theorem dX5_as_8 : decode cX5_as 8 = .ok (.iload_n 2, 1) := by decide +kernel
theorem dX5_as_9 : decode cX5_as 9 = .ok (.iconst 0, 1) := by decide +kernel
theorem dX5_as_10 : decode cX5_as 10 = .ok (.iconst 5, 1) := by decide +kernel
theorem dX5_as_11 : decode cX5_as 11 = .ok (.invokestatic 50, 3) := by decide +kernel
theorem dX5_as_14 : decode cX5_as 14 = .ok (.ifCond .ne 6, 3) := by decide +kernel
theorem dX5_as_17 : decode cX5_as 17 = .ok (.ldc 63, 2) := by decide +kernel
theorem dX5_as_19 : decode cX5_as 19 = .ok (.ireturn, 1) := by decide +kernel
theorem dX5_as_20 : decode cX5_as 20 = .ok (.aload_n 0, 1) := by decide +kernel
theorem dX5_as_21 : decode cX5_as 21 = .ok (.getfield 22, 3) := by decide +kernel
theorem dX5_as_24 : decode cX5_as 24 = .ok (.bipush 7, 2) := by decide +kernel
theorem dX5_as_26 : decode cX5_as 26 = .ok (.iload_n 1, 1) := by decide +kernel
theorem dX5_as_27 : decode cX5_as 27 = .ok (.iadd, 1) := by decide +kernel
theorem dX5_as_28 : decode cX5_as 28 = .ok (.iaload, 1) := by decide +kernel
theorem dX5_as_29 : decode cX5_as 29 = .ok (.istore_n 3, 1) := by decide +kernel
theorem dX5_as_30 : decode cX5_as 30 = .ok (.iload_n 2, 1) := by decide +kernel
theorem dX5_as_31 : decode cX5_as 31 = .ok (.ifCond .eq 16, 3) := by decide +kernel
theorem dX5_as_34 : decode cX5_as 34 = .ok (.iload_n 3, 1) := by decide +kernel
theorem dX5_as_35 : decode cX5_as 35 = .ok (.iload_n 2, 1) := by decide +kernel
theorem dX5_as_36 : decode cX5_as 36 = .ok (.if_icmp .eq 11, 3) := by decide +kernel
theorem dX5_as_39 : decode cX5_as 39 = .ok (.iload_n 3, 1) := by decide +kernel
theorem dX5_as_40 : decode cX5_as 40 = .ok (.invokestatic 197, 3) := by decide +kernel
theorem dX5_as_43 : decode cX5_as 43 = .ok (.iload_n 2, 1) := by decide +kernel
theorem dX5_as_44 : decode cX5_as 44 = .ok (.if_icmp .ne 7, 3) := by decide +kernel
theorem dX5_as_47 : decode cX5_as 47 = .ok (.iconst 1, 1) := by decide +kernel
theorem dX5_as_48 : decode cX5_as 48 = .ok (.goto 4, 3) := by decide +kernel
theorem dX5_as_51 : decode cX5_as 51 = .ok (.iconst 0, 1) := by decide +kernel
theorem dX5_as_52 : decode cX5_as 52 = .ok (.istore 4, 2) := by decide +kernel
theorem dX5_as_54 : decode cX5_as 54 = .ok (.iload 4, 2) := by decide +kernel
theorem dX5_as_56 : decode cX5_as 56 = .ok (.ifCond .eq 11, 3) := by decide +kernel
theorem dX5_as_59 : decode cX5_as 59 = .ok (.aload_n 0, 1) := by decide +kernel
theorem dX5_as_60 : decode cX5_as 60 = .ok (.iload_n 1, 1) := by decide +kernel
theorem dX5_as_61 : decode cX5_as 61 = .ok (.invokevirtual 68, 3) := by decide +kernel
theorem dX5_as_64 : decode cX5_as 64 = .ok (.goto 8, 3) := by decide +kernel
theorem dX5_as_67 : decode cX5_as 67 = .ok (.aload_n 0, 1) := by decide +kernel
theorem dX5_as_68 : decode cX5_as 68 = .ok (.iconst 3, 1) := by decide +kernel
theorem dX5_as_69 : decode cX5_as 69 = .ok (.invokevirtual 64, 3) := by decide +kernel
theorem dX5_as_72 : decode cX5_as 72 = .ok (.ireturn, 1) := by decide +kernel
theorem dX5_begins_0 : decode cX5_begins 0 = .ok (.aload_n 0, 1) := by decide +kernel
theorem dX5_begins_1 : decode cX5_begins 1 = .ok (.getfield 200, 3) := by decide +kernel
theorem dX5_begins_4 : decode cX5_begins 4 = .ok (.bipush 16, 2) := by decide +kernel
theorem dX5_begins_6 : decode cX5_begins 6 = .ok (.if_icmp .ge 23, 3) := by decide +kernel
theorem dX5_begins_9 : decode cX5_begins 9 = .ok (.aload_n 0, 1) := by decide +kernel
theorem dX5_begins_10 : decode cX5_begins 10 = .ok (.getfield 41, 3) := by decide +kernel
theorem dX5_begins_13 : decode cX5_begins 13 = .ok (.aload_n 0, 1) := by decide +kernel
theorem dX5_begins_14 : decode cX5_begins 14 = .ok (.getfield 200, 3) := by decide +kernel
theorem dX5_begins_17 : decode cX5_begins 17 = .ok (.iload_n 1, 1) := by decide +kernel
theorem dX5_begins_18 : decode cX5_begins 18 = .ok (.iastore, 1) := by decide +kernel
theorem dX5_begins_19 : decode cX5_begins 19 = .ok (.aload_n 0, 1) := by decide +kernel
theorem dX5_begins_20 : decode cX5_begins 20 = .ok (.dup, 1) := by decide +kernel
theorem dX5_begins_21 : decode cX5_begins 21 = .ok (.getfield 200, 3) := by decide +kernel
theorem dX5_begins_24 : decode cX5_begins 24 = .ok (.iconst 1, 1) := by decide +kernel
theorem dX5_begins_25 : decode cX5_begins 25 = .ok (.iadd, 1) := by decide +kernel
theorem dX5_begins_26 : decode cX5_begins 26 = .ok (.putfield 200, 3) := by decide +kernel
theorem dX5_begins_29 : decode cX5_begins 29 = .ok (.return_, 1) := by decide +kernel
set_option maxRecDepth 20000 in
theorem ggX5_markOath_X5_begins : GoodIn wsX5_markOath wsX5_begins := goodIn_r _ [6, 7, 8, 9, 10, 11, 12, 13, 14, 15, 16, 17, 18, 19, 20, 21, 22, 23, 24, 25, 26, 27, 28, 29, 30, 31] (by decide +kernel) (by decide +kernel)
set_option maxRecDepth 20000 in
theorem gX5_markOath_X5_begins : GoodIn wsX5_markOath (wsV RX5 203 RX5 yX5_begins wsX5_begins) := goodIn_app (goodIn_of _ (by decide +kernel)) ggX5_markOath_X5_begins
theorem dX5_markOath_0 : decode cX5_markOath 0 = .ok (.aload_n 0, 1) := by decide +kernel
theorem dX5_markOath_1 : decode cX5_markOath 1 = .ok (.bipush 21, 2) := by decide +kernel
theorem dX5_markOath_3 : decode cX5_markOath 3 = .ok (.invokevirtual 203, 3) := by decide +kernel
theorem dX5_markOath_6 : decode cX5_markOath 6 = .ok (.aload_n 0, 1) := by decide +kernel
theorem dX5_markOath_7 : decode cX5_markOath 7 = .ok (.bipush 20, 2) := by decide +kernel
theorem dX5_markOath_9 : decode cX5_markOath 9 = .ok (.invokevirtual 203, 3) := by decide +kernel
theorem dX5_markOath_12 : decode cX5_markOath 12 = .ok (.iload_n 1, 1) := by decide +kernel
theorem dX5_markOath_13 : decode cX5_markOath 13 = .ok (.aload_n 0, 1) := by decide +kernel
theorem dX5_markOath_14 : decode cX5_markOath 14 = .ok (.getfield 22, 3) := by decide +kernel
theorem dX5_markOath_17 : decode cX5_markOath 17 = .ok (.bipush 14, 2) := by decide +kernel
theorem dX5_markOath_19 : decode cX5_markOath 19 = .ok (.iload_n 1, 1) := by decide +kernel
theorem dX5_markOath_20 : decode cX5_markOath 20 = .ok (.iadd, 1) := by decide +kernel
theorem dX5_markOath_21 : decode cX5_markOath 21 = .ok (.iaload, 1) := by decide +kernel
theorem dX5_markOath_22 : decode cX5_markOath 22 = .ok (.iadd, 1) := by decide +kernel
theorem dX5_markOath_23 : decode cX5_markOath 23 = .ok (.ireturn, 1) := by decide +kernel
set_option maxRecDepth 20000 in
theorem ggX5_markPlain_X5_begins : GoodIn wsX5_markPlain wsX5_begins := goodIn_r _ [6, 7, 8, 13, 14, 15, 16, 17, 18, 19, 20, 21, 22, 23, 24, 25, 26, 27, 28, 29, 30, 31, 32, 33, 34, 35] (by decide +kernel) (by decide +kernel)
set_option maxRecDepth 20000 in
theorem gX5_markPlain_X5_begins : GoodIn wsX5_markPlain (wsV RX5 203 RX5 yX5_begins wsX5_begins) := goodIn_app (goodIn_of _ (by decide +kernel)) ggX5_markPlain_X5_begins
set_option maxRecDepth 20000 in
theorem ggX5_markPlain_X5_markOath : GoodIn wsX5_markPlain wsX5_markOath := goodIn_r _ [12, 1, 2, 3, 4, 5, 6, 7, 8, 13, 14, 15, 16, 17, 18, 19, 20, 21, 22, 23, 24, 25, 26, 27, 28, 29, 30, 31, 32, 33, 34, 35] (by decide +kernel) (by decide +kernel)
set_option maxRecDepth 20000 in
theorem gX5_markPlain_X5_markOath : GoodIn wsX5_markPlain (wsV RX5 206 RX5 yX5_markOath wsX5_markOath) := goodIn_app (goodIn_of _ (by decide +kernel)) ggX5_markPlain_X5_markOath
theorem dX5_markPlain_0 : decode cX5_markPlain 0 = .ok (.aload_n 0, 1) := by decide +kernel
theorem dX5_markPlain_1 : decode cX5_markPlain 1 = .ok (.getfield 22, 3) := by decide +kernel
theorem dX5_markPlain_4 : decode cX5_markPlain 4 = .ok (.bipush 7, 2) := by decide +kernel
theorem dX5_markPlain_6 : decode cX5_markPlain 6 = .ok (.iload_n 1, 1) := by decide +kernel
theorem dX5_markPlain_7 : decode cX5_markPlain 7 = .ok (.iadd, 1) := by decide +kernel
theorem dX5_markPlain_8 : decode cX5_markPlain 8 = .ok (.iaload, 1) := by decide +kernel
theorem dX5_markPlain_9 : decode cX5_markPlain 9 = .ok (.istore_n 2, 1) := by decide +kernel
theorem dX5_markPlain_10 : decode cX5_markPlain 10 = .ok (.iload_n 2, 1) := by decide +kernel
theorem dX5_markPlain_11 : decode cX5_markPlain 11 = .ok (.iconst 2, 1) := by decide +kernel
theorem dX5_markPlain_12 : decode cX5_markPlain 12 = .ok (.if_icmp .ne 17, 3) := by decide +kernel
theorem dX5_markPlain_15 : decode cX5_markPlain 15 = .ok (.aload_n 0, 1) := by decide +kernel
theorem dX5_markPlain_16 : decode cX5_markPlain 16 = .ok (.bipush 24, 2) := by decide +kernel
theorem dX5_markPlain_18 : decode cX5_markPlain 18 = .ok (.invokevirtual 203, 3) := by decide +kernel
theorem dX5_markPlain_21 : decode cX5_markPlain 21 = .ok (.iconst 2, 1) := by decide +kernel
theorem dX5_markPlain_22 : decode cX5_markPlain 22 = .ok (.aload_n 0, 1) := by decide +kernel
theorem dX5_markPlain_23 : decode cX5_markPlain 23 = .ok (.iload_n 1, 1) := by decide +kernel
theorem dX5_markPlain_24 : decode cX5_markPlain 24 = .ok (.invokevirtual 206, 3) := by decide +kernel
theorem dX5_markPlain_27 : decode cX5_markPlain 27 = .ok (.imul, 1) := by decide +kernel
theorem dX5_markPlain_28 : decode cX5_markPlain 28 = .ok (.ireturn, 1) := by decide +kernel
theorem dX5_markPlain_29 : decode cX5_markPlain 29 = .ok (.iload_n 2, 1) := by decide +kernel
theorem dX5_markPlain_30 : decode cX5_markPlain 30 = .ok (.iconst 3, 1) := by decide +kernel
theorem dX5_markPlain_31 : decode cX5_markPlain 31 = .ok (.if_icmp .ne 19, 3) := by decide +kernel
theorem dX5_markPlain_34 : decode cX5_markPlain 34 = .ok (.aload_n 0, 1) := by decide +kernel
theorem dX5_markPlain_35 : decode cX5_markPlain 35 = .ok (.bipush 22, 2) := by decide +kernel
theorem dX5_markPlain_37 : decode cX5_markPlain 37 = .ok (.invokevirtual 203, 3) := by decide +kernel
theorem dX5_markPlain_40 : decode cX5_markPlain 40 = .ok (.aload_n 0, 1) := by decide +kernel
theorem dX5_markPlain_41 : decode cX5_markPlain 41 = .ok (.iload_n 1, 1) := by decide +kernel
theorem dX5_markPlain_42 : decode cX5_markPlain 42 = .ok (.invokevirtual 206, 3) := by decide +kernel
theorem dX5_markPlain_45 : decode cX5_markPlain 45 = .ok (.sipush 1000, 3) := by decide +kernel
theorem dX5_markPlain_48 : decode cX5_markPlain 48 = .ok (.isub, 1) := by decide +kernel
theorem dX5_markPlain_49 : decode cX5_markPlain 49 = .ok (.ireturn, 1) := by decide +kernel
theorem dX5_markPlain_50 : decode cX5_markPlain 50 = .ok (.aload_n 0, 1) := by decide +kernel
theorem dX5_markPlain_51 : decode cX5_markPlain 51 = .ok (.iload_n 1, 1) := by decide +kernel
theorem dX5_markPlain_52 : decode cX5_markPlain 52 = .ok (.invokevirtual 206, 3) := by decide +kernel
theorem dX5_markPlain_55 : decode cX5_markPlain 55 = .ok (.ireturn, 1) := by decide +kernel
set_option maxRecDepth 20000 in
theorem ggX5_sizeLie_X5_begins : GoodIn wsX5_sizeLie wsX5_begins := goodIn_r _ [6, 7, 8, 9, 10, 11, 12, 13, 14, 15, 16, 17, 18, 19, 20, 21, 22, 23, 24, 25, 26, 27, 28, 29, 30, 31] (by decide +kernel) (by decide +kernel)
set_option maxRecDepth 20000 in
theorem gX5_sizeLie_X5_begins : GoodIn wsX5_sizeLie (wsV RX5 203 RX5 yX5_begins wsX5_begins) := goodIn_app (goodIn_of _ (by decide +kernel)) ggX5_sizeLie_X5_begins
theorem dX5_sizeLie_0 : decode cX5_sizeLie 0 = .ok (.aload_n 0, 1) := by decide +kernel
theorem dX5_sizeLie_1 : decode cX5_sizeLie 1 = .ok (.bipush 13, 2) := by decide +kernel
theorem dX5_sizeLie_3 : decode cX5_sizeLie 3 = .ok (.invokevirtual 203, 3) := by decide +kernel
theorem dX5_sizeLie_6 : decode cX5_sizeLie 6 = .ok (.aload_n 0, 1) := by decide +kernel
theorem dX5_sizeLie_7 : decode cX5_sizeLie 7 = .ok (.bipush 10, 2) := by decide +kernel
theorem dX5_sizeLie_9 : decode cX5_sizeLie 9 = .ok (.invokevirtual 203, 3) := by decide +kernel
theorem dX5_sizeLie_12 : decode cX5_sizeLie 12 = .ok (.aload_n 0, 1) := by decide +kernel
theorem dX5_sizeLie_13 : decode cX5_sizeLie 13 = .ok (.getfield 22, 3) := by decide +kernel
theorem dX5_sizeLie_16 : decode cX5_sizeLie 16 = .ok (.bipush 21, 2) := by decide +kernel
theorem dX5_sizeLie_18 : decode cX5_sizeLie 18 = .ok (.iload_n 1, 1) := by decide +kernel
theorem dX5_sizeLie_19 : decode cX5_sizeLie 19 = .ok (.iadd, 1) := by decide +kernel
theorem dX5_sizeLie_20 : decode cX5_sizeLie 20 = .ok (.iaload, 1) := by decide +kernel
theorem dX5_sizeLie_21 : decode cX5_sizeLie 21 = .ok (.bipush 100, 2) := by decide +kernel
theorem dX5_sizeLie_23 : decode cX5_sizeLie 23 = .ok (.isub, 1) := by decide +kernel
theorem dX5_sizeLie_24 : decode cX5_sizeLie 24 = .ok (.ireturn, 1) := by decide +kernel
set_option maxRecDepth 20000 in
theorem ggX5_sizeOf_X5_begins : GoodIn wsX5_sizeOf wsX5_begins := goodIn_r _ [6, 7, 8, 21, 22, 23, 24, 25, 26, 27, 28, 29, 30, 31, 32, 33, 34, 35, 36, 37, 38, 39, 40, 41, 42, 43] (by decide +kernel) (by decide +kernel)
set_option maxRecDepth 20000 in
theorem gX5_sizeOf_X5_begins : GoodIn wsX5_sizeOf (wsV RX5 203 RX5 yX5_begins wsX5_begins) := goodIn_app (goodIn_of _ (by decide +kernel)) ggX5_sizeOf_X5_begins
set_option maxRecDepth 20000 in
theorem ggX5_sizeOf_X5_sizeLie : GoodIn wsX5_sizeOf wsX5_sizeLie := goodIn_r _ [12, 1, 2, 3, 4, 5, 6, 7, 8, 21, 22, 23, 24, 25, 26, 27, 28, 29, 30, 31, 32, 33, 34, 35, 36, 37, 38, 39, 40, 41, 42, 43] (by decide +kernel) (by decide +kernel)
set_option maxRecDepth 20000 in
theorem gX5_sizeOf_X5_sizeLie : GoodIn wsX5_sizeOf (wsV RX5 209 RX5 yX5_sizeLie wsX5_sizeLie) := goodIn_app (goodIn_of _ (by decide +kernel)) ggX5_sizeOf_X5_sizeLie
set_option maxRecDepth 20000 in
theorem ggX5_sizeOf_X5_markPlain : GoodIn wsX5_sizeOf wsX5_markPlain := goodIn_r _ [16, 1, 2, 3, 4, 5, 6, 7, 8, 17, 18, 19, 20, 21, 22, 23, 24, 25, 26, 27, 28, 29, 30, 31, 32, 33, 34, 35, 36, 37, 38, 39, 40, 41, 42, 43] (by decide +kernel) (by decide +kernel)
set_option maxRecDepth 20000 in
theorem gX5_sizeOf_X5_markPlain : GoodIn wsX5_sizeOf (wsV RX5 212 RX5 yX5_markPlain wsX5_markPlain) := goodIn_app (goodIn_of _ (by decide +kernel)) ggX5_sizeOf_X5_markPlain
theorem dX5_sizeOf_0 : decode cX5_sizeOf 0 = .ok (.aload_n 0, 1) := by decide +kernel
theorem dX5_sizeOf_1 : decode cX5_sizeOf 1 = .ok (.getfield 22, 3) := by decide +kernel
theorem dX5_sizeOf_4 : decode cX5_sizeOf 4 = .ok (.bipush 7, 2) := by decide +kernel
theorem dX5_sizeOf_6 : decode cX5_sizeOf 6 = .ok (.iload_n 1, 1) := by decide +kernel
theorem dX5_sizeOf_7 : decode cX5_sizeOf 7 = .ok (.iadd, 1) := by decide +kernel
theorem dX5_sizeOf_8 : decode cX5_sizeOf 8 = .ok (.iaload, 1) := by decide +kernel
theorem dX5_sizeOf_9 : decode cX5_sizeOf 9 = .ok (.istore_n 2, 1) := by decide +kernel
theorem dX5_sizeOf_10 : decode cX5_sizeOf 10 = .ok (.iload_n 2, 1) := by decide +kernel
theorem dX5_sizeOf_11 : decode cX5_sizeOf 11 = .ok (.iconst 5, 1) := by decide +kernel
theorem dX5_sizeOf_12 : decode cX5_sizeOf 12 = .ok (.if_icmp .ne 17, 3) := by decide +kernel
theorem dX5_sizeOf_15 : decode cX5_sizeOf 15 = .ok (.aload_n 0, 1) := by decide +kernel
theorem dX5_sizeOf_16 : decode cX5_sizeOf 16 = .ok (.bipush 14, 2) := by decide +kernel
theorem dX5_sizeOf_18 : decode cX5_sizeOf 18 = .ok (.invokevirtual 203, 3) := by decide +kernel
theorem dX5_sizeOf_21 : decode cX5_sizeOf 21 = .ok (.iconst 2, 1) := by decide +kernel
theorem dX5_sizeOf_22 : decode cX5_sizeOf 22 = .ok (.aload_n 0, 1) := by decide +kernel
theorem dX5_sizeOf_23 : decode cX5_sizeOf 23 = .ok (.iload_n 1, 1) := by decide +kernel
theorem dX5_sizeOf_24 : decode cX5_sizeOf 24 = .ok (.invokevirtual 209, 3) := by decide +kernel
theorem dX5_sizeOf_27 : decode cX5_sizeOf 27 = .ok (.imul, 1) := by decide +kernel
theorem dX5_sizeOf_28 : decode cX5_sizeOf 28 = .ok (.ireturn, 1) := by decide +kernel
