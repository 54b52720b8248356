theorem dX5_pass_183 : decode cX5_pass 183 = .ok (.goto (-71), 3) := by decide +kernel
theorem dX5_pass_186 : decode cX5_pass 186 = .ok (.iload_n 1, 1) := by decide +kernel
theorem dX5_pass_187 : decode cX5_pass 187 = .ok (.ireturn, 1) := by decide +kernel
theorem dX5_openOf_0 : decode cX5_openOf 0 = .ok (.iconst 0, 1) := by decide +kernel
theorem dX5_openOf_1 : decode cX5_openOf 1 = .ok (.istore_n 1, 1) := by decide +kernel
theorem dX5_openOf_2 : decode cX5_openOf 2 = .ok (.iconst 0, 1) := by decide +kernel
theorem dX5_openOf_3 : decode cX5_openOf 3 = .ok (.istore_n 2, 1) := by decide +kernel
theorem dX5_openOf_4 : decode cX5_openOf 4 = .ok (.iload_n 2, 1) := by decide +kernel
theorem dX5_openOf_5 : decode cX5_openOf 5 = .ok (.aload_n 0, 1) := by decide +kernel
theorem dX5_openOf_6 : decode cX5_openOf 6 = .ok (.iconst 2, 1) := by decide +kernel
theorem dX5_openOf_7 : decode cX5_openOf 7 = .ok (.iaload, 1) := by decide +kernel
theorem dX5_openOf_8 : decode cX5_openOf 8 = .ok (.if_icmp .ge 28, 3) := by decide +kernel
theorem dX5_openOf_11 : decode cX5_openOf 11 = .ok (.iload_n 1, 1) := by decide +kernel
theorem dX5_openOf_12 : decode cX5_openOf 12 = .ok (.aload_n 0, 1) := by decide +kernel
theorem dX5_openOf_13 : decode cX5_openOf 13 = .ok (.bipush 35, 2) := by decide +kernel
theorem dX5_openOf_15 : decode cX5_openOf 15 = .ok (.iload_n 2, 1) := by decide +kernel
theorem dX5_openOf_16 : decode cX5_openOf 16 = .ok (.iadd, 1) := by decide +kernel
theorem dX5_openOf_17 : decode cX5_openOf 17 = .ok (.iaload, 1) := by decide +kernel
theorem dX5_openOf_18 : decode cX5_openOf 18 = .ok (.ifCond .ne 9, 3) := by decide +kernel
theorem dX5_openOf_21 : decode cX5_openOf 21 = .ok (.iconst 1, 1) := by decide +kernel
theorem dX5_openOf_22 : decode cX5_openOf 22 = .ok (.iload_n 2, 1) := by decide +kernel
theorem dX5_openOf_23 : decode cX5_openOf 23 = .ok (.ishl, 1) := by decide +kernel
theorem dX5_openOf_24 : decode cX5_openOf 24 = .ok (.goto 4, 3) := by decide +kernel
theorem dX5_openOf_27 : decode cX5_openOf 27 = .ok (.iconst 0, 1) := by decide +kernel
theorem dX5_openOf_28 : decode cX5_openOf 28 = .ok (.ior, 1) := by decide +kernel
theorem dX5_openOf_29 : decode cX5_openOf 29 = .ok (.istore_n 1, 1) := by decide +kernel
theorem dX5_openOf_30 : decode cX5_openOf 30 = .ok (.iinc 2 1, 3) := by decide +kernel
theorem dX5_openOf_33 : decode cX5_openOf 33 = .ok (.goto (-29), 3) := by decide +kernel
theorem dX5_openOf_36 : decode cX5_openOf 36 = .ok (.iload_n 1, 1) := by decide +kernel
theorem dX5_openOf_37 : decode cX5_openOf 37 = .ok (.ireturn, 1) := by decide +kernel
theorem dX5_bits_0 : decode cX5_bits 0 = .ok (.iconst 0, 1) := by decide +kernel
theorem dX5_bits_1 : decode cX5_bits 1 = .ok (.istore_n 1, 1) := by decide +kernel
theorem dX5_bits_2 : decode cX5_bits 2 = .ok (.iconst 0, 1) := by decide +kernel
theorem dX5_bits_3 : decode cX5_bits 3 = .ok (.istore_n 2, 1) := by decide +kernel
theorem dX5_bits_4 : decode cX5_bits 4 = .ok (.iload_n 2, 1) := by decide +kernel
theorem dX5_bits_5 : decode cX5_bits 5 = .ok (.bipush 7, 2) := by decide +kernel
theorem dX5_bits_7 : decode cX5_bits 7 = .ok (.if_icmp .ge 17, 3) := by decide +kernel
theorem dX5_bits_10 : decode cX5_bits 10 = .ok (.iload_n 1, 1) := by decide +kernel
theorem dX5_bits_11 : decode cX5_bits 11 = .ok (.iload_n 0, 1) := by decide +kernel
theorem dX5_bits_12 : decode cX5_bits 12 = .ok (.iload_n 2, 1) := by decide +kernel
theorem dX5_bits_13 : decode cX5_bits 13 = .ok (.ishr, 1) := by decide +kernel
theorem dX5_bits_14 : decode cX5_bits 14 = .ok (.iconst 1, 1) := by decide +kernel
theorem dX5_bits_15 : decode cX5_bits 15 = .ok (.iand, 1) := by decide +kernel
theorem dX5_bits_16 : decode cX5_bits 16 = .ok (.iadd, 1) := by decide +kernel
theorem dX5_bits_17 : decode cX5_bits 17 = .ok (.istore_n 1, 1) := by decide +kernel
theorem dX5_bits_18 : decode cX5_bits 18 = .ok (.iinc 2 1, 3) := by decide +kernel
theorem dX5_bits_21 : decode cX5_bits 21 = .ok (.goto (-17), 3) := by decide +kernel
theorem dX5_bits_24 : decode cX5_bits 24 = .ok (.iload_n 1, 1) := by decide +kernel
theorem dX5_bits_25 : decode cX5_bits 25 = .ok (.ireturn, 1) := by decide +kernel
set_option maxRecDepth 20000 in
theorem ggX5_hours_X5_isRoute : GoodIn wsX5_hours wsX5_isRoute := goodIn_r _ [9, 3, 37, 38, 39, 40, 41, 42, 43, 44, 45, 46, 47, 48, 49, 50, 51, 52, 53, 54, 55, 56, 57, 58, 59] (by decide +kernel) (by decide +kernel)
set_option maxRecDepth 20000 in
theorem gX5_hours_X5_isRoute : GoodIn wsX5_hours (wsV RX5 144 RX5 yX5_isRoute wsX5_isRoute) := goodIn_app (goodIn_of _ (by decide +kernel)) ggX5_hours_X5_isRoute
set_option maxRecDepth 20000 in
theorem ggX5_hours_X5_in : GoodIn wsX5_hours wsX5_in := goodIn_r _ [12] (by decide +kernel) (by decide +kernel)
set_option maxRecDepth 20000 in
theorem gX5_hours_X5_in : GoodIn wsX5_hours (va_wsS RX5 50 yX5_in wsX5_in) := goodIn_app (goodIn_of _ (by decide +kernel)) ggX5_hours_X5_in
set_option maxRecDepth 20000 in
theorem ggX5_hours_X5_note : GoodIn wsX5_hours wsX5_note := goodIn_r _ [16, 17, 18, 3, 19, 20, 8, 21, 37, 38, 39, 40, 41, 42, 43, 44, 45, 46, 47, 48, 49, 50, 51, 52, 53, 54, 55, 56, 57, 58, 59] (by decide +kernel) (by decide +kernel)
set_option maxRecDepth 20000 in
theorem gX5_hours_X5_note : GoodIn wsX5_hours (wsV RX5 147 RX5 yX5_note wsX5_note) := goodIn_app (goodIn_of _ (by decide +kernel)) ggX5_hours_X5_note
set_option maxRecDepth 20000 in
theorem ggX5_hours_X5_pass : GoodIn wsX5_hours wsX5_pass := goodIn_r _ [24, 25, 26, 8, 27, 28, 29, 30, 31, 32, 33, 34, 35, 36] (by decide +kernel) (by decide +kernel)
set_option maxRecDepth 20000 in
theorem gX5_hours_X5_pass : GoodIn wsX5_hours (va_wsS RX5 150 yX5_pass wsX5_pass) := goodIn_app (goodIn_of _ (by decide +kernel)) ggX5_hours_X5_pass
theorem dX5_hours_0 : decode cX5_hours 0 = .ok (.aload_n 0, 1) := by decide +kernel
theorem dX5_hours_1 : decode cX5_hours 1 = .ok (.invokevirtual 144, 3) := by decide +kernel
theorem dX5_hours_4 : decode cX5_hours 4 = .ok (.ifCond .ne 6, 3) := by decide +kernel
theorem dX5_hours_7 : decode cX5_hours 7 = .ok (.ldc 130, 2) := by decide +kernel
theorem dX5_hours_9 : decode cX5_hours 9 = .ok (.ireturn, 1) := by decide +kernel
theorem dX5_hours_10 : decode cX5_hours 10 = .ok (.iload_n 1, 1) := by decide +kernel
theorem dX5_hours_11 : decode cX5_hours 11 = .ok (.iconst 1, 1) := by decide +kernel
theorem dX5_hours_12 : decode cX5_hours 12 = .ok (.bipush 24, 2) := by decide +kernel
theorem dX5_hours_14 : decode cX5_hours 14 = .ok (.invokestatic 50, 3) := by decide +kernel
theorem dX5_hours_17 : decode cX5_hours 17 = .ok (.ifCond .ne 6, 3) := by decide +kernel
theorem dX5_hours_20 : decode cX5_hours 20 = .ok (.ldc 63, 2) := by decide +kernel
theorem dX5_hours_22 : decode cX5_hours 22 = .ok (.ireturn, 1) := by decide +kernel
theorem dX5_hours_23 : decode cX5_hours 23 = .ok (.aload_n 0, 1) := by decide +kernel
theorem dX5_hours_24 : decode cX5_hours 24 = .ok (.getfield 22, 3) := by decide +kernel
theorem dX5_hours_27 : decode cX5_hours 27 = .ok (.iconst 3, 1) := by decide +kernel
theorem dX5_hours_28 : decode cX5_hours 28 = .ok (.iaload, 1) := by decide +kernel
theorem dX5_hours_29 : decode cX5_hours 29 = .ok (.iload_n 1, 1) := by decide +kernel
theorem dX5_hours_30 : decode cX5_hours 30 = .ok (.iadd, 1) := by decide +kernel
theorem dX5_hours_31 : decode cX5_hours 31 = .ok (.sipush 999, 3) := by decide +kernel
theorem dX5_hours_34 : decode cX5_hours 34 = .ok (.if_icmp .le 6, 3) := by decide +kernel
theorem dX5_hours_37 : decode cX5_hours 37 = .ok (.ldc 77, 2) := by decide +kernel
theorem dX5_hours_39 : decode cX5_hours 39 = .ok (.ireturn, 1) := by decide +kernel
theorem dX5_hours_40 : decode cX5_hours 40 = .ok (.iconst 0, 1) := by decide +kernel
theorem dX5_hours_41 : decode cX5_hours 41 = .ok (.istore_n 2, 1) := by decide +kernel
theorem dX5_hours_42 : decode cX5_hours 42 = .ok (.iload_n 2, 1) := by decide +kernel
theorem dX5_hours_43 : decode cX5_hours 43 = .ok (.iload_n 1, 1) := by decide +kernel
theorem dX5_hours_44 : decode cX5_hours 44 = .ok (.if_icmp .ge 21, 3) := by decide +kernel
theorem dX5_hours_47 : decode cX5_hours 47 = .ok (.aload_n 0, 1) := by decide +kernel
theorem dX5_hours_48 : decode cX5_hours 48 = .ok (.invokevirtual 147, 3) := by decide +kernel
theorem dX5_hours_51 : decode cX5_hours 51 = .ok (.aload_n 0, 1) := by decide +kernel
theorem dX5_hours_52 : decode cX5_hours 52 = .ok (.getfield 22, 3) := by decide +kernel
theorem dX5_hours_55 : decode cX5_hours 55 = .ok (.invokestatic 150, 3) := by decide +kernel
theorem dX5_hours_58 : decode cX5_hours 58 = .ok (.pop, 1) := by decide +kernel
theorem dX5_hours_59 : decode cX5_hours 59 = .ok (.iinc 2 1, 3) := by decide +kernel
theorem dX5_hours_62 : decode cX5_hours 62 = .ok (.goto (-20), 3) := by decide +kernel
theorem dX5_hours_65 : decode cX5_hours 65 = .ok (.aload_n 0, 1) := by decide +kernel
theorem dX5_hours_66 : decode cX5_hours 66 = .ok (.getfield 22, 3) := by decide +kernel
theorem dX5_hours_69 : decode cX5_hours 69 = .ok (.iconst 0, 1) := by decide +kernel
theorem dX5_hours_70 : decode cX5_hours 70 = .ok (.iaload, 1) := by decide +kernel
theorem dX5_hours_71 : decode cX5_hours 71 = .ok (.ireturn, 1) := by decide +kernel
set_option maxRecDepth 20000 in
theorem ggX5_swear_X5_isOne : GoodIn wsX5_swear wsX5_isOne := goodIn_r _ [7, 2, 8, 9, 6, 10, 26, 27, 28, 29, 30, 31, 32, 33, 34, 35, 36, 37, 38, 39, 40, 41, 42, 43, 44, 45, 46, 47, 48] (by decide +kernel) (by decide +kernel)
set_option maxRecDepth 20000 in
theorem gX5_swear_X5_isOne : GoodIn wsX5_swear (wsV RX5 154 RX5 yX5_isOne wsX5_isOne) := goodIn_app (goodIn_of _ (by decide +kernel)) ggX5_swear_X5_isOne
set_option maxRecDepth 20000 in
theorem ggX5_swear_X5_in : GoodIn wsX5_swear wsX5_in := goodIn_r _ [10] (by decide +kernel) (by decide +kernel)
set_option maxRecDepth 20000 in
theorem gX5_swear_X5_in : GoodIn wsX5_swear (va_wsS RX5 50 yX5_in wsX5_in) := goodIn_app (goodIn_of _ (by decide +kernel)) ggX5_swear_X5_in
set_option maxRecDepth 20000 in
theorem ggX5_swear_X5_note : GoodIn wsX5_swear wsX5_note := goodIn_r _ [14, 15, 16, 2, 17, 18, 6, 19, 26, 27, 28, 29, 30, 31, 32, 33, 34, 35, 36, 37, 38, 39, 40, 41, 42, 43, 44, 45, 46, 47, 48] (by decide +kernel) (by decide +kernel)
set_option maxRecDepth 20000 in
theorem gX5_swear_X5_note : GoodIn wsX5_swear (wsV RX5 147 RX5 yX5_note wsX5_note) := goodIn_app (goodIn_of _ (by decide +kernel)) ggX5_swear_X5_note
set_option maxRecDepth 20000 in
theorem ggX5_swear_X5_pullOf : GoodIn wsX5_swear wsX5_pullOf := goodIn_r _ [22, 23, 24, 6, 25] (by decide +kernel) (by decide +kernel)
set_option maxRecDepth 20000 in
theorem gX5_swear_X5_pullOf : GoodIn wsX5_swear (va_wsS RX5 134 yX5_pullOf wsX5_pullOf) := goodIn_app (goodIn_of _ (by decide +kernel)) ggX5_swear_X5_pullOf
theorem dX5_swear_0 : decode cX5_swear 0 = .ok (.aload_n 0, 1) := by decide +kernel
theorem dX5_swear_1 : decode cX5_swear 1 = .ok (.iload_n 1, 1) := by decide +kernel
theorem dX5_swear_2 : decode cX5_swear 2 = .ok (.invokevirtual 154, 3) := by decide +kernel
theorem dX5_swear_5 : decode cX5_swear 5 = .ok (.ifCond .eq 23, 3) := by decide +kernel
theorem dX5_swear_8 : decode cX5_swear 8 = .ok (.iload_n 2, 1) := by decide +kernel
theorem dX5_swear_9 : decode cX5_swear 9 = .ok (.iconst 0, 1) := by decide +kernel
theorem dX5_swear_10 : decode cX5_swear 10 = .ok (.bipush 9, 2) := by decide +kernel
theorem dX5_swear_12 : decode cX5_swear 12 = .ok (.invokestatic 50, 3) := by decide +kernel
theorem dX5_swear_15 : decode cX5_swear 15 = .ok (.ifCond .eq 13, 3) := by decide +kernel
theorem dX5_swear_18 : decode cX5_swear 18 = .ok (.iload_n 3, 1) := by decide +kernel
theorem dX5_swear_19 : decode cX5_swear 19 = .ok (.iconst 1, 1) := by decide +kernel
theorem dX5_swear_20 : decode cX5_swear 20 = .ok (.bipush 20, 2) := by decide +kernel
theorem dX5_swear_22 : decode cX5_swear 22 = .ok (.invokestatic 50, 3) := by decide +kernel
theorem dX5_swear_25 : decode cX5_swear 25 = .ok (.ifCond .ne 6, 3) := by decide +kernel
theorem dX5_swear_28 : decode cX5_swear 28 = .ok (.ldc 63, 2) := by decide +kernel
theorem dX5_swear_30 : decode cX5_swear 30 = .ok (.ireturn, 1) := by decide +kernel
theorem dX5_swear_31 : decode cX5_swear 31 = .ok (.aload_n 0, 1) := by decide +kernel
theorem dX5_swear_32 : decode cX5_swear 32 = .ok (.invokevirtual 147, 3) := by decide +kernel
theorem dX5_swear_35 : decode cX5_swear 35 = .ok (.aload_n 0, 1) := by decide +kernel
theorem dX5_swear_36 : decode cX5_swear 36 = .ok (.getfield 22, 3) := by decide +kernel
theorem dX5_swear_39 : decode cX5_swear 39 = .ok (.bipush 14, 2) := by decide +kernel
theorem dX5_swear_41 : decode cX5_swear 41 = .ok (.iload_n 1, 1) := by decide +kernel
theorem dX5_swear_42 : decode cX5_swear 42 = .ok (.iadd, 1) := by decide +kernel
theorem dX5_swear_43 : decode cX5_swear 43 = .ok (.iload_n 2, 1) := by decide +kernel
theorem dX5_swear_44 : decode cX5_swear 44 = .ok (.iastore, 1) := by decide +kernel
theorem dX5_swear_45 : decode cX5_swear 45 = .ok (.aload_n 0, 1) := by decide +kernel
theorem dX5_swear_46 : decode cX5_swear 46 = .ok (.getfield 22, 3) := by decide +kernel
theorem dX5_swear_49 : decode cX5_swear 49 = .ok (.bipush 21, 2) := by decide +kernel
theorem dX5_swear_51 : decode cX5_swear 51 = .ok (.iload_n 1, 1) := by decide +kernel
theorem dX5_swear_52 : decode cX5_swear 52 = .ok (.iadd, 1) := by decide +kernel
theorem dX5_swear_53 : decode cX5_swear 53 = .ok (.iload_n 3, 1) := by decide +kernel
theorem dX5_swear_54 : decode cX5_swear 54 = .ok (.iastore, 1) := by decide +kernel
theorem dX5_swear_55 : decode cX5_swear 55 = .ok (.aload_n 0, 1) := by decide +kernel
theorem dX5_swear_56 : decode cX5_swear 56 = .ok (.getfield 22, 3) := by decide +kernel
theorem dX5_swear_59 : decode cX5_swear 59 = .ok (.bipush 35, 2) := by decide +kernel
theorem dX5_swear_61 : decode cX5_swear 61 = .ok (.iload_n 1, 1) := by decide +kernel
theorem dX5_swear_62 : decode cX5_swear 62 = .ok (.iadd, 1) := by decide +kernel
theorem dX5_swear_63 : decode cX5_swear 63 = .ok (.iconst 0, 1) := by decide +kernel
theorem dX5_swear_64 : decode cX5_swear 64 = .ok (.iastore, 1) := by decide +kernel
theorem dX5_swear_65 : decode cX5_swear 65 = .ok (.aload_n 0, 1) := by decide +kernel
theorem dX5_swear_66 : decode cX5_swear 66 = .ok (.getfield 22, 3) := by decide +kernel
theorem dX5_swear_69 : decode cX5_swear 69 = .ok (.iload_n 1, 1) := by decide +kernel
theorem dX5_swear_70 : decode cX5_swear 70 = .ok (.invokestatic 134, 3) := by decide +kernel
theorem dX5_swear_73 : decode cX5_swear 73 = .ok (.ireturn, 1) := by decide +kernel
set_option maxRecDepth 20000 in
theorem ggX5_buy_X5_isOne : GoodIn wsX5_buy wsX5_isOne := goodIn_r _ [8, 2, 9, 10, 7, 11, 27, 28, 29, 30, 31, 32, 33, 34, 35, 36, 37, 38, 39, 40, 41, 42, 43, 44, 45, 46, 47, 48, 49] (by decide +kernel) (by decide +kernel)
set_option maxRecDepth 20000 in
theorem gX5_buy_X5_isOne : GoodIn wsX5_buy (wsV RX5 154 RX5 yX5_isOne wsX5_isOne) := goodIn_app (goodIn_of _ (by decide +kernel)) ggX5_buy_X5_isOne
set_option maxRecDepth 20000 in
theorem ggX5_buy_X5_note : GoodIn wsX5_buy wsX5_note := goodIn_r _ [15, 16, 17, 2, 18, 19, 7, 20, 27, 28, 29, 30, 31, 32, 33, 34, 35, 36, 37, 38, 39, 40, 41, 42, 43, 44, 45, 46, 47, 48, 49] (by decide +kernel) (by decide +kernel)
set_option maxRecDepth 20000 in
theorem gX5_buy_X5_note : GoodIn wsX5_buy (wsV RX5 147 RX5 yX5_note wsX5_note) := goodIn_app (goodIn_of _ (by decide +kernel)) ggX5_buy_X5_note
set_option maxRecDepth 20000 in
theorem ggX5_buy_X5_openOf : GoodIn wsX5_buy wsX5_openOf := goodIn_r _ [23] (by decide +kernel) (by decide +kernel)
set_option maxRecDepth 20000 in
theorem gX5_buy_X5_openOf : GoodIn wsX5_buy (va_wsS RX5 157 yX5_openOf wsX5_openOf) := goodIn_app (goodIn_of _ (by decide +kernel)) ggX5_buy_X5_openOf
set_option maxRecDepth 20000 in
theorem ggX5_buy_X5_bits : GoodIn wsX5_buy wsX5_bits := goodIn_r _ [26] (by decide +kernel) (by decide +kernel)
set_option maxRecDepth 20000 in
theorem gX5_buy_X5_bits : GoodIn wsX5_buy (va_wsS RX5 160 yX5_bits wsX5_bits) := goodIn_app (goodIn_of _ (by decide +kernel)) ggX5_buy_X5_bits
theorem dX5_buy_0 : decode cX5_buy 0 = .ok (.aload_n 0, 1) := by decide +kernel
theorem dX5_buy_1 : decode cX5_buy 1 = .ok (.iload_n 1, 1) := by decide +kernel
theorem dX5_buy_2 : decode cX5_buy 2 = .ok (.invokevirtual 154, 3) := by decide +kernel
theorem dX5_buy_5 : decode cX5_buy 5 = .ok (.ifCond .ne 6, 3) := by decide +kernel
theorem dX5_buy_8 : decode cX5_buy 8 = .ok (.ldc 63, 2) := by decide +kernel
theorem dX5_buy_10 : decode cX5_buy 10 = .ok (.ireturn, 1) := by decide +kernel
theorem dX5_buy_11 : decode cX5_buy 11 = .ok (.aload_n 0, 1) := by decide +kernel
theorem dX5_buy_12 : decode cX5_buy 12 = .ok (.getfield 22, 3) := by decide +kernel
theorem dX5_buy_15 : decode cX5_buy 15 = .ok (.bipush 35, 2) := by decide +kernel
theorem dX5_buy_17 : decode cX5_buy 17 = .ok (.iload_n 1, 1) := by decide +kernel
theorem dX5_buy_18 : decode cX5_buy 18 = .ok (.iadd, 1) := by decide +kernel
theorem dX5_buy_19 : decode cX5_buy 19 = .ok (.iaload, 1) := by decide +kernel
theorem dX5_buy_20 : decode cX5_buy 20 = .ok (.ifCond .eq 6, 3) := by decide +kernel
theorem dX5_buy_23 : decode cX5_buy 23 = .ok (.ldc 130, 2) := by decide +kernel
theorem dX5_buy_25 : decode cX5_buy 25 = .ok (.ireturn, 1) := by decide +kernel
theorem dX5_buy_26 : decode cX5_buy 26 = .ok (.aload_n 0, 1) := by decide +kernel
theorem dX5_buy_27 : decode cX5_buy 27 = .ok (.invokevirtual 147, 3) := by decide +kernel
theorem dX5_buy_30 : decode cX5_buy 30 = .ok (.aload_n 0, 1) := by decide +kernel
theorem dX5_buy_31 : decode cX5_buy 31 = .ok (.getfield 22, 3) := by decide +kernel
theorem dX5_buy_34 : decode cX5_buy 34 = .ok (.bipush 35, 2) := by decide +kernel
theorem dX5_buy_36 : decode cX5_buy 36 = .ok (.iload_n 1, 1) := by decide +kernel
theorem dX5_buy_37 : decode cX5_buy 37 = .ok (.iadd, 1) := by decide +kernel
theorem dX5_buy_38 : decode cX5_buy 38 = .ok (.iconst 3, 1) := by decide +kernel
theorem dX5_buy_39 : decode cX5_buy 39 = .ok (.iastore, 1) := by decide +kernel
theorem dX5_buy_40 : decode cX5_buy 40 = .ok (.aload_n 0, 1) := by decide +kernel
theorem dX5_buy_41 : decode cX5_buy 41 = .ok (.getfield 22, 3) := by decide +kernel
theorem dX5_buy_44 : decode cX5_buy 44 = .ok (.invokestatic 157, 3) := by decide +kernel
theorem dX5_buy_47 : decode cX5_buy 47 = .ok (.invokestatic 160, 3) := by decide +kernel
theorem dX5_buy_50 : decode cX5_buy 50 = .ok (.ireturn, 1) := by decide +kernel
set_option maxRecDepth 20000 in
theorem ggX5_snow_X5_isRoute : GoodIn wsX5_snow wsX5_isRoute := goodIn_r _ [8, 3, 21, 22, 23, 24, 25, 26, 27, 28, 29, 30, 31, 32, 33, 34, 35, 36, 37, 38, 39, 40, 41, 42, 43] (by decide +kernel) (by decide +kernel)
set_option maxRecDepth 20000 in
theorem gX5_snow_X5_isRoute : GoodIn wsX5_snow (wsV RX5 144 RX5 yX5_isRoute wsX5_isRoute) := goodIn_app (goodIn_of _ (by decide +kernel)) ggX5_snow_X5_isRoute
set_option maxRecDepth 20000 in
theorem ggX5_snow_X5_in : GoodIn wsX5_snow wsX5_in := goodIn_r _ [11] (by decide +kernel) (by decide +kernel)
set_option maxRecDepth 20000 in
theorem gX5_snow_X5_in : GoodIn wsX5_snow (va_wsS RX5 50 yX5_in wsX5_in) := goodIn_app (goodIn_of _ (by decide +kernel)) ggX5_snow_X5_in
set_option maxRecDepth 20000 in
theorem ggX5_snow_X5_note : GoodIn wsX5_snow wsX5_note := goodIn_r _ [15, 16, 17, 3, 18, 19, 7, 20, 21, 22, 23, 24, 25, 26, 27, 28, 29, 30, 31, 32, 33, 34, 35, 36, 37, 38, 39, 40, 41, 42, 43] (by decide +kernel) (by decide +kernel)
set_option maxRecDepth 20000 in
theorem gX5_snow_X5_note : GoodIn wsX5_snow (wsV RX5 147 RX5 yX5_note wsX5_note) := goodIn_app (goodIn_of _ (by decide +kernel)) ggX5_snow_X5_note
theorem dX5_snow_0 : decode cX5_snow 0 = .ok (.aload_n 0, 1) := by decide +kernel
theorem dX5_snow_1 : decode cX5_snow 1 = .ok (.invokevirtual 144, 3) := by decide +kernel
theorem dX5_snow_4 : decode cX5_snow 4 = .ok (.ifCond .ne 6, 3) := by decide +kernel
theorem dX5_snow_7 : decode cX5_snow 7 = .ok (.ldc 130, 2) := by decide +kernel
theorem dX5_snow_9 : decode cX5_snow 9 = .ok (.ireturn, 1) := by decide +kernel
theorem dX5_snow_10 : decode cX5_snow 10 = .ok (.iload_n 1, 1) := by decide +kernel
theorem dX5_snow_11 : decode cX5_snow 11 = .ok (.iconst 0, 1) := by decide +kernel
theorem dX5_snow_12 : decode cX5_snow 12 = .ok (.bipush 9, 2) := by decide +kernel
theorem dX5_snow_14 : decode cX5_snow 14 = .ok (.invokestatic 50, 3) := by decide +kernel
theorem dX5_snow_17 : decode cX5_snow 17 = .ok (.ifCond .eq 12, 3) := by decide +kernel
theorem dX5_snow_20 : decode cX5_snow 20 = .ok (.iload_n 2, 1) := by decide +kernel
theorem dX5_snow_21 : decode cX5_snow 21 = .ok (.iconst 0, 1) := by decide +kernel
theorem dX5_snow_22 : decode cX5_snow 22 = .ok (.iconst 1, 1) := by decide +kernel
theorem dX5_snow_23 : decode cX5_snow 23 = .ok (.invokestatic 50, 3) := by decide +kernel
theorem dX5_snow_26 : decode cX5_snow 26 = .ok (.ifCond .ne 6, 3) := by decide +kernel
theorem dX5_snow_29 : decode cX5_snow 29 = .ok (.ldc 63, 2) := by decide +kernel
theorem dX5_snow_31 : decode cX5_snow 31 = .ok (.ireturn, 1) := by decide +kernel
theorem dX5_snow_32 : decode cX5_snow 32 = .ok (.aload_n 0, 1) := by decide +kernel
theorem dX5_snow_33 : decode cX5_snow 33 = .ok (.getfield 22, 3) := by decide +kernel
theorem dX5_snow_36 : decode cX5_snow 36 = .ok (.iconst 4, 1) := by decide +kernel
theorem dX5_snow_37 : decode cX5_snow 37 = .ok (.iaload, 1) := by decide +kernel
theorem dX5_snow_38 : decode cX5_snow 38 = .ok (.iload_n 1, 1) := by decide +kernel
theorem dX5_snow_39 : decode cX5_snow 39 = .ok (.ishr, 1) := by decide +kernel
theorem dX5_snow_40 : decode cX5_snow 40 = .ok (.iconst 1, 1) := by decide +kernel
theorem dX5_snow_41 : decode cX5_snow 41 = .ok (.iand, 1) := by decide +kernel
theorem dX5_snow_42 : decode cX5_snow 42 = .ok (.iload_n 2, 1) := by decide +kernel
theorem dX5_snow_43 : decode cX5_snow 43 = .ok (.if_icmp .ne 6, 3) := by decide +kernel
theorem dX5_snow_46 : decode cX5_snow 46 = .ok (.ldc 130, 2) := by decide +kernel
theorem dX5_snow_48 : decode cX5_snow 48 = .ok (.ireturn, 1) := by decide +kernel
theorem dX5_snow_49 : decode cX5_snow 49 = .ok (.aload_n 0, 1) := by decide +kernel
theorem dX5_snow_50 : decode cX5_snow 50 = .ok (.invokevirtual 147, 3) := by decide +kernel
theorem dX5_snow_53 : decode cX5_snow 53 = .ok (.aload_n 0, 1) := by decide +kernel
theorem dX5_snow_54 : decode cX5_snow 54 = .ok (.getfield 22, 3) := by decide +kernel
theorem dX5_snow_57 : decode cX5_snow 57 = .ok (.iconst 4, 1) := by decide +kernel
theorem dX5_snow_58 : decode cX5_snow 58 = .ok (.aload_n 0, 1) := by decide +kernel
theorem dX5_snow_59 : decode cX5_snow 59 = .ok (.getfield 22, 3) := by decide +kernel
theorem dX5_snow_62 : decode cX5_snow 62 = .ok (.iconst 4, 1) := by decide +kernel
theorem dX5_snow_63 : decode cX5_snow 63 = .ok (.iaload, 1) := by decide +kernel
theorem dX5_snow_64 : decode cX5_snow 64 = .ok (.iconst 1, 1) := by decide +kernel
theorem dX5_snow_65 : decode cX5_snow 65 = .ok (.iload_n 1, 1) := by decide +kernel
theorem dX5_snow_66 : decode cX5_snow 66 = .ok (.ishl, 1) := by decide +kernel
theorem dX5_snow_67 : decode cX5_snow 67 = .ok (.ixor, 1) := by decide +kernel
theorem dX5_snow_68 : decode cX5_snow 68 = .ok (.iastore, 1) := by decide +kernel
theorem dX5_snow_69 : decode cX5_snow 69 = .ok (.aload_n 0, 1) := by decide +kernel
theorem dX5_snow_70 : decode cX5_snow 70 = .ok (.getfield 22, 3) := by decide +kernel
theorem dX5_snow_73 : decode cX5_snow 73 = .ok (.iconst 4, 1) := by decide +kernel
theorem dX5_snow_74 : decode cX5_snow 74 = .ok (.iaload, 1) := by decide +kernel
theorem dX5_snow_75 : decode cX5_snow 75 = .ok (.ireturn, 1) := by decide +kernel
set_option maxRecDepth 20000 in
theorem ggX5_oath_X5_isOne : GoodIn wsX5_oath wsX5_isOne := goodIn_r _ [7, 2, 8, 9, 6, 10, 17, 18, 19, 20, 21, 22, 23, 24, 25, 26, 27, 28, 29, 30, 31, 32, 33, 34, 35, 36, 37, 38, 39] (by decide +kernel) (by decide +kernel)
set_option maxRecDepth 20000 in
theorem gX5_oath_X5_isOne : GoodIn wsX5_oath (wsV RX5 154 RX5 yX5_isOne wsX5_isOne) := goodIn_app (goodIn_of _ (by decide +kernel)) ggX5_oath_X5_isOne
set_option maxRecDepth 20000 in
theorem ggX5_oath_X5_in : GoodIn wsX5_oath wsX5_in := goodIn_r _ [10] (by decide +kernel) (by decide +kernel)
set_option maxRecDepth 20000 in
theorem gX5_oath_X5_in : GoodIn wsX5_oath (va_wsS RX5 50 yX5_in wsX5_in) := goodIn_app (goodIn_of _ (by decide +kernel)) ggX5_oath_X5_in
set_option maxRecDepth 20000 in
theorem ggX5_oath_X5_pullOf : GoodIn wsX5_oath wsX5_pullOf := goodIn_r _ [13, 14, 15, 6, 16] (by decide +kernel) (by decide +kernel)
set_option maxRecDepth 20000 in
theorem gX5_oath_X5_pullOf : GoodIn wsX5_oath (va_wsS RX5 134 yX5_pullOf wsX5_pullOf) := goodIn_app (goodIn_of _ (by decide +kernel)) ggX5_oath_X5_pullOf
theorem dX5_oath_0 : decode cX5_oath 0 = .ok (.aload_n 0, 1) := by decide +kernel
theorem dX5_oath_1 : decode cX5_oath 1 = .ok (.iload_n 1, 1) := by decide +kernel
theorem dX5_oath_2 : decode cX5_oath 2 = .ok (.invokevirtual 154, 3) := by decide +kernel
theorem dX5_oath_5 : decode cX5_oath 5 = .ok (.ifCond .eq 12, 3) := by decide +kernel
theorem dX5_oath_8 : decode cX5_oath 8 = .ok (.iload_n 2, 1) := by decide +kernel
theorem dX5_oath_9 : decode cX5_oath 9 = .ok (.iconst 0, 1) := by decide +kernel
theorem dX5_oath_10 : decode cX5_oath 10 = .ok (.iconst 4, 1) := by decide +kernel
theorem dX5_oath_11 : decode cX5_oath 11 = .ok (.invokestatic 50, 3) := by decide +kernel
theorem dX5_oath_14 : decode cX5_oath 14 = .ok (.ifCond .ne 6, 3) := by decide +kernel
theorem dX5_oath_17 : decode cX5_oath 17 = .ok (.ldc 63, 2) := by decide +kernel
theorem dX5_oath_19 : decode cX5_oath 19 = .ok (.ireturn, 1) := by decide +kernel
theorem dX5_oath_20 : decode cX5_oath 20 = .ok (.iload_n 2, 1) := by decide +kernel
theorem dX5_oath_21 : decode cX5_oath 21 = .ok (.iconst 4, 1) := by decide +kernel
theorem dX5_oath_22 : decode cX5_oath 22 = .ok (.if_icmp .ne 14, 3) := by decide +kernel
theorem dX5_oath_25 : decode cX5_oath 25 = .ok (.aload_n 0, 1) := by decide +kernel
theorem dX5_oath_26 : decode cX5_oath 26 = .ok (.getfield 22, 3) := by decide +kernel
theorem dX5_oath_29 : decode cX5_oath 29 = .ok (.iload_n 1, 1) := by decide +kernel
theorem dX5_oath_30 : decode cX5_oath 30 = .ok (.invokestatic 134, 3) := by decide +kernel
theorem dX5_oath_33 : decode cX5_oath 33 = .ok (.goto 17, 3) := by decide +kernel
theorem dX5_oath_36 : decode cX5_oath 36 = .ok (.aload_n 0, 1) := by decide +kernel
theorem dX5_oath_37 : decode cX5_oath 37 = .ok (.getfield 22, 3) := by decide +kernel
theorem dX5_oath_40 : decode cX5_oath 40 = .ok (.bipush 14, 2) := by decide +kernel
theorem dX5_oath_42 : decode cX5_oath 42 = .ok (.bipush 7, 2) := by decide +kernel
theorem dX5_oath_44 : decode cX5_oath 44 = .ok (.iload_n 2, 1) := by decide +kernel
theorem dX5_oath_45 : decode cX5_oath 45 = .ok (.imul, 1) := by decide +kernel
theorem dX5_oath_46 : decode cX5_oath 46 = .ok (.iadd, 1) := by decide +kernel
theorem dX5_oath_47 : decode cX5_oath 47 = .ok (.iload_n 1, 1) := by decide +kernel
theorem dX5_oath_48 : decode cX5_oath 48 = .ok (.iadd, 1) := by decide +kernel
theorem dX5_oath_49 : decode cX5_oath 49 = .ok (.iaload, 1) := by decide +kernel
theorem dX5_oath_50 : decode cX5_oath 50 = .ok (.ireturn, 1) := by decide +kernel
set_option maxRecDepth 20000 in
theorem ggX5_coach_X5_isRoute : GoodIn wsX5_coach wsX5_isRoute := goodIn_r _ [9, 2, 22, 23, 24, 25, 26, 27, 28, 29, 30, 31, 32, 33, 34, 35, 36, 37, 38, 39, 40, 41, 42, 43, 44] (by decide +kernel) (by decide +kernel)
set_option maxRecDepth 20000 in
theorem gX5_coach_X5_isRoute : GoodIn wsX5_coach (wsV RX5 144 RX5 yX5_isRoute wsX5_isRoute) := goodIn_app (goodIn_of _ (by decide +kernel)) ggX5_coach_X5_isRoute
set_option maxRecDepth 20000 in
theorem ggX5_coach_X5_pullerOf : GoodIn wsX5_coach wsX5_pullerOf := goodIn_r _ [12, 13, 14, 8, 15, 16, 17, 18] (by decide +kernel) (by decide +kernel)
set_option maxRecDepth 20000 in
theorem gX5_coach_X5_pullerOf : GoodIn wsX5_coach (va_wsS RX5 138 yX5_pullerOf wsX5_pullerOf) := goodIn_app (goodIn_of _ (by decide +kernel)) ggX5_coach_X5_pullerOf
set_option maxRecDepth 20000 in
theorem ggX5_coach_X5_openOf : GoodIn wsX5_coach wsX5_openOf := goodIn_r _ [21] (by decide +kernel) (by decide +kernel)
set_option maxRecDepth 20000 in
theorem gX5_coach_X5_openOf : GoodIn wsX5_coach (va_wsS RX5 157 yX5_openOf wsX5_openOf) := goodIn_app (goodIn_of _ (by decide +kernel)) ggX5_coach_X5_openOf
theorem dX5_coach_0 : decode cX5_coach 0 = .ok (.aload_n 0, 1) := by decide +kernel
theorem dX5_coach_1 : decode cX5_coach 1 = .ok (.invokevirtual 144, 3) := by decide +kernel
theorem dX5_coach_4 : decode cX5_coach 4 = .ok (.ifCond .ne 6, 3) := by decide +kernel
theorem dX5_coach_7 : decode cX5_coach 7 = .ok (.ldc 130, 2) := by decide +kernel
theorem dX5_coach_9 : decode cX5_coach 9 = .ok (.ireturn, 1) := by decide +kernel
theorem dX5_coach_10 : decode cX5_coach 10 = .ok (.iload_n 1, 1) := by decide +kernel
theorem dX5_coach_11 : decode cX5_coach 11 = .ok (.tableswitch 82 0 4 #[33, 40, 60, 68, 75], 33) := by decide +kernel
theorem dX5_coach_44 : decode cX5_coach 44 = .ok (.aload_n 0, 1) := by decide +kernel
theorem dX5_coach_45 : decode cX5_coach 45 = .ok (.getfield 22, 3) := by decide +kernel
theorem dX5_coach_48 : decode cX5_coach 48 = .ok (.iconst 0, 1) := by decide +kernel
theorem dX5_coach_49 : decode cX5_coach 49 = .ok (.iaload, 1) := by decide +kernel
theorem dX5_coach_50 : decode cX5_coach 50 = .ok (.ireturn, 1) := by decide +kernel
theorem dX5_coach_51 : decode cX5_coach 51 = .ok (.aload_n 0, 1) := by decide +kernel
theorem dX5_coach_52 : decode cX5_coach 52 = .ok (.getfield 22, 3) := by decide +kernel
theorem dX5_coach_55 : decode cX5_coach 55 = .ok (.iconst 0, 1) := by decide +kernel
theorem dX5_coach_56 : decode cX5_coach 56 = .ok (.invokestatic 138, 3) := by decide +kernel
theorem dX5_coach_59 : decode cX5_coach 59 = .ok (.istore_n 2, 1) := by decide +kernel
theorem dX5_coach_60 : decode cX5_coach 60 = .ok (.iload_n 2, 1) := by decide +kernel
theorem dX5_coach_61 : decode cX5_coach 61 = .ok (.ifCond .ge 8, 3) := by decide +kernel
theorem dX5_coach_64 : decode cX5_coach 64 = .ok (.ldc 163, 2) := by decide +kernel
theorem dX5_coach_66 : decode cX5_coach 66 = .ok (.goto 4, 3) := by decide +kernel
theorem dX5_coach_69 : decode cX5_coach 69 = .ok (.iload_n 2, 1) := by decide +kernel
theorem dX5_coach_70 : decode cX5_coach 70 = .ok (.ireturn, 1) := by decide +kernel
theorem dX5_coach_71 : decode cX5_coach 71 = .ok (.aload_n 0, 1) := by decide +kernel
theorem dX5_coach_72 : decode cX5_coach 72 = .ok (.getfield 22, 3) := by decide +kernel
theorem dX5_coach_75 : decode cX5_coach 75 = .ok (.invokestatic 157, 3) := by decide +kernel
theorem dX5_coach_78 : decode cX5_coach 78 = .ok (.ireturn, 1) := by decide +kernel
theorem dX5_coach_79 : decode cX5_coach 79 = .ok (.aload_n 0, 1) := by decide +kernel
theorem dX5_coach_80 : decode cX5_coach 80 = .ok (.getfield 22, 3) := by decide +kernel
theorem dX5_coach_83 : decode cX5_coach 83 = .ok (.iconst 4, 1) := by decide +kernel
theorem dX5_coach_84 : decode cX5_coach 84 = .ok (.iaload, 1) := by decide +kernel
theorem dX5_coach_85 : decode cX5_coach 85 = .ok (.ireturn, 1) := by decide +kernel
theorem dX5_coach_86 : decode cX5_coach 86 = .ok (.aload_n 0, 1) := by decide +kernel
theorem dX5_coach_87 : decode cX5_coach 87 = .ok (.getfield 22, 3) := by decide +kernel
theorem dX5_coach_90 : decode cX5_coach 90 = .ok (.iconst 1, 1) := by decide +kernel
theorem dX5_coach_91 : decode cX5_coach 91 = .ok (.iaload, 1) := by decide +kernel
theorem dX5_coach_92 : decode cX5_coach 92 = .ok (.ireturn, 1) := by decide +kernel
theorem dX5_coach_93 : decode cX5_coach 93 = .ok (.ldc 63, 2) := by decide +kernel
theorem dX5_coach_95 : decode cX5_coach 95 = .ok (.ireturn, 1) := by decide +kernel
set_option maxRecDepth 20000 in
theorem ggX5_goOn_X5_pass : GoodIn wsX5_goOn wsX5_pass := goodIn_r _ [5, 6, 7, 4, 8, 9, 10, 11, 12, 13, 14, 15, 16, 17] (by decide +kernel) (by decide +kernel)
set_option maxRecDepth 20000 in
theorem gX5_goOn_X5_pass : GoodIn wsX5_goOn (va_wsS RX5 150 yX5_pass wsX5_pass) := goodIn_app (goodIn_of _ (by decide +kernel)) ggX5_goOn_X5_pass
theorem dX5_goOn_0 : decode cX5_goOn 0 = .ok (.iconst 0, 1) := by decide +kernel
theorem dX5_goOn_1 : decode cX5_goOn 1 = .ok (.istore_n 2, 1) := by decide +kernel
theorem dX5_goOn_2 : decode cX5_goOn 2 = .ok (.iload_n 2, 1) := by decide +kernel
theorem dX5_goOn_3 : decode cX5_goOn 3 = .ok (.iload_n 1, 1) := by decide +kernel
theorem dX5_goOn_4 : decode cX5_goOn 4 = .ok (.if_icmp .ge 17, 3) := by decide +kernel
theorem dX5_goOn_7 : decode cX5_goOn 7 = .ok (.aload_n 0, 1) := by decide +kernel
theorem dX5_goOn_8 : decode cX5_goOn 8 = .ok (.getfield 28, 3) := by decide +kernel
theorem dX5_goOn_11 : decode cX5_goOn 11 = .ok (.invokestatic 150, 3) := by decide +kernel
theorem dX5_goOn_14 : decode cX5_goOn 14 = .ok (.pop, 1) := by decide +kernel
theorem dX5_goOn_15 : decode cX5_goOn 15 = .ok (.iinc 2 1, 3) := by decide +kernel
theorem dX5_goOn_18 : decode cX5_goOn 18 = .ok (.goto (-16), 3) := by decide +kernel
theorem dX5_goOn_21 : decode cX5_goOn 21 = .ok (.aload_n 0, 1) := by decide +kernel
theorem dX5_goOn_22 : decode cX5_goOn 22 = .ok (.getfield 28, 3) := by decide +kernel
theorem dX5_goOn_25 : decode cX5_goOn 25 = .ok (.iconst 0, 1) := by decide +kernel
theorem dX5_goOn_26 : decode cX5_goOn 26 = .ok (.iaload, 1) := by decide +kernel
theorem dX5_goOn_27 : decode cX5_goOn 27 = .ok (.ireturn, 1) := by decide +kernel
set_option maxRecDepth 20000 in
theorem ggX5_begin_X5_lay : GoodIn wsX5_begin wsX5_lay := goodIn_r _ [6] (by decide +kernel) (by decide +kernel)
set_option maxRecDepth 20000 in
theorem gX5_begin_X5_lay : GoodIn wsX5_begin (va_wsS RX5 123 yX5_lay wsX5_lay) := goodIn_app (goodIn_of _ (by decide +kernel)) ggX5_begin_X5_lay
theorem dX5_begin_0 : decode cX5_begin 0 = .ok (.aload_n 0, 1) := by decide +kernel
theorem dX5_begin_1 : decode cX5_begin 1 = .ok (.getfield 22, 3) := by decide +kernel
theorem dX5_begin_4 : decode cX5_begin 4 = .ok (.iconst 0, 1) := by decide +kernel
theorem dX5_begin_5 : decode cX5_begin 5 = .ok (.aload_n 0, 1) := by decide +kernel
theorem dX5_begin_6 : decode cX5_begin 6 = .ok (.getfield 28, 3) := by decide +kernel
theorem dX5_begin_9 : decode cX5_begin 9 = .ok (.iconst 0, 1) := by decide +kernel
theorem dX5_begin_10 : decode cX5_begin 10 = .ok (.invokestatic 123, 3) := by decide +kernel
theorem dX5_begin_13 : decode cX5_begin 13 = .ok (.return_, 1) := by decide +kernel
set_option maxRecDepth 20000 in
theorem ggX5_ahead_X5_isRoute : GoodIn wsX5_ahead wsX5_isRoute := goodIn_r _ [7, 8, 39, 40, 41, 42, 43, 44, 45, 46, 47, 48, 49, 50, 51, 52, 53, 54, 55, 56, 57, 58, 59, 60, 61] (by decide +kernel) (by decide +kernel)
set_option maxRecDepth 20000 in
theorem gX5_ahead_X5_isRoute : GoodIn wsX5_ahead (wsV RX5 144 RX5 yX5_isRoute wsX5_isRoute) := goodIn_app (goodIn_of _ (by decide +kernel)) ggX5_ahead_X5_isRoute
set_option maxRecDepth 20000 in
theorem ggX5_ahead_X5_in : GoodIn wsX5_ahead wsX5_in := goodIn_r _ [11] (by decide +kernel) (by decide +kernel)
set_option maxRecDepth 20000 in
theorem gX5_ahead_X5_in : GoodIn wsX5_ahead (va_wsS RX5 50 yX5_in wsX5_in) := goodIn_app (goodIn_of _ (by decide +kernel)) ggX5_ahead_X5_in
set_option maxRecDepth 20000 in
theorem ggX5_ahead_X5_begin : GoodIn wsX5_ahead wsX5_begin := goodIn_r _ [15, 8, 16, 17, 18, 6, 19, 39, 40, 41, 42, 43, 44, 45, 46, 47, 48, 49, 50, 51, 52, 53, 54, 55, 56, 57, 58, 59, 60, 61] (by decide +kernel) (by decide +kernel)
set_option maxRecDepth 20000 in
theorem gX5_ahead_X5_begin : GoodIn wsX5_ahead (wsV RX5 164 RX5 yX5_begin wsX5_begin) := goodIn_app (goodIn_of _ (by decide +kernel)) ggX5_ahead_X5_begin
set_option maxRecDepth 20000 in
theorem ggX5_ahead_X5_goOn : GoodIn wsX5_ahead wsX5_goOn := goodIn_r _ [23, 16, 24, 25, 6, 26, 27, 28, 29, 30, 31, 32, 33, 34, 35, 36, 37, 38, 39, 40, 41, 42, 43, 44, 45, 46, 47, 48, 49, 50, 51, 52, 53, 54, 55, 56, 57, 58, 59, 60, 61] (by decide +kernel) (by decide +kernel)
set_option maxRecDepth 20000 in
theorem gX5_ahead_X5_goOn : GoodIn wsX5_ahead (wsV RX5 167 RX5 yX5_goOn wsX5_goOn) := goodIn_app (goodIn_of _ (by decide +kernel)) ggX5_ahead_X5_goOn
theorem dX5_ahead_0 : decode cX5_ahead 0 = .ok (.aload_n 0, 1) := by decide +kernel
theorem dX5_ahead_1 : decode cX5_ahead 1 = .ok (.invokevirtual 144, 3) := by decide +kernel
theorem dX5_ahead_4 : decode cX5_ahead 4 = .ok (.ifCond .ne 6, 3) := by decide +kernel
theorem dX5_ahead_7 : decode cX5_ahead 7 = .ok (.ldc 130, 2) := by decide +kernel
theorem dX5_ahead_9 : decode cX5_ahead 9 = .ok (.ireturn, 1) := by decide +kernel
theorem dX5_ahead_10 : decode cX5_ahead 10 = .ok (.iload_n 1, 1) := by decide +kernel
theorem dX5_ahead_11 : decode cX5_ahead 11 = .ok (.iconst 0, 1) := by decide +kernel
theorem dX5_ahead_12 : decode cX5_ahead 12 = .ok (.bipush 60, 2) := by decide +kernel
theorem dX5_ahead_14 : decode cX5_ahead 14 = .ok (.invokestatic 50, 3) := by decide +kernel
theorem dX5_ahead_17 : decode cX5_ahead 17 = .ok (.ifCond .ne 6, 3) := by decide +kernel
theorem dX5_ahead_20 : decode cX5_ahead 20 = .ok (.ldc 63, 2) := by decide +kernel
theorem dX5_ahead_22 : decode cX5_ahead 22 = .ok (.ireturn, 1) := by decide +kernel
theorem dX5_ahead_23 : decode cX5_ahead 23 = .ok (.aload_n 0, 1) := by decide +kernel
theorem dX5_ahead_24 : decode cX5_ahead 24 = .ok (.invokevirtual 164, 3) := by decide +kernel
theorem dX5_ahead_27 : decode cX5_ahead 27 = .ok (.aload_n 0, 1) := by decide +kernel
theorem dX5_ahead_28 : decode cX5_ahead 28 = .ok (.iload_n 1, 1) := by decide +kernel
theorem dX5_ahead_29 : decode cX5_ahead 29 = .ok (.invokevirtual 167, 3) := by decide +kernel
theorem dX5_ahead_32 : decode cX5_ahead 32 = .ok (.ireturn, 1) := by decide +kernel
set_option maxRecDepth 20000 in
theorem ggX5_comesTo_X5_isOne : GoodIn wsX5_comesTo wsX5_isOne := goodIn_r _ [7, 8, 9, 10, 6, 11, 38, 39, 40, 41, 42, 43, 44, 45, 46, 47, 48, 49, 50, 51, 52, 53, 54, 55, 56, 57, 58, 59, 60] (by decide +kernel) (by decide +kernel)
set_option maxRecDepth 20000 in
theorem gX5_comesTo_X5_isOne : GoodIn wsX5_comesTo (wsV RX5 154 RX5 yX5_isOne wsX5_isOne) := goodIn_app (goodIn_of _ (by decide +kernel)) ggX5_comesTo_X5_isOne
set_option maxRecDepth 20000 in
theorem ggX5_comesTo_X5_in : GoodIn wsX5_comesTo wsX5_in := goodIn_r _ [11] (by decide +kernel) (by decide +kernel)
set_option maxRecDepth 20000 in
theorem gX5_comesTo_X5_in : GoodIn wsX5_comesTo (va_wsS RX5 50 yX5_in wsX5_in) := goodIn_app (goodIn_of _ (by decide +kernel)) ggX5_comesTo_X5_in
set_option maxRecDepth 20000 in
theorem ggX5_comesTo_X5_begin : GoodIn wsX5_comesTo wsX5_begin := goodIn_r _ [15, 8, 2, 16, 17, 6, 18, 38, 39, 40, 41, 42, 43, 44, 45, 46, 47, 48, 49, 50, 51, 52, 53, 54, 55, 56, 57, 58, 59, 60] (by decide +kernel) (by decide +kernel)
set_option maxRecDepth 20000 in
theorem gX5_comesTo_X5_begin : GoodIn wsX5_comesTo (wsV RX5 164 RX5 yX5_begin wsX5_begin) := goodIn_app (goodIn_of _ (by decide +kernel)) ggX5_comesTo_X5_begin
set_option maxRecDepth 20000 in
theorem ggX5_comesTo_X5_goOn : GoodIn wsX5_comesTo wsX5_goOn := goodIn_r _ [22, 2, 23, 24, 6, 25, 26, 27, 28, 29, 30, 31, 32, 33, 34, 35, 36, 37, 38, 39, 40, 41, 42, 43, 44, 45, 46, 47, 48, 49, 50, 51, 52, 53, 54, 55, 56, 57, 58, 59, 60] (by decide +kernel) (by decide +kernel)
set_option maxRecDepth 20000 in
theorem gX5_comesTo_X5_goOn : GoodIn wsX5_comesTo (wsV RX5 167 RX5 yX5_goOn wsX5_goOn) := goodIn_app (goodIn_of _ (by decide +kernel)) ggX5_comesTo_X5_goOn
theorem dX5_comesTo_0 : decode cX5_comesTo 0 = .ok (.aload_n 0, 1) := by decide +kernel
theorem dX5_comesTo_1 : decode cX5_comesTo 1 = .ok (.iload_n 1, 1) := by decide +kernel
theorem dX5_comesTo_2 : decode cX5_comesTo 2 = .ok (.invokevirtual 154, 3) := by decide +kernel
theorem dX5_comesTo_5 : decode cX5_comesTo 5 = .ok (.ifCond .eq 13, 3) := by decide +kernel
theorem dX5_comesTo_8 : decode cX5_comesTo 8 = .ok (.iload_n 2, 1) := by decide +kernel
theorem dX5_comesTo_9 : decode cX5_comesTo 9 = .ok (.iconst 0, 1) := by decide +kernel
theorem dX5_comesTo_10 : decode cX5_comesTo 10 = .ok (.bipush 60, 2) := by decide +kernel
theorem dX5_comesTo_12 : decode cX5_comesTo 12 = .ok (.invokestatic 50, 3) := by decide +kernel
theorem dX5_comesTo_15 : decode cX5_comesTo 15 = .ok (.ifCond .ne 6, 3) := by decide +kernel
theorem dX5_comesTo_18 : decode cX5_comesTo 18 = .ok (.ldc 63, 2) := by decide +kernel
theorem dX5_comesTo_20 : decode cX5_comesTo 20 = .ok (.ireturn, 1) := by decide +kernel
theorem dX5_comesTo_21 : decode cX5_comesTo 21 = .ok (.aload_n 0, 1) := by decide +kernel
theorem dX5_comesTo_22 : decode cX5_comesTo 22 = .ok (.invokevirtual 164, 3) := by decide +kernel
theorem dX5_comesTo_25 : decode cX5_comesTo 25 = .ok (.aload_n 0, 1) := by decide +kernel
theorem dX5_comesTo_26 : decode cX5_comesTo 26 = .ok (.iload_n 2, 1) := by decide +kernel
theorem dX5_comesTo_27 : decode cX5_comesTo 27 = .ok (.invokevirtual 167, 3) := by decide +kernel
theorem dX5_comesTo_30 : decode cX5_comesTo 30 = .ok (.pop, 1) := by decide +kernel
theorem dX5_comesTo_31 : decode cX5_comesTo 31 = .ok (.aload_n 0, 1) := by decide +kernel
theorem dX5_comesTo_32 : decode cX5_comesTo 32 = .ok (.getfield 28, 3) := by decide +kernel
theorem dX5_comesTo_35 : decode cX5_comesTo 35 = .ok (.bipush 35, 2) := by decide +kernel
theorem dX5_comesTo_37 : decode cX5_comesTo 37 = .ok (.iload_n 1, 1) := by decide +kernel
theorem dX5_comesTo_38 : decode cX5_comesTo 38 = .ok (.iadd, 1) := by decide +kernel
theorem dX5_comesTo_39 : decode cX5_comesTo 39 = .ok (.iaload, 1) := by decide +kernel
theorem dX5_comesTo_40 : decode cX5_comesTo 40 = .ok (.ireturn, 1) := by decide +kernel
set_option maxRecDepth 20000 in
theorem ggX5_kept_X5_isOne : GoodIn wsX5_kept wsX5_isOne := goodIn_r _ [8, 9, 10, 11, 7, 12, 35, 36, 37, 38, 39, 40, 41, 42, 43, 44, 45, 46, 47, 48, 49, 50, 51, 52, 53, 54, 55, 56, 57] (by decide +kernel) (by decide +kernel)
set_option maxRecDepth 20000 in
theorem gX5_kept_X5_isOne : GoodIn wsX5_kept (wsV RX5 154 RX5 yX5_isOne wsX5_isOne) := goodIn_app (goodIn_of _ (by decide +kernel)) ggX5_kept_X5_isOne
set_option maxRecDepth 20000 in
theorem ggX5_kept_X5_begin : GoodIn wsX5_kept wsX5_begin := goodIn_r _ [16, 9, 2, 17, 18, 7, 19, 35, 36, 37, 38, 39, 40, 41, 42, 43, 44, 45, 46, 47, 48, 49, 50, 51, 52, 53, 54, 55, 56, 57] (by decide +kernel) (by decide +kernel)
set_option maxRecDepth 20000 in
theorem gX5_kept_X5_begin : GoodIn wsX5_kept (wsV RX5 164 RX5 yX5_begin wsX5_begin) := goodIn_app (goodIn_of _ (by decide +kernel)) ggX5_kept_X5_begin
set_option maxRecDepth 20000 in
theorem ggX5_kept_X5_pass : GoodIn wsX5_kept wsX5_pass := goodIn_r _ [22, 23, 24, 7, 25, 26, 27, 28, 29, 30, 31, 32, 33, 34] (by decide +kernel) (by decide +kernel)
set_option maxRecDepth 20000 in
theorem gX5_kept_X5_pass : GoodIn wsX5_kept (va_wsS RX5 150 yX5_pass wsX5_pass) := goodIn_app (goodIn_of _ (by decide +kernel)) ggX5_kept_X5_pass
theorem dX5_kept_0 : decode cX5_kept 0 = .ok (.aload_n 0, 1) := by decide +kernel
theorem dX5_kept_1 : decode cX5_kept 1 = .ok (.iload_n 1, 1) := by decide +kernel
theorem dX5_kept_2 : decode cX5_kept 2 = .ok (.invokevirtual 154, 3) := by decide +kernel
theorem dX5_kept_5 : decode cX5_kept 5 = .ok (.ifCond .ne 6, 3) := by decide +kernel
theorem dX5_kept_8 : decode cX5_kept 8 = .ok (.ldc 63, 2) := by decide +kernel
theorem dX5_kept_10 : decode cX5_kept 10 = .ok (.ireturn, 1) := by decide +kernel
theorem dX5_kept_11 : decode cX5_kept 11 = .ok (.aload_n 0, 1) := by decide +kernel
theorem dX5_kept_12 : decode cX5_kept 12 = .ok (.invokevirtual 164, 3) := by decide +kernel
theorem dX5_kept_15 : decode cX5_kept 15 = .ok (.iconst 0, 1) := by decide +kernel
theorem dX5_kept_16 : decode cX5_kept 16 = .ok (.istore_n 2, 1) := by decide +kernel
theorem dX5_kept_17 : decode cX5_kept 17 = .ok (.iload_n 2, 1) := by decide +kernel
theorem dX5_kept_18 : decode cX5_kept 18 = .ok (.bipush 60, 2) := by decide +kernel
theorem dX5_kept_20 : decode cX5_kept 20 = .ok (.if_icmp .gt 31, 3) := by decide +kernel
theorem dX5_kept_23 : decode cX5_kept 23 = .ok (.aload_n 0, 1) := by decide +kernel
theorem dX5_kept_24 : decode cX5_kept 24 = .ok (.getfield 28, 3) := by decide +kernel
theorem dX5_kept_27 : decode cX5_kept 27 = .ok (.bipush 35, 2) := by decide +kernel
theorem dX5_kept_29 : decode cX5_kept 29 = .ok (.iload_n 1, 1) := by decide +kernel
theorem dX5_kept_30 : decode cX5_kept 30 = .ok (.iadd, 1) := by decide +kernel
theorem dX5_kept_31 : decode cX5_kept 31 = .ok (.iaload, 1) := by decide +kernel
theorem dX5_kept_32 : decode cX5_kept 32 = .ok (.ifCond .eq 5, 3) := by decide +kernel
theorem dX5_kept_35 : decode cX5_kept 35 = .ok (.iload_n 2, 1) := by decide +kernel
theorem dX5_kept_36 : decode cX5_kept 36 = .ok (.ireturn, 1) := by decide +kernel
theorem dX5_kept_37 : decode cX5_kept 37 = .ok (.aload_n 0, 1) := by decide +kernel
theorem dX5_kept_38 : decode cX5_kept 38 = .ok (.getfield 28, 3) := by decide +kernel
theorem dX5_kept_41 : decode cX5_kept 41 = .ok (.invokestatic 150, 3) := by decide +kernel
theorem dX5_kept_44 : decode cX5_kept 44 = .ok (.pop, 1) := by decide +kernel
theorem dX5_kept_45 : decode cX5_kept 45 = .ok (.iinc 2 1, 3) := by decide +kernel
theorem dX5_kept_48 : decode cX5_kept 48 = .ok (.goto (-31), 3) := by decide +kernel
theorem dX5_kept_51 : decode cX5_kept 51 = .ok (.ldc 163, 2) := by decide +kernel
theorem dX5_kept_53 : decode cX5_kept 53 = .ok (.ireturn, 1) := by decide +kernel
set_option maxRecDepth 20000 in
theorem ggX5_layPlaces_X5_begin : GoodIn wsX5_layPlaces wsX5_begin := goodIn_r _ [7, 8, 2, 9, 10, 6, 11, 27, 28, 29, 30, 31, 32, 33, 34, 35, 36, 37, 38, 39, 40, 41, 42, 43, 44, 45, 46, 47, 48, 49] (by decide +kernel) (by decide +kernel)
set_option maxRecDepth 20000 in
theorem gX5_layPlaces_X5_begin : GoodIn wsX5_layPlaces (wsV RX5 164 RX5 yX5_begin wsX5_begin) := goodIn_app (goodIn_of _ (by decide +kernel)) ggX5_layPlaces_X5_begin
set_option maxRecDepth 20000 in
theorem ggX5_layPlaces_X5_pass : GoodIn wsX5_layPlaces wsX5_pass := goodIn_r _ [14, 15, 16, 6, 17, 18, 19, 20, 21, 22, 23, 24, 25, 26] (by decide +kernel) (by decide +kernel)
set_option maxRecDepth 20000 in
theorem gX5_layPlaces_X5_pass : GoodIn wsX5_layPlaces (va_wsS RX5 150 yX5_pass wsX5_pass) := goodIn_app (goodIn_of _ (by decide +kernel)) ggX5_layPlaces_X5_pass
theorem dX5_layPlaces_0 : decode cX5_layPlaces 0 = .ok (.aload_n 0, 1) := by decide +kernel
theorem dX5_layPlaces_1 : decode cX5_layPlaces 1 = .ok (.invokevirtual 164, 3) := by decide +kernel
theorem dX5_layPlaces_4 : decode cX5_layPlaces 4 = .ok (.iconst 0, 1) := by decide +kernel
theorem dX5_layPlaces_5 : decode cX5_layPlaces 5 = .ok (.istore_n 1, 1) := by decide +kernel
theorem dX5_layPlaces_6 : decode cX5_layPlaces 6 = .ok (.iload_n 1, 1) := by decide +kernel
theorem dX5_layPlaces_7 : decode cX5_layPlaces 7 = .ok (.bipush 71, 2) := by decide +kernel
theorem dX5_layPlaces_9 : decode cX5_layPlaces 9 = .ok (.if_icmp .ge 29, 3) := by decide +kernel
theorem dX5_layPlaces_12 : decode cX5_layPlaces 12 = .ok (.aload_n 0, 1) := by decide +kernel
theorem dX5_layPlaces_13 : decode cX5_layPlaces 13 = .ok (.getfield 47, 3) := by decide +kernel
theorem dX5_layPlaces_16 : decode cX5_layPlaces 16 = .ok (.iload_n 1, 1) := by decide +kernel
theorem dX5_layPlaces_17 : decode cX5_layPlaces 17 = .ok (.aload_n 0, 1) := by decide +kernel
theorem dX5_layPlaces_18 : decode cX5_layPlaces 18 = .ok (.getfield 28, 3) := by decide +kernel
theorem dX5_layPlaces_21 : decode cX5_layPlaces 21 = .ok (.iconst 0, 1) := by decide +kernel
theorem dX5_layPlaces_22 : decode cX5_layPlaces 22 = .ok (.iaload, 1) := by decide +kernel
theorem dX5_layPlaces_23 : decode cX5_layPlaces 23 = .ok (.iastore, 1) := by decide +kernel
theorem dX5_layPlaces_24 : decode cX5_layPlaces 24 = .ok (.aload_n 0, 1) := by decide +kernel
theorem dX5_layPlaces_25 : decode cX5_layPlaces 25 = .ok (.getfield 28, 3) := by decide +kernel
theorem dX5_layPlaces_28 : decode cX5_layPlaces 28 = .ok (.invokestatic 150, 3) := by decide +kernel
theorem dX5_layPlaces_31 : decode cX5_layPlaces 31 = .ok (.pop, 1) := by decide +kernel
theorem dX5_layPlaces_32 : decode cX5_layPlaces 32 = .ok (.iinc 1 1, 3) := by decide +kernel
theorem dX5_layPlaces_35 : decode cX5_layPlaces 35 = .ok (.goto (-29), 3) := by decide +kernel
theorem dX5_layPlaces_38 : decode cX5_layPlaces 38 = .ok (.return_, 1) := by decide +kernel
set_option maxRecDepth 20000 in
theorem ggX5_past_X5_isRoute : GoodIn wsX5_past wsX5_isRoute := goodIn_r _ [9, 10, 41, 42, 43, 44, 45, 46, 47, 48, 49, 50, 51, 52, 53, 54, 55, 56, 57, 58, 59, 60, 61, 62, 63] (by decide +kernel) (by decide +kernel)
set_option maxRecDepth 20000 in
theorem gX5_past_X5_isRoute : GoodIn wsX5_past (wsV RX5 144 RX5 yX5_isRoute wsX5_isRoute) := goodIn_app (goodIn_of _ (by decide +kernel)) ggX5_past_X5_isRoute
set_option maxRecDepth 20000 in
theorem ggX5_past_X5_in : GoodIn wsX5_past wsX5_in := goodIn_r _ [13] (by decide +kernel) (by decide +kernel)
set_option maxRecDepth 20000 in
theorem gX5_past_X5_in : GoodIn wsX5_past (va_wsS RX5 50 yX5_in wsX5_in) := goodIn_app (goodIn_of _ (by decide +kernel)) ggX5_past_X5_in
set_option maxRecDepth 20000 in
theorem ggX5_past_X5_layPlaces : GoodIn wsX5_past wsX5_layPlaces := goodIn_r _ [17, 3, 18, 19, 20, 21, 8, 22, 10, 23, 24, 25, 26, 27, 28, 29, 30, 31, 32, 33, 34, 35, 36, 37, 38, 39, 40, 41, 42, 43, 44, 45, 46, 47, 48, 49, 50, 51, 52, 53, 54, 55, 56, 57, 58, 59, 60, 61, 62, 63] (by decide +kernel) (by decide +kernel)
set_option maxRecDepth 20000 in
theorem gX5_past_X5_layPlaces : GoodIn wsX5_past (wsV RX5 170 RX5 yX5_layPlaces wsX5_layPlaces) := goodIn_app (goodIn_of _ (by decide +kernel)) ggX5_past_X5_layPlaces
theorem dX5_past_0 : decode cX5_past 0 = .ok (.aload_n 0, 1) := by decide +kernel
theorem dX5_past_1 : decode cX5_past 1 = .ok (.invokevirtual 144, 3) := by decide +kernel
theorem dX5_past_4 : decode cX5_past 4 = .ok (.ifCond .ne 6, 3) := by decide +kernel
theorem dX5_past_7 : decode cX5_past 7 = .ok (.ldc 130, 2) := by decide +kernel
theorem dX5_past_9 : decode cX5_past 9 = .ok (.ireturn, 1) := by decide +kernel
theorem dX5_past_10 : decode cX5_past 10 = .ok (.iload_n 1, 1) := by decide +kernel
theorem dX5_past_11 : decode cX5_past 11 = .ok (.iconst 0, 1) := by decide +kernel
theorem dX5_past_12 : decode cX5_past 12 = .ok (.bipush 9, 2) := by decide +kernel
theorem dX5_past_14 : decode cX5_past 14 = .ok (.invokestatic 50, 3) := by decide +kernel
theorem dX5_past_17 : decode cX5_past 17 = .ok (.ifCond .ne 6, 3) := by decide +kernel
theorem dX5_past_20 : decode cX5_past 20 = .ok (.ldc 63, 2) := by decide +kernel
theorem dX5_past_22 : decode cX5_past 22 = .ok (.ireturn, 1) := by decide +kernel
theorem dX5_past_23 : decode cX5_past 23 = .ok (.aload_n 0, 1) := by decide +kernel
theorem dX5_past_24 : decode cX5_past 24 = .ok (.invokevirtual 170, 3) := by decide +kernel
theorem dX5_past_27 : decode cX5_past 27 = .ok (.iconst 0, 1) := by decide +kernel
theorem dX5_past_28 : decode cX5_past 28 = .ok (.istore_n 2, 1) := by decide +kernel
theorem dX5_past_29 : decode cX5_past 29 = .ok (.iload_n 2, 1) := by decide +kernel
theorem dX5_past_30 : decode cX5_past 30 = .ok (.bipush 60, 2) := by decide +kernel
theorem dX5_past_32 : decode cX5_past 32 = .ok (.if_icmp .gt 21, 3) := by decide +kernel
theorem dX5_past_35 : decode cX5_past 35 = .ok (.aload_n 0, 1) := by decide +kernel
theorem dX5_past_36 : decode cX5_past 36 = .ok (.getfield 47, 3) := by decide +kernel
theorem dX5_past_39 : decode cX5_past 39 = .ok (.iload_n 2, 1) := by decide +kernel
theorem dX5_past_40 : decode cX5_past 40 = .ok (.iaload, 1) := by decide +kernel
theorem dX5_past_41 : decode cX5_past 41 = .ok (.iload_n 1, 1) := by decide +kernel
theorem dX5_past_42 : decode cX5_past 42 = .ok (.if_icmp .ne 5, 3) := by decide +kernel
theorem dX5_past_45 : decode cX5_past 45 = .ok (.iload_n 2, 1) := by decide +kernel
theorem dX5_past_46 : decode cX5_past 46 = .ok (.ireturn, 1) := by decide +kernel
theorem dX5_past_47 : decode cX5_past 47 = .ok (.iinc 2 1, 3) := by decide +kernel
theorem dX5_past_50 : decode cX5_past 50 = .ok (.goto (-21), 3) := by decide +kernel
theorem dX5_past_53 : decode cX5_past 53 = .ok (.ldc 163, 2) := by decide +kernel
theorem dX5_past_55 : decode cX5_past 55 = .ok (.ireturn, 1) := by decide +kernel
set_option maxRecDepth 20000 in
theorem ggX5_visits_X5_isRoute : GoodIn wsX5_visits wsX5_isRoute := goodIn_r _ [8, 9, 40, 41, 42, 43, 44, 45, 46, 47, 48, 49, 50, 51, 52, 53, 54, 55, 56, 57, 58, 59, 60, 61, 62] (by decide +kernel) (by decide +kernel)
set_option maxRecDepth 20000 in
theorem gX5_visits_X5_isRoute : GoodIn wsX5_visits (wsV RX5 144 RX5 yX5_isRoute wsX5_isRoute) := goodIn_app (goodIn_of _ (by decide +kernel)) ggX5_visits_X5_isRoute
set_option maxRecDepth 20000 in
theorem ggX5_visits_X5_in : GoodIn wsX5_visits wsX5_in := goodIn_r _ [12] (by decide +kernel) (by decide +kernel)
set_option maxRecDepth 20000 in
theorem gX5_visits_X5_in : GoodIn wsX5_visits (va_wsS RX5 50 yX5_in wsX5_in) := goodIn_app (goodIn_of _ (by decide +kernel)) ggX5_visits_X5_in
set_option maxRecDepth 20000 in
theorem ggX5_visits_X5_layPlaces : GoodIn wsX5_visits wsX5_layPlaces := goodIn_r _ [16, 3, 17, 18, 19, 20, 7, 21, 9, 22, 23, 24, 25, 26, 27, 28, 29, 30, 31, 32, 33, 34, 35, 36, 37, 38, 39, 40, 41, 42, 43, 44, 45, 46, 47, 48, 49, 50, 51, 52, 53, 54, 55, 56, 57, 58, 59, 60, 61, 62] (by decide +kernel) (by decide +kernel)
set_option maxRecDepth 20000 in
theorem gX5_visits_X5_layPlaces : GoodIn wsX5_visits (wsV RX5 170 RX5 yX5_layPlaces wsX5_layPlaces) := goodIn_app (goodIn_of _ (by decide +kernel)) ggX5_visits_X5_layPlaces
theorem dX5_visits_0 : decode cX5_visits 0 = .ok (.aload_n 0, 1) := by decide +kernel
theorem dX5_visits_1 : decode cX5_visits 1 = .ok (.invokevirtual 144, 3) := by decide +kernel
theorem dX5_visits_4 : decode cX5_visits 4 = .ok (.ifCond .ne 6, 3) := by decide +kernel
theorem dX5_visits_7 : decode cX5_visits 7 = .ok (.ldc 130, 2) := by decide +kernel
theorem dX5_visits_9 : decode cX5_visits 9 = .ok (.ireturn, 1) := by decide +kernel
theorem dX5_visits_10 : decode cX5_visits 10 = .ok (.iload_n 1, 1) := by decide +kernel
theorem dX5_visits_11 : decode cX5_visits 11 = .ok (.iconst 0, 1) := by decide +kernel
theorem dX5_visits_12 : decode cX5_visits 12 = .ok (.bipush 60, 2) := by decide +kernel
theorem dX5_visits_14 : decode cX5_visits 14 = .ok (.invokestatic 50, 3) := by decide +kernel
theorem dX5_visits_17 : decode cX5_visits 17 = .ok (.ifCond .ne 6, 3) := by decide +kernel
theorem dX5_visits_20 : decode cX5_visits 20 = .ok (.ldc 63, 2) := by decide +kernel
theorem dX5_visits_22 : decode cX5_visits 22 = .ok (.ireturn, 1) := by decide +kernel
theorem dX5_visits_23 : decode cX5_visits 23 = .ok (.aload_n 0, 1) := by decide +kernel
theorem dX5_visits_24 : decode cX5_visits 24 = .ok (.invokevirtual 170, 3) := by decide +kernel
theorem dX5_visits_27 : decode cX5_visits 27 = .ok (.iconst 0, 1) := by decide +kernel
theorem dX5_visits_28 : decode cX5_visits 28 = .ok (.istore_n 2, 1) := by decide +kernel
theorem dX5_visits_29 : decode cX5_visits 29 = .ok (.iconst 0, 1) := by decide +kernel
theorem dX5_visits_30 : decode cX5_visits 30 = .ok (.istore_n 3, 1) := by decide +kernel
theorem dX5_visits_31 : decode cX5_visits 31 = .ok (.iload_n 3, 1) := by decide +kernel
theorem dX5_visits_32 : decode cX5_visits 32 = .ok (.iload_n 1, 1) := by decide +kernel
theorem dX5_visits_33 : decode cX5_visits 33 = .ok (.if_icmp .gt 20, 3) := by decide +kernel
theorem dX5_visits_36 : decode cX5_visits 36 = .ok (.iload_n 2, 1) := by decide +kernel
theorem dX5_visits_37 : decode cX5_visits 37 = .ok (.iconst 1, 1) := by decide +kernel
theorem dX5_visits_38 : decode cX5_visits 38 = .ok (.aload_n 0, 1) := by decide +kernel
theorem dX5_visits_39 : decode cX5_visits 39 = .ok (.getfield 47, 3) := by decide +kernel
theorem dX5_visits_42 : decode cX5_visits 42 = .ok (.iload_n 3, 1) := by decide +kernel
theorem dX5_visits_43 : decode cX5_visits 43 = .ok (.iaload, 1) := by decide +kernel
theorem dX5_visits_44 : decode cX5_visits 44 = .ok (.ishl, 1) := by decide +kernel
theorem dX5_visits_45 : decode cX5_visits 45 = .ok (.ior, 1) := by decide +kernel
theorem dX5_visits_46 : decode cX5_visits 46 = .ok (.istore_n 2, 1) := by decide +kernel
theorem dX5_visits_47 : decode cX5_visits 47 = .ok (.iinc 3 1, 3) := by decide +kernel
theorem dX5_visits_50 : decode cX5_visits 50 = .ok (.goto (-19), 3) := by decide +kernel
theorem dX5_visits_53 : decode cX5_visits 53 = .ok (.iload_n 2, 1) := by decide +kernel
theorem dX5_visits_54 : decode cX5_visits 54 = .ok (.ireturn, 1) := by decide +kernel
set_option maxRecDepth 20000 in
theorem ggX5_rest_X5_isRoute : GoodIn wsX5_rest wsX5_isRoute := goodIn_r _ [8, 9, 37, 38, 39, 40, 41, 42, 43, 44, 45, 46, 47, 48, 49, 50, 51, 52, 53, 54, 55, 56, 57, 58, 59] (by decide +kernel) (by decide +kernel)
set_option maxRecDepth 20000 in
theorem gX5_rest_X5_isRoute : GoodIn wsX5_rest (wsV RX5 144 RX5 yX5_isRoute wsX5_isRoute) := goodIn_app (goodIn_of _ (by decide +kernel)) ggX5_rest_X5_isRoute
set_option maxRecDepth 20000 in
theorem ggX5_rest_X5_layPlaces : GoodIn wsX5_rest wsX5_layPlaces := goodIn_r _ [13, 2, 14, 15, 16, 17, 7, 18, 9, 19, 20, 21, 22, 23, 24, 25, 26, 27, 28, 29, 30, 31, 32, 33, 34, 35, 36, 37, 38, 39, 40, 41, 42, 43, 44, 45, 46, 47, 48, 49, 50, 51, 52, 53, 54, 55, 56, 57, 58, 59] (by decide +kernel) (by decide +kernel)
set_option maxRecDepth 20000 in
theorem gX5_rest_X5_layPlaces : GoodIn wsX5_rest (wsV RX5 170 RX5 yX5_layPlaces wsX5_layPlaces) := goodIn_app (goodIn_of _ (by decide +kernel)) ggX5_rest_X5_layPlaces
theorem dX5_rest_0 : decode cX5_rest 0 = .ok (.aload_n 0, 1) := by decide +kernel
theorem dX5_rest_1 : decode cX5_rest 1 = .ok (.invokevirtual 144, 3) := by decide +kernel
theorem dX5_rest_4 : decode cX5_rest 4 = .ok (.ifCond .ne 6, 3) := by decide +kernel
theorem dX5_rest_7 : decode cX5_rest 7 = .ok (.ldc 130, 2) := by decide +kernel
theorem dX5_rest_9 : decode cX5_rest 9 = .ok (.ireturn, 1) := by decide +kernel
theorem dX5_rest_10 : decode cX5_rest 10 = .ok (.aload_n 0, 1) := by decide +kernel
theorem dX5_rest_11 : decode cX5_rest 11 = .ok (.invokevirtual 170, 3) := by decide +kernel
theorem dX5_rest_14 : decode cX5_rest 14 = .ok (.iconst 0, 1) := by decide +kernel
theorem dX5_rest_15 : decode cX5_rest 15 = .ok (.istore_n 1, 1) := by decide +kernel
theorem dX5_rest_16 : decode cX5_rest 16 = .ok (.iload_n 1, 1) := by decide +kernel
theorem dX5_rest_17 : decode cX5_rest 17 = .ok (.bipush 60, 2) := by decide +kernel
theorem dX5_rest_19 : decode cX5_rest 19 = .ok (.if_icmp .gt 58, 3) := by decide +kernel
theorem dX5_rest_22 : decode cX5_rest 22 = .ok (.iconst 1, 1) := by decide +kernel
theorem dX5_rest_23 : decode cX5_rest 23 = .ok (.istore_n 2, 1) := by decide +kernel
theorem dX5_rest_24 : decode cX5_rest 24 = .ok (.iconst 1, 1) := by decide +kernel
theorem dX5_rest_25 : decode cX5_rest 25 = .ok (.istore_n 3, 1) := by decide +kernel
theorem dX5_rest_26 : decode cX5_rest 26 = .ok (.iload_n 3, 1) := by decide +kernel
theorem dX5_rest_27 : decode cX5_rest 27 = .ok (.bipush 10, 2) := by decide +kernel
theorem dX5_rest_29 : decode cX5_rest 29 = .ok (.if_icmp .gt 36, 3) := by decide +kernel
theorem dX5_rest_32 : decode cX5_rest 32 = .ok (.iload_n 2, 1) := by decide +kernel
theorem dX5_rest_33 : decode cX5_rest 33 = .ok (.ifCond .eq 24, 3) := by decide +kernel
theorem dX5_rest_36 : decode cX5_rest 36 = .ok (.aload_n 0, 1) := by decide +kernel
theorem dX5_rest_37 : decode cX5_rest 37 = .ok (.getfield 47, 3) := by decide +kernel
theorem dX5_rest_40 : decode cX5_rest 40 = .ok (.iload_n 1, 1) := by decide +kernel
theorem dX5_rest_41 : decode cX5_rest 41 = .ok (.iload_n 3, 1) := by decide +kernel
theorem dX5_rest_42 : decode cX5_rest 42 = .ok (.iadd, 1) := by decide +kernel
theorem dX5_rest_43 : decode cX5_rest 43 = .ok (.iaload, 1) := by decide +kernel
theorem dX5_rest_44 : decode cX5_rest 44 = .ok (.aload_n 0, 1) := by decide +kernel
theorem dX5_rest_45 : decode cX5_rest 45 = .ok (.getfield 47, 3) := by decide +kernel
theorem dX5_rest_48 : decode cX5_rest 48 = .ok (.iload_n 1, 1) := by decide +kernel
theorem dX5_rest_49 : decode cX5_rest 49 = .ok (.iaload, 1) := by decide +kernel
theorem dX5_rest_50 : decode cX5_rest 50 = .ok (.if_icmp .ne 7, 3) := by decide +kernel
theorem dX5_rest_53 : decode cX5_rest 53 = .ok (.iconst 1, 1) := by decide +kernel
theorem dX5_rest_54 : decode cX5_rest 54 = .ok (.goto 4, 3) := by decide +kernel
theorem dX5_rest_57 : decode cX5_rest 57 = .ok (.iconst 0, 1) := by decide +kernel
theorem dX5_rest_58 : decode cX5_rest 58 = .ok (.istore_n 2, 1) := by decide +kernel
theorem dX5_rest_59 : decode cX5_rest 59 = .ok (.iinc 3 1, 3) := by decide +kernel
theorem dX5_rest_62 : decode cX5_rest 62 = .ok (.goto (-36), 3) := by decide +kernel
theorem dX5_rest_65 : decode cX5_rest 65 = .ok (.iload_n 2, 1) := by decide +kernel
theorem dX5_rest_66 : decode cX5_rest 66 = .ok (.ifCond .eq 5, 3) := by decide +kernel
theorem dX5_rest_69 : decode cX5_rest 69 = .ok (.iload_n 1, 1) := by decide +kernel
theorem dX5_rest_70 : decode cX5_rest 70 = .ok (.ireturn, 1) := by decide +kernel
theorem dX5_rest_71 : decode cX5_rest 71 = .ok (.iinc 1 1, 3) := by decide +kernel
theorem dX5_rest_74 : decode cX5_rest 74 = .ok (.goto (-58), 3) := by decide +kernel
theorem dX5_rest_77 : decode cX5_rest 77 = .ok (.ldc 163, 2) := by decide +kernel
theorem dX5_rest_79 : decode cX5_rest 79 = .ok (.ireturn, 1) := by decide +kernel
set_option maxRecDepth 20000 in
theorem ggX5_least_X5_isOne : GoodIn wsX5_least wsX5_isOne := goodIn_r _ [9, 3, 10, 11, 8, 12, 39, 40, 41, 42, 43, 44, 45, 46, 47, 48, 49, 50, 51, 52, 53, 54, 55, 56, 57, 58, 59, 60, 61] (by decide +kernel) (by decide +kernel)
set_option maxRecDepth 20000 in
theorem gX5_least_X5_isOne : GoodIn wsX5_least (wsV RX5 154 RX5 yX5_isOne wsX5_isOne) := goodIn_app (goodIn_of _ (by decide +kernel)) ggX5_least_X5_isOne
set_option maxRecDepth 20000 in
theorem ggX5_least_X5_in : GoodIn wsX5_least wsX5_in := goodIn_r _ [12] (by decide +kernel) (by decide +kernel)
set_option maxRecDepth 20000 in
theorem gX5_least_X5_in : GoodIn wsX5_least (va_wsS RX5 50 yX5_in wsX5_in) := goodIn_app (goodIn_of _ (by decide +kernel)) ggX5_least_X5_in
set_option maxRecDepth 20000 in
theorem ggX5_least_X5_begin : GoodIn wsX5_least wsX5_begin := goodIn_r _ [16, 3, 2, 17, 18, 8, 19, 39, 40, 41, 42, 43, 44, 45, 46, 47, 48, 49, 50, 51, 52, 53, 54, 55, 56, 57, 58, 59, 60, 61] (by decide +kernel) (by decide +kernel)
set_option maxRecDepth 20000 in
theorem gX5_least_X5_begin : GoodIn wsX5_least (wsV RX5 164 RX5 yX5_begin wsX5_begin) := goodIn_app (goodIn_of _ (by decide +kernel)) ggX5_least_X5_begin
set_option maxRecDepth 20000 in
theorem ggX5_least_X5_goOn : GoodIn wsX5_least wsX5_goOn := goodIn_r _ [23, 2, 24, 25, 8, 26, 27, 28, 29, 30, 31, 32, 33, 34, 35, 36, 37, 38, 39, 40, 41, 42, 43, 44, 45, 46, 47, 48, 49, 50, 51, 52, 53, 54, 55, 56, 57, 58, 59, 60, 61] (by decide +kernel) (by decide +kernel)
set_option maxRecDepth 20000 in
theorem gX5_least_X5_goOn : GoodIn wsX5_least (wsV RX5 167 RX5 yX5_goOn wsX5_goOn) := goodIn_app (goodIn_of _ (by decide +kernel)) ggX5_least_X5_goOn
theorem dX5_least_0 : decode cX5_least 0 = .ok (.aload_n 0, 1) := by decide +kernel
theorem dX5_least_1 : decode cX5_least 1 = .ok (.iload_n 1, 1) := by decide +kernel
theorem dX5_least_2 : decode cX5_least 2 = .ok (.invokevirtual 154, 3) := by decide +kernel
theorem dX5_least_5 : decode cX5_least 5 = .ok (.ifCond .eq 23, 3) := by decide +kernel
theorem dX5_least_8 : decode cX5_least 8 = .ok (.iload_n 2, 1) := by decide +kernel
theorem dX5_least_9 : decode cX5_least 9 = .ok (.iconst 0, 1) := by decide +kernel
theorem dX5_least_10 : decode cX5_least 10 = .ok (.bipush 9, 2) := by decide +kernel
theorem dX5_least_12 : decode cX5_least 12 = .ok (.invokestatic 50, 3) := by decide +kernel
theorem dX5_least_15 : decode cX5_least 15 = .ok (.ifCond .eq 13, 3) := by decide +kernel
theorem dX5_least_18 : decode cX5_least 18 = .ok (.iload_n 3, 1) := by decide +kernel
theorem dX5_least_19 : decode cX5_least 19 = .ok (.iconst 1, 1) := by decide +kernel
theorem dX5_least_20 : decode cX5_least 20 = .ok (.bipush 24, 2) := by decide +kernel
theorem dX5_least_22 : decode cX5_least 22 = .ok (.invokestatic 50, 3) := by decide +kernel
theorem dX5_least_25 : decode cX5_least 25 = .ok (.ifCond .ne 6, 3) := by decide +kernel
theorem dX5_least_28 : decode cX5_least 28 = .ok (.ldc 63, 2) := by decide +kernel
theorem dX5_least_30 : decode cX5_least 30 = .ok (.ireturn, 1) := by decide +kernel
theorem dX5_least_31 : decode cX5_least 31 = .ok (.iconst 1, 1) := by decide +kernel
theorem dX5_least_32 : decode cX5_least 32 = .ok (.istore 4, 2) := by decide +kernel
theorem dX5_least_34 : decode cX5_least 34 = .ok (.iload 4, 2) := by decide +kernel
theorem dX5_least_36 : decode cX5_least 36 = .ok (.bipush 20, 2) := by decide +kernel
theorem dX5_least_38 : decode cX5_least 38 = .ok (.if_icmp .gt 61, 3) := by decide +kernel
theorem dX5_least_41 : decode cX5_least 41 = .ok (.aload_n 0, 1) := by decide +kernel
theorem dX5_least_42 : decode cX5_least 42 = .ok (.invokevirtual 164, 3) := by decide +kernel
theorem dX5_least_45 : decode cX5_least 45 = .ok (.aload_n 0, 1) := by decide +kernel
theorem dX5_least_46 : decode cX5_least 46 = .ok (.getfield 28, 3) := by decide +kernel
theorem dX5_least_49 : decode cX5_least 49 = .ok (.bipush 14, 2) := by decide +kernel
theorem dX5_least_51 : decode cX5_least 51 = .ok (.iload_n 1, 1) := by decide +kernel
theorem dX5_least_52 : decode cX5_least 52 = .ok (.iadd, 1) := by decide +kernel
theorem dX5_least_53 : decode cX5_least 53 = .ok (.iload_n 2, 1) := by decide +kernel
theorem dX5_least_54 : decode cX5_least 54 = .ok (.iastore, 1) := by decide +kernel
theorem dX5_least_55 : decode cX5_least 55 = .ok (.aload_n 0, 1) := by decide +kernel
theorem dX5_least_56 : decode cX5_least 56 = .ok (.getfield 28, 3) := by decide +kernel
theorem dX5_least_59 : decode cX5_least 59 = .ok (.bipush 21, 2) := by decide +kernel
theorem dX5_least_61 : decode cX5_least 61 = .ok (.iload_n 1, 1) := by decide +kernel
theorem dX5_least_62 : decode cX5_least 62 = .ok (.iadd, 1) := by decide +kernel
theorem dX5_least_63 : decode cX5_least 63 = .ok (.iload 4, 2) := by decide +kernel
theorem dX5_least_65 : decode cX5_least 65 = .ok (.iastore, 1) := by decide +kernel
theorem dX5_least_66 : decode cX5_least 66 = .ok (.aload_n 0, 1) := by decide +kernel
theorem dX5_least_67 : decode cX5_least 67 = .ok (.getfield 28, 3) := by decide +kernel
theorem dX5_least_70 : decode cX5_least 70 = .ok (.bipush 35, 2) := by decide +kernel
theorem dX5_least_72 : decode cX5_least 72 = .ok (.iload_n 1, 1) := by decide +kernel
theorem dX5_least_73 : decode cX5_least 73 = .ok (.iadd, 1) := by decide +kernel
theorem dX5_least_74 : decode cX5_least 74 = .ok (.iconst 0, 1) := by decide +kernel
theorem dX5_least_75 : decode cX5_least 75 = .ok (.iastore, 1) := by decide +kernel
theorem dX5_least_76 : decode cX5_least 76 = .ok (.aload_n 0, 1) := by decide +kernel
theorem dX5_least_77 : decode cX5_least 77 = .ok (.iload_n 3, 1) := by decide +kernel
theorem dX5_least_78 : decode cX5_least 78 = .ok (.invokevirtual 167, 3) := by decide +kernel
theorem dX5_least_81 : decode cX5_least 81 = .ok (.aload_n 0, 1) := by decide +kernel
theorem dX5_least_82 : decode cX5_least 82 = .ok (.getfield 22, 3) := by decide +kernel
theorem dX5_least_85 : decode cX5_least 85 = .ok (.iconst 1, 1) := by decide +kernel
theorem dX5_least_86 : decode cX5_least 86 = .ok (.iaload, 1) := by decide +kernel
theorem dX5_least_87 : decode cX5_least 87 = .ok (.if_icmp .ne 6, 3) := by decide +kernel
theorem dX5_least_90 : decode cX5_least 90 = .ok (.iload 4, 2) := by decide +kernel
theorem dX5_least_92 : decode cX5_least 92 = .ok (.ireturn, 1) := by decide +kernel
theorem dX5_least_93 : decode cX5_least 93 = .ok (.iinc 4 1, 3) := by decide +kernel
theorem dX5_least_96 : decode cX5_least 96 = .ok (.goto (-62), 3) := by decide +kernel
theorem dX5_least_99 : decode cX5_least 99 = .ok (.ldc 163, 2) := by decide +kernel
theorem dX5_least_101 : decode cX5_least 101 = .ok (.ireturn, 1) := by decide +kernel
set_option maxRecDepth 20000 in
theorem ggX5_beginBut_X5_begin : GoodIn wsX5_beginBut wsX5_begin := goodIn_r _ [7, 1, 2, 8, 9, 6, 10, 14, 15, 16, 17, 18, 19, 20, 21, 22, 23, 24, 25, 26, 27, 28, 29, 30, 31, 32, 33, 34, 35, 36] (by decide +kernel) (by decide +kernel)
set_option maxRecDepth 20000 in
theorem gX5_beginBut_X5_begin : GoodIn wsX5_beginBut (wsV RX5 164 RX5 yX5_begin wsX5_begin) := goodIn_app (goodIn_of _ (by decide +kernel)) ggX5_beginBut_X5_begin
set_option maxRecDepth 20000 in
theorem ggX5_beginBut_X5_has : GoodIn wsX5_beginBut wsX5_has := goodIn_r _ [13] (by decide +kernel) (by decide +kernel)
set_option maxRecDepth 20000 in
theorem gX5_beginBut_X5_has : GoodIn wsX5_beginBut (va_wsS RX5 131 yX5_has wsX5_has) := goodIn_app (goodIn_of _ (by decide +kernel)) ggX5_beginBut_X5_has
theorem dX5_beginBut_0 : decode cX5_beginBut 0 = .ok (.aload_n 0, 1) := by decide +kernel
theorem dX5_beginBut_1 : decode cX5_beginBut 1 = .ok (.invokevirtual 164, 3) := by decide +kernel
theorem dX5_beginBut_4 : decode cX5_beginBut 4 = .ok (.iconst 0, 1) := by decide +kernel
theorem dX5_beginBut_5 : decode cX5_beginBut 5 = .ok (.istore_n 2, 1) := by decide +kernel
theorem dX5_beginBut_6 : decode cX5_beginBut 6 = .ok (.iload_n 2, 1) := by decide +kernel
theorem dX5_beginBut_7 : decode cX5_beginBut 7 = .ok (.aload_n 0, 1) := by decide +kernel
theorem dX5_beginBut_8 : decode cX5_beginBut 8 = .ok (.getfield 22, 3) := by decide +kernel
theorem dX5_beginBut_11 : decode cX5_beginBut 11 = .ok (.iconst 2, 1) := by decide +kernel
theorem dX5_beginBut_12 : decode cX5_beginBut 12 = .ok (.iaload, 1) := by decide +kernel
theorem dX5_beginBut_13 : decode cX5_beginBut 13 = .ok (.if_icmp .ge 39, 3) := by decide +kernel
theorem dX5_beginBut_16 : decode cX5_beginBut 16 = .ok (.aload_n 0, 1) := by decide +kernel
theorem dX5_beginBut_17 : decode cX5_beginBut 17 = .ok (.getfield 28, 3) := by decide +kernel
theorem dX5_beginBut_20 : decode cX5_beginBut 20 = .ok (.bipush 35, 2) := by decide +kernel
theorem dX5_beginBut_22 : decode cX5_beginBut 22 = .ok (.iload_n 2, 1) := by decide +kernel
theorem dX5_beginBut_23 : decode cX5_beginBut 23 = .ok (.iadd, 1) := by decide +kernel
theorem dX5_beginBut_24 : decode cX5_beginBut 24 = .ok (.iload_n 1, 1) := by decide +kernel
theorem dX5_beginBut_25 : decode cX5_beginBut 25 = .ok (.iload_n 2, 1) := by decide +kernel
theorem dX5_beginBut_26 : decode cX5_beginBut 26 = .ok (.invokestatic 131, 3) := by decide +kernel
theorem dX5_beginBut_29 : decode cX5_beginBut 29 = .ok (.ifCond .eq 7, 3) := by decide +kernel
theorem dX5_beginBut_32 : decode cX5_beginBut 32 = .ok (.iconst 3, 1) := by decide +kernel
theorem dX5_beginBut_33 : decode cX5_beginBut 33 = .ok (.goto 12, 3) := by decide +kernel
theorem dX5_beginBut_36 : decode cX5_beginBut 36 = .ok (.aload_n 0, 1) := by decide +kernel
theorem dX5_beginBut_37 : decode cX5_beginBut 37 = .ok (.getfield 28, 3) := by decide +kernel
theorem dX5_beginBut_40 : decode cX5_beginBut 40 = .ok (.bipush 35, 2) := by decide +kernel
theorem dX5_beginBut_42 : decode cX5_beginBut 42 = .ok (.iload_n 2, 1) := by decide +kernel
theorem dX5_beginBut_43 : decode cX5_beginBut 43 = .ok (.iadd, 1) := by decide +kernel
theorem dX5_beginBut_44 : decode cX5_beginBut 44 = .ok (.iaload, 1) := by decide +kernel
theorem dX5_beginBut_45 : decode cX5_beginBut 45 = .ok (.iastore, 1) := by decide +kernel
theorem dX5_beginBut_46 : decode cX5_beginBut 46 = .ok (.iinc 2 1, 3) := by decide +kernel
theorem dX5_beginBut_49 : decode cX5_beginBut 49 = .ok (.goto (-43), 3) := by decide +kernel
theorem dX5_beginBut_52 : decode cX5_beginBut 52 = .ok (.return_, 1) := by decide +kernel
set_option maxRecDepth 20000 in
theorem ggX5_buyOff_X5_isRoute : GoodIn wsX5_buyOff wsX5_isRoute := goodIn_r _ [9, 3, 50, 51, 52, 53, 54, 55, 56, 57, 58, 59, 60, 61, 62, 63, 64, 65, 66, 67, 68, 69, 70, 71, 72] (by decide +kernel) (by decide +kernel)
set_option maxRecDepth 20000 in
theorem gX5_buyOff_X5_isRoute : GoodIn wsX5_buyOff (wsV RX5 144 RX5 yX5_isRoute wsX5_isRoute) := goodIn_app (goodIn_of _ (by decide +kernel)) ggX5_buyOff_X5_isRoute
set_option maxRecDepth 20000 in
theorem ggX5_buyOff_X5_in : GoodIn wsX5_buyOff wsX5_in := goodIn_r _ [12] (by decide +kernel) (by decide +kernel)
set_option maxRecDepth 20000 in
theorem gX5_buyOff_X5_in : GoodIn wsX5_buyOff (va_wsS RX5 50 yX5_in wsX5_in) := goodIn_app (goodIn_of _ (by decide +kernel)) ggX5_buyOff_X5_in
set_option maxRecDepth 20000 in
theorem ggX5_buyOff_X5_openOf : GoodIn wsX5_buyOff wsX5_openOf := goodIn_r _ [15] (by decide +kernel) (by decide +kernel)
set_option maxRecDepth 20000 in
theorem gX5_buyOff_X5_openOf : GoodIn wsX5_buyOff (va_wsS RX5 157 yX5_openOf wsX5_openOf) := goodIn_app (goodIn_of _ (by decide +kernel)) ggX5_buyOff_X5_openOf
set_option maxRecDepth 20000 in
theorem ggX5_buyOff_X5_beginBut : GoodIn wsX5_buyOff wsX5_beginBut := goodIn_r _ [19, 3, 20, 21, 22, 23, 8, 24, 25, 26, 27, 28, 29, 30, 50, 51, 52, 53, 54, 55, 56, 57, 58, 59, 60, 61, 62, 63, 64, 65, 66, 67, 68, 69, 70, 71, 72] (by decide +kernel) (by decide +kernel)
set_option maxRecDepth 20000 in
theorem gX5_buyOff_X5_beginBut : GoodIn wsX5_buyOff (wsV RX5 173 RX5 yX5_beginBut wsX5_beginBut) := goodIn_app (goodIn_of _ (by decide +kernel)) ggX5_buyOff_X5_beginBut
set_option maxRecDepth 20000 in
theorem ggX5_buyOff_X5_goOn : GoodIn wsX5_buyOff wsX5_goOn := goodIn_r _ [34, 20, 35, 36, 8, 37, 38, 39, 40, 28, 29, 30, 41, 42, 43, 44, 45, 46, 50, 51, 52, 53, 54, 55, 56, 57, 58, 59, 60, 61, 62, 63, 64, 65, 66, 67, 68, 69, 70, 71, 72] (by decide +kernel) (by decide +kernel)
set_option maxRecDepth 20000 in
theorem gX5_buyOff_X5_goOn : GoodIn wsX5_buyOff (wsV RX5 167 RX5 yX5_goOn wsX5_goOn) := goodIn_app (goodIn_of _ (by decide +kernel)) ggX5_buyOff_X5_goOn
set_option maxRecDepth 20000 in
theorem ggX5_buyOff_X5_bits : GoodIn wsX5_buyOff wsX5_bits := goodIn_r _ [49] (by decide +kernel) (by decide +kernel)
set_option maxRecDepth 20000 in
theorem gX5_buyOff_X5_bits : GoodIn wsX5_buyOff (va_wsS RX5 160 yX5_bits wsX5_bits) := goodIn_app (goodIn_of _ (by decide +kernel)) ggX5_buyOff_X5_bits
theorem dX5_buyOff_0 : decode cX5_buyOff 0 = .ok (.aload_n 0, 1) := by decide +kernel
theorem dX5_buyOff_1 : decode cX5_buyOff 1 = .ok (.invokevirtual 144, 3) := by decide +kernel
theorem dX5_buyOff_4 : decode cX5_buyOff 4 = .ok (.ifCond .ne 6, 3) := by decide +kernel
theorem dX5_buyOff_7 : decode cX5_buyOff 7 = .ok (.ldc 130, 2) := by decide +kernel
theorem dX5_buyOff_9 : decode cX5_buyOff 9 = .ok (.ireturn, 1) := by decide +kernel
theorem dX5_buyOff_10 : decode cX5_buyOff 10 = .ok (.iload_n 1, 1) := by decide +kernel
theorem dX5_buyOff_11 : decode cX5_buyOff 11 = .ok (.iconst 0, 1) := by decide +kernel
theorem dX5_buyOff_12 : decode cX5_buyOff 12 = .ok (.bipush 9, 2) := by decide +kernel
theorem dX5_buyOff_14 : decode cX5_buyOff 14 = .ok (.invokestatic 50, 3) := by decide +kernel
theorem dX5_buyOff_17 : decode cX5_buyOff 17 = .ok (.ifCond .eq 22, 3) := by decide +kernel
theorem dX5_buyOff_20 : decode cX5_buyOff 20 = .ok (.iload_n 2, 1) := by decide +kernel
theorem dX5_buyOff_21 : decode cX5_buyOff 21 = .ok (.iconst 1, 1) := by decide +kernel
theorem dX5_buyOff_22 : decode cX5_buyOff 22 = .ok (.bipush 24, 2) := by decide +kernel
theorem dX5_buyOff_24 : decode cX5_buyOff 24 = .ok (.invokestatic 50, 3) := by decide +kernel
theorem dX5_buyOff_27 : decode cX5_buyOff 27 = .ok (.ifCond .eq 12, 3) := by decide +kernel
theorem dX5_buyOff_30 : decode cX5_buyOff 30 = .ok (.iload_n 3, 1) := by decide +kernel
theorem dX5_buyOff_31 : decode cX5_buyOff 31 = .ok (.iconst 0, 1) := by decide +kernel
theorem dX5_buyOff_32 : decode cX5_buyOff 32 = .ok (.iconst 1, 1) := by decide +kernel
theorem dX5_buyOff_33 : decode cX5_buyOff 33 = .ok (.invokestatic 50, 3) := by decide +kernel
theorem dX5_buyOff_36 : decode cX5_buyOff 36 = .ok (.ifCond .ne 6, 3) := by decide +kernel
theorem dX5_buyOff_39 : decode cX5_buyOff 39 = .ok (.ldc 63, 2) := by decide +kernel
theorem dX5_buyOff_41 : decode cX5_buyOff 41 = .ok (.ireturn, 1) := by decide +kernel
theorem dX5_buyOff_42 : decode cX5_buyOff 42 = .ok (.aload_n 0, 1) := by decide +kernel
theorem dX5_buyOff_43 : decode cX5_buyOff 43 = .ok (.getfield 22, 3) := by decide +kernel
theorem dX5_buyOff_46 : decode cX5_buyOff 46 = .ok (.invokestatic 157, 3) := by decide +kernel
theorem dX5_buyOff_49 : decode cX5_buyOff 49 = .ok (.istore 4, 2) := by decide +kernel
theorem dX5_buyOff_51 : decode cX5_buyOff 51 = .ok (.iconst (-1), 1) := by decide +kernel
theorem dX5_buyOff_52 : decode cX5_buyOff 52 = .ok (.istore 5, 2) := by decide +kernel
theorem dX5_buyOff_54 : decode cX5_buyOff 54 = .ok (.iconst 0, 1) := by decide +kernel
theorem dX5_buyOff_55 : decode cX5_buyOff 55 = .ok (.istore 6, 2) := by decide +kernel
theorem dX5_buyOff_57 : decode cX5_buyOff 57 = .ok (.iload 6, 2) := by decide +kernel
theorem dX5_buyOff_59 : decode cX5_buyOff 59 = .ok (.iload 4, 2) := by decide +kernel
theorem dX5_buyOff_61 : decode cX5_buyOff 61 = .ok (.if_icmp .gt 61, 3) := by decide +kernel
theorem dX5_buyOff_64 : decode cX5_buyOff 64 = .ok (.iload 6, 2) := by decide +kernel
theorem dX5_buyOff_66 : decode cX5_buyOff 66 = .ok (.iload 4, 2) := by decide +kernel
theorem dX5_buyOff_68 : decode cX5_buyOff 68 = .ok (.iconst (-1), 1) := by decide +kernel
theorem dX5_buyOff_69 : decode cX5_buyOff 69 = .ok (.ixor, 1) := by decide +kernel
theorem dX5_buyOff_70 : decode cX5_buyOff 70 = .ok (.iand, 1) := by decide +kernel
theorem dX5_buyOff_71 : decode cX5_buyOff 71 = .ok (.ifCond .ne 45, 3) := by decide +kernel
theorem dX5_buyOff_74 : decode cX5_buyOff 74 = .ok (.aload_n 0, 1) := by decide +kernel
theorem dX5_buyOff_75 : decode cX5_buyOff 75 = .ok (.iload 6, 2) := by decide +kernel
theorem dX5_buyOff_77 : decode cX5_buyOff 77 = .ok (.invokevirtual 173, 3) := by decide +kernel
theorem dX5_buyOff_80 : decode cX5_buyOff 80 = .ok (.aload_n 0, 1) := by decide +kernel
theorem dX5_buyOff_81 : decode cX5_buyOff 81 = .ok (.iload_n 2, 1) := by decide +kernel
theorem dX5_buyOff_82 : decode cX5_buyOff 82 = .ok (.invokevirtual 167, 3) := by decide +kernel
theorem dX5_buyOff_85 : decode cX5_buyOff 85 = .ok (.iload_n 1, 1) := by decide +kernel
theorem dX5_buyOff_86 : decode cX5_buyOff 86 = .ok (.if_icmp .ne 26, 3) := by decide +kernel
theorem dX5_buyOff_89 : decode cX5_buyOff 89 = .ok (.iload 5, 2) := by decide +kernel
theorem dX5_buyOff_91 : decode cX5_buyOff 91 = .ok (.ifCond .lt 16, 3) := by decide +kernel
theorem dX5_buyOff_94 : decode cX5_buyOff 94 = .ok (.iload 6, 2) := by decide +kernel
theorem dX5_buyOff_96 : decode cX5_buyOff 96 = .ok (.invokestatic 160, 3) := by decide +kernel
theorem dX5_buyOff_99 : decode cX5_buyOff 99 = .ok (.iload 5, 2) := by decide +kernel
theorem dX5_buyOff_101 : decode cX5_buyOff 101 = .ok (.invokestatic 160, 3) := by decide +kernel
theorem dX5_buyOff_104 : decode cX5_buyOff 104 = .ok (.if_icmp .ge 8, 3) := by decide +kernel
theorem dX5_buyOff_107 : decode cX5_buyOff 107 = .ok (.iload 6, 2) := by decide +kernel
theorem dX5_buyOff_109 : decode cX5_buyOff 109 = .ok (.goto 5, 3) := by decide +kernel
theorem dX5_buyOff_112 : decode cX5_buyOff 112 = .ok (.iload 5, 2) := by decide +kernel
theorem dX5_buyOff_114 : decode cX5_buyOff 114 = .ok (.istore 5, 2) := by decide +kernel
theorem dX5_buyOff_116 : decode cX5_buyOff 116 = .ok (.iinc 6 1, 3) := by decide +kernel
theorem dX5_buyOff_119 : decode cX5_buyOff 119 = .ok (.goto (-62), 3) := by decide +kernel
theorem dX5_buyOff_122 : decode cX5_buyOff 122 = .ok (.iload 5, 2) := by decide +kernel
theorem dX5_buyOff_124 : decode cX5_buyOff 124 = .ok (.ifCond .ge 8, 3) := by decide +kernel
theorem dX5_buyOff_127 : decode cX5_buyOff 127 = .ok (.ldc 163, 2) := by decide +kernel
theorem dX5_buyOff_129 : decode cX5_buyOff 129 = .ok (.goto 17, 3) := by decide +kernel
theorem dX5_buyOff_132 : decode cX5_buyOff 132 = .ok (.iload_n 3, 1) := by decide +kernel
theorem dX5_buyOff_133 : decode cX5_buyOff 133 = .ok (.ifCond .ne 11, 3) := by decide +kernel
theorem dX5_buyOff_136 : decode cX5_buyOff 136 = .ok (.iload 5, 2) := by decide +kernel
theorem dX5_buyOff_138 : decode cX5_buyOff 138 = .ok (.invokestatic 160, 3) := by decide +kernel
theorem dX5_buyOff_141 : decode cX5_buyOff 141 = .ok (.goto 5, 3) := by decide +kernel
theorem dX5_buyOff_144 : decode cX5_buyOff 144 = .ok (.iload 5, 2) := by decide +kernel
theorem dX5_buyOff_146 : decode cX5_buyOff 146 = .ok (.ireturn, 1) := by decide +kernel
set_option maxRecDepth 20000 in
theorem ggX5_holds_X5_isRoute : GoodIn wsX5_holds wsX5_isRoute := goodIn_r _ [8, 3, 43, 44, 45, 46, 47, 48, 49, 50, 51, 52, 53, 54, 55, 56, 57, 58, 59, 60, 61, 62, 63, 64, 65] (by decide +kernel) (by decide +kernel)
set_option maxRecDepth 20000 in
theorem gX5_holds_X5_isRoute : GoodIn wsX5_holds (wsV RX5 144 RX5 yX5_isRoute wsX5_isRoute) := goodIn_app (goodIn_of _ (by decide +kernel)) ggX5_holds_X5_isRoute
set_option maxRecDepth 20000 in
theorem ggX5_holds_X5_in : GoodIn wsX5_holds wsX5_in := goodIn_r _ [11] (by decide +kernel) (by decide +kernel)
set_option maxRecDepth 20000 in
theorem gX5_holds_X5_in : GoodIn wsX5_holds (va_wsS RX5 50 yX5_in wsX5_in) := goodIn_app (goodIn_of _ (by decide +kernel)) ggX5_holds_X5_in
set_option maxRecDepth 20000 in
theorem ggX5_holds_X5_begin : GoodIn wsX5_holds wsX5_begin := goodIn_r _ [15, 3, 16, 17, 18, 7, 19, 43, 44, 45, 46, 47, 48, 49, 50, 51, 52, 53, 54, 55, 56, 57, 58, 59, 60, 61, 62, 63, 64, 65] (by decide +kernel) (by decide +kernel)
set_option maxRecDepth 20000 in
theorem gX5_holds_X5_begin : GoodIn wsX5_holds (wsV RX5 164 RX5 yX5_begin wsX5_begin) := goodIn_app (goodIn_of _ (by decide +kernel)) ggX5_holds_X5_begin
set_option maxRecDepth 20000 in
theorem ggX5_holds_X5_goOn : GoodIn wsX5_holds wsX5_goOn := goodIn_r _ [23, 16, 24, 25, 7, 26, 27, 28, 29, 30, 31, 32, 33, 34, 35, 36, 37, 38, 43, 44, 45, 46, 47, 48, 49, 50, 51, 52, 53, 54, 55, 56, 57, 58, 59, 60, 61, 62, 63, 64, 65] (by decide +kernel) (by decide +kernel)
set_option maxRecDepth 20000 in
theorem gX5_holds_X5_goOn : GoodIn wsX5_holds (wsV RX5 167 RX5 yX5_goOn wsX5_goOn) := goodIn_app (goodIn_of _ (by decide +kernel)) ggX5_holds_X5_goOn
set_option maxRecDepth 20000 in
theorem ggX5_holds_X5_beginBut : GoodIn wsX5_holds wsX5_beginBut := goodIn_r _ [42, 3, 16, 12, 13, 14, 7, 15, 17, 18, 19, 30, 31, 32, 43, 44, 45, 46, 47, 48, 49, 50, 51, 52, 53, 54, 55, 56, 57, 58, 59, 60, 61, 62, 63, 64, 65] (by decide +kernel) (by decide +kernel)
set_option maxRecDepth 20000 in
theorem gX5_holds_X5_beginBut : GoodIn wsX5_holds (wsV RX5 173 RX5 yX5_beginBut wsX5_beginBut) := goodIn_app (goodIn_of _ (by decide +kernel)) ggX5_holds_X5_beginBut
theorem dX5_holds_0 : decode cX5_holds 0 = .ok (.aload_n 0, 1) := by decide +kernel
theorem dX5_holds_1 : decode cX5_holds 1 = .ok (.invokevirtual 144, 3) := by decide +kernel
theorem dX5_holds_4 : decode cX5_holds 4 = .ok (.ifCond .ne 6, 3) := by decide +kernel
theorem dX5_holds_7 : decode cX5_holds 7 = .ok (.ldc 130, 2) := by decide +kernel
theorem dX5_holds_9 : decode cX5_holds 9 = .ok (.ireturn, 1) := by decide +kernel
theorem dX5_holds_10 : decode cX5_holds 10 = .ok (.iload_n 1, 1) := by decide +kernel
theorem dX5_holds_11 : decode cX5_holds 11 = .ok (.iconst 1, 1) := by decide +kernel
theorem dX5_holds_12 : decode cX5_holds 12 = .ok (.bipush 60, 2) := by decide +kernel
theorem dX5_holds_14 : decode cX5_holds 14 = .ok (.invokestatic 50, 3) := by decide +kernel
theorem dX5_holds_17 : decode cX5_holds 17 = .ok (.ifCond .ne 6, 3) := by decide +kernel
theorem dX5_holds_20 : decode cX5_holds 20 = .ok (.ldc 63, 2) := by decide +kernel
theorem dX5_holds_22 : decode cX5_holds 22 = .ok (.ireturn, 1) := by decide +kernel
theorem dX5_holds_23 : decode cX5_holds 23 = .ok (.aload_n 0, 1) := by decide +kernel
theorem dX5_holds_24 : decode cX5_holds 24 = .ok (.invokevirtual 164, 3) := by decide +kernel
theorem dX5_holds_27 : decode cX5_holds 27 = .ok (.aload_n 0, 1) := by decide +kernel
theorem dX5_holds_28 : decode cX5_holds 28 = .ok (.iload_n 1, 1) := by decide +kernel
theorem dX5_holds_29 : decode cX5_holds 29 = .ok (.invokevirtual 167, 3) := by decide +kernel
theorem dX5_holds_32 : decode cX5_holds 32 = .ok (.istore_n 2, 1) := by decide +kernel
theorem dX5_holds_33 : decode cX5_holds 33 = .ok (.iconst 0, 1) := by decide +kernel
theorem dX5_holds_34 : decode cX5_holds 34 = .ok (.istore_n 3, 1) := by decide +kernel
theorem dX5_holds_35 : decode cX5_holds 35 = .ok (.iconst 0, 1) := by decide +kernel
theorem dX5_holds_36 : decode cX5_holds 36 = .ok (.istore 4, 2) := by decide +kernel
theorem dX5_holds_38 : decode cX5_holds 38 = .ok (.iload 4, 2) := by decide +kernel
theorem dX5_holds_40 : decode cX5_holds 40 = .ok (.aload_n 0, 1) := by decide +kernel
theorem dX5_holds_41 : decode cX5_holds 41 = .ok (.getfield 22, 3) := by decide +kernel
theorem dX5_holds_44 : decode cX5_holds 44 = .ok (.iconst 2, 1) := by decide +kernel
theorem dX5_holds_45 : decode cX5_holds 45 = .ok (.iaload, 1) := by decide +kernel
theorem dX5_holds_46 : decode cX5_holds 46 = .ok (.if_icmp .ge 50, 3) := by decide +kernel
theorem dX5_holds_49 : decode cX5_holds 49 = .ok (.aload_n 0, 1) := by decide +kernel
theorem dX5_holds_50 : decode cX5_holds 50 = .ok (.getfield 22, 3) := by decide +kernel
theorem dX5_holds_53 : decode cX5_holds 53 = .ok (.bipush 35, 2) := by decide +kernel
theorem dX5_holds_55 : decode cX5_holds 55 = .ok (.iload 4, 2) := by decide +kernel
theorem dX5_holds_57 : decode cX5_holds 57 = .ok (.iadd, 1) := by decide +kernel
theorem dX5_holds_58 : decode cX5_holds 58 = .ok (.iaload, 1) := by decide +kernel
theorem dX5_holds_59 : decode cX5_holds 59 = .ok (.ifCond .ne 31, 3) := by decide +kernel
theorem dX5_holds_62 : decode cX5_holds 62 = .ok (.aload_n 0, 1) := by decide +kernel
theorem dX5_holds_63 : decode cX5_holds 63 = .ok (.iconst 1, 1) := by decide +kernel
theorem dX5_holds_64 : decode cX5_holds 64 = .ok (.iload 4, 2) := by decide +kernel
theorem dX5_holds_66 : decode cX5_holds 66 = .ok (.ishl, 1) := by decide +kernel
theorem dX5_holds_67 : decode cX5_holds 67 = .ok (.invokevirtual 173, 3) := by decide +kernel
theorem dX5_holds_70 : decode cX5_holds 70 = .ok (.iload_n 3, 1) := by decide +kernel
theorem dX5_holds_71 : decode cX5_holds 71 = .ok (.aload_n 0, 1) := by decide +kernel
theorem dX5_holds_72 : decode cX5_holds 72 = .ok (.iload_n 1, 1) := by decide +kernel
theorem dX5_holds_73 : decode cX5_holds 73 = .ok (.invokevirtual 167, 3) := by decide +kernel
theorem dX5_holds_76 : decode cX5_holds 76 = .ok (.iload_n 2, 1) := by decide +kernel
theorem dX5_holds_77 : decode cX5_holds 77 = .ok (.if_icmp .ne 7, 3) := by decide +kernel
theorem dX5_holds_80 : decode cX5_holds 80 = .ok (.iconst 0, 1) := by decide +kernel
theorem dX5_holds_81 : decode cX5_holds 81 = .ok (.goto 7, 3) := by decide +kernel
theorem dX5_holds_84 : decode cX5_holds 84 = .ok (.iconst 1, 1) := by decide +kernel
theorem dX5_holds_85 : decode cX5_holds 85 = .ok (.iload 4, 2) := by decide +kernel
theorem dX5_holds_87 : decode cX5_holds 87 = .ok (.ishl, 1) := by decide +kernel
theorem dX5_holds_88 : decode cX5_holds 88 = .ok (.ior, 1) := by decide +kernel
theorem dX5_holds_89 : decode cX5_holds 89 = .ok (.istore_n 3, 1) := by decide +kernel
theorem dX5_holds_90 : decode cX5_holds 90 = .ok (.iinc 4 1, 3) := by decide +kernel
theorem dX5_holds_93 : decode cX5_holds 93 = .ok (.goto (-55), 3) := by decide +kernel
theorem dX5_holds_96 : decode cX5_holds 96 = .ok (.iload_n 3, 1) := by decide +kernel
theorem dX5_holds_97 : decode cX5_holds 97 = .ok (.ireturn, 1) := by decide +kernel
set_option maxRecDepth 20000 in
theorem ggX5_takeOut_X5_finds : GoodIn wsX5_takeOut wsX5_finds := goodIn_r _ [9, 10, 11, 15, 16, 17, 18, 19, 20, 21, 22, 23, 24, 25, 26, 27, 28, 29, 30, 31, 32, 33, 34, 35, 36, 37] (by decide +kernel) (by decide +kernel)
set_option maxRecDepth 20000 in
theorem gX5_takeOut_X5_finds : GoodIn wsX5_takeOut (wsV RX5 64 RX5 yX5_finds wsX5_finds) := goodIn_app (goodIn_of _ (by decide +kernel)) ggX5_takeOut_X5_finds
set_option maxRecDepth 20000 in
theorem ggX5_takeOut_X5_isPart : GoodIn wsX5_takeOut wsX5_isPart := goodIn_r _ [14] (by decide +kernel) (by decide +kernel)
set_option maxRecDepth 20000 in
theorem gX5_takeOut_X5_isPart : GoodIn wsX5_takeOut (va_wsS RX5 71 yX5_isPart wsX5_isPart) := goodIn_app (goodIn_of _ (by decide +kernel)) ggX5_takeOut_X5_isPart
theorem dX5_takeOut_0 : decode cX5_takeOut 0 = .ok (.aload_n 0, 1) := by decide +kernel
theorem dX5_takeOut_1 : decode cX5_takeOut 1 = .ok (.getfield 7, 3) := by decide +kernel
theorem dX5_takeOut_4 : decode cX5_takeOut 4 = .ok (.iload_n 1, 1) := by decide +kernel
theorem dX5_takeOut_5 : decode cX5_takeOut 5 = .ok (.iaload, 1) := by decide +kernel
theorem dX5_takeOut_6 : decode cX5_takeOut 6 = .ok (.ifCond .ge 9, 3) := by decide +kernel
theorem dX5_takeOut_9 : decode cX5_takeOut 9 = .ok (.aload_n 0, 1) := by decide +kernel
theorem dX5_takeOut_10 : decode cX5_takeOut 10 = .ok (.iconst 1, 1) := by decide +kernel
theorem dX5_takeOut_11 : decode cX5_takeOut 11 = .ok (.invokevirtual 64, 3) := by decide +kernel
theorem dX5_takeOut_14 : decode cX5_takeOut 14 = .ok (.ireturn, 1) := by decide +kernel
theorem dX5_takeOut_15 : decode cX5_takeOut 15 = .ok (.iload_n 2, 1) := by decide +kernel
theorem dX5_takeOut_16 : decode cX5_takeOut 16 = .ok (.iload_n 3, 1) := by decide +kernel
theorem dX5_takeOut_17 : decode cX5_takeOut 17 = .ok (.aload_n 0, 1) := by decide +kernel
theorem dX5_takeOut_18 : decode cX5_takeOut 18 = .ok (.getfield 13, 3) := by decide +kernel
theorem dX5_takeOut_21 : decode cX5_takeOut 21 = .ok (.iload_n 1, 1) := by decide +kernel
theorem dX5_takeOut_22 : decode cX5_takeOut 22 = .ok (.iaload, 1) := by decide +kernel
theorem dX5_takeOut_23 : decode cX5_takeOut 23 = .ok (.invokestatic 71, 3) := by decide +kernel
theorem dX5_takeOut_26 : decode cX5_takeOut 26 = .ok (.ifCond .ne 9, 3) := by decide +kernel
theorem dX5_takeOut_29 : decode cX5_takeOut 29 = .ok (.aload_n 0, 1) := by decide +kernel
theorem dX5_takeOut_30 : decode cX5_takeOut 30 = .ok (.iconst 2, 1) := by decide +kernel
theorem dX5_takeOut_31 : decode cX5_takeOut 31 = .ok (.invokevirtual 64, 3) := by decide +kernel
theorem dX5_takeOut_34 : decode cX5_takeOut 34 = .ok (.ireturn, 1) := by decide +kernel
theorem dX5_takeOut_35 : decode cX5_takeOut 35 = .ok (.iconst 0, 1) := by decide +kernel
theorem dX5_takeOut_36 : decode cX5_takeOut 36 = .ok (.istore 4, 2) := by decide +kernel
theorem dX5_takeOut_38 : decode cX5_takeOut 38 = .ok (.iload 4, 2) := by decide +kernel
theorem dX5_takeOut_40 : decode cX5_takeOut 40 = .ok (.iload_n 3, 1) := by decide +kernel
theorem dX5_takeOut_41 : decode cX5_takeOut 41 = .ok (.if_icmp .ge 30, 3) := by decide +kernel
theorem dX5_takeOut_44 : decode cX5_takeOut 44 = .ok (.aload_n 0, 1) := by decide +kernel
theorem dX5_takeOut_45 : decode cX5_takeOut 45 = .ok (.getfield 44, 3) := by decide +kernel
theorem dX5_takeOut_48 : decode cX5_takeOut 48 = .ok (.iload 4, 2) := by decide +kernel
theorem dX5_takeOut_50 : decode cX5_takeOut 50 = .ok (.aload_n 0, 1) := by decide +kernel
theorem dX5_takeOut_51 : decode cX5_takeOut 51 = .ok (.getfield 16, 3) := by decide +kernel
theorem dX5_takeOut_54 : decode cX5_takeOut 54 = .ok (.bipush 40, 2) := by decide +kernel
theorem dX5_takeOut_56 : decode cX5_takeOut 56 = .ok (.iload_n 1, 1) := by decide +kernel
theorem dX5_takeOut_57 : decode cX5_takeOut 57 = .ok (.imul, 1) := by decide +kernel
theorem dX5_takeOut_58 : decode cX5_takeOut 58 = .ok (.iload_n 2, 1) := by decide +kernel
theorem dX5_takeOut_59 : decode cX5_takeOut 59 = .ok (.iadd, 1) := by decide +kernel
theorem dX5_takeOut_60 : decode cX5_takeOut 60 = .ok (.iload 4, 2) := by decide +kernel
theorem dX5_takeOut_62 : decode cX5_takeOut 62 = .ok (.iadd, 1) := by decide +kernel
theorem dX5_takeOut_63 : decode cX5_takeOut 63 = .ok (.iaload, 1) := by decide +kernel
theorem dX5_takeOut_64 : decode cX5_takeOut 64 = .ok (.iastore, 1) := by decide +kernel
theorem dX5_takeOut_65 : decode cX5_takeOut 65 = .ok (.iinc 4 1, 3) := by decide +kernel
theorem dX5_takeOut_68 : decode cX5_takeOut 68 = .ok (.goto (-30), 3) := by decide +kernel
theorem dX5_takeOut_71 : decode cX5_takeOut 71 = .ok (.iconst 0, 1) := by decide +kernel
theorem dX5_takeOut_72 : decode cX5_takeOut 72 = .ok (.ireturn, 1) := by decide +kernel
set_option maxRecDepth 20000 in
theorem ggX5_isSo_X5_pass : GoodIn wsX5_isSo wsX5_pass := goodIn_r _ [6, 7, 8, 5, 9, 10, 11, 12, 13, 14, 15, 16, 17, 18] (by decide +kernel) (by decide +kernel)
set_option maxRecDepth 20000 in
theorem gX5_isSo_X5_pass : GoodIn wsX5_isSo (va_wsS RX5 150 yX5_pass wsX5_pass) := goodIn_app (goodIn_of _ (by decide +kernel)) ggX5_isSo_X5_pass
theorem dX5_isSo_0 : decode cX5_isSo 0 = .ok (.iconst 1, 1) := by decide +kernel
theorem dX5_isSo_1 : decode cX5_isSo 1 = .ok (.istore_n 2, 1) := by decide +kernel
theorem dX5_isSo_2 : decode cX5_isSo 2 = .ok (.iconst 0, 1) := by decide +kernel
