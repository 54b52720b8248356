theorem dX4_image_50 : decode cX4_image 50 = .ok (.aload_n 0, 1) := by decide +kernel
theorem dX4_image_51 : decode cX4_image 51 = .ok (.getfield 25, 3) := by decide +kernel
theorem dX4_image_54 : decode cX4_image 54 = .ok (.invokevirtual 123, 3) := by decide +kernel
theorem dX4_image_57 : decode cX4_image 57 = .ok (.iconst 1, 1) := by decide +kernel
theorem dX4_image_58 : decode cX4_image 58 = .ok (.ireturn, 1) := by decide +kernel
set_option maxRecDepth 20000 in
theorem ggX4_restore_X4_isWithin : GoodIn wsX4_restore wsX4_isWithin := goodIn_r _ [9] (by decide +kernel) (by decide +kernel)
set_option maxRecDepth 20000 in
theorem gX4_restore_X4_isWithin : GoodIn wsX4_restore (va_wsS RX4 198 yX4_isWithin wsX4_isWithin) := goodIn_app (goodIn_of _ (by decide +kernel)) ggX4_restore_X4_isWithin
set_option maxRecDepth 20000 in
theorem ggX4_restore_X1_become : GoodIn wsX4_restore wsX1_become := goodIn_r _ [14, 15, 16, 17, 18, 19, 20, 21, 22, 23, 24, 25, 26, 27, 28, 29, 30, 48, 49, 50, 51, 52, 53, 54, 55, 56, 57, 58, 59] (by decide +kernel) (by decide +kernel)
set_option maxRecDepth 20000 in
theorem gX4_restore_X1_become : GoodIn wsX4_restore (wsV RX4 123 RX1 yX1_become wsX1_become) := goodIn_app (goodIn_of _ (by decide +kernel)) ggX4_restore_X1_become
set_option maxRecDepth 20000 in
theorem ggX4_restore_X0_forgetAll : GoodIn wsX4_restore wsX0_forgetAll := goodIn_r _ [35, 36, 37, 60, 61, 62] (by decide +kernel) (by decide +kernel)
set_option maxRecDepth 20000 in
theorem gX4_restore_X0_forgetAll : GoodIn wsX4_restore (wsV RX4 127 RX0 yX0_forgetAll wsX0_forgetAll) := goodIn_app (goodIn_of _ (by decide +kernel)) ggX4_restore_X0_forgetAll
theorem dX4_restore_0 : decode cX4_restore 0 = .ok (.iload_n 1, 1) := by decide +kernel
theorem dX4_restore_1 : decode cX4_restore 1 = .ok (.iconst 0, 1) := by decide +kernel
theorem dX4_restore_2 : decode cX4_restore 2 = .ok (.iconst 1, 1) := by decide +kernel
theorem dX4_restore_3 : decode cX4_restore 3 = .ok (.invokestatic 198, 3) := by decide +kernel
theorem dX4_restore_6 : decode cX4_restore 6 = .ok (.ifCond .ne 6, 3) := by decide +kernel
theorem dX4_restore_9 : decode cX4_restore 9 = .ok (.ldc 62, 2) := by decide +kernel
theorem dX4_restore_11 : decode cX4_restore 11 = .ok (.ireturn, 1) := by decide +kernel
theorem dX4_restore_12 : decode cX4_restore 12 = .ok (.aload_n 0, 1) := by decide +kernel
theorem dX4_restore_13 : decode cX4_restore 13 = .ok (.getfield 39, 3) := by decide +kernel
theorem dX4_restore_16 : decode cX4_restore 16 = .ok (.iload_n 1, 1) := by decide +kernel
theorem dX4_restore_17 : decode cX4_restore 17 = .ok (.aaload, 1) := by decide +kernel
theorem dX4_restore_18 : decode cX4_restore 18 = .ok (.ifnonnull 6, 3) := by decide +kernel
theorem dX4_restore_21 : decode cX4_restore 21 = .ok (.ldc 137, 2) := by decide +kernel
theorem dX4_restore_23 : decode cX4_restore 23 = .ok (.ireturn, 1) := by decide +kernel
theorem dX4_restore_24 : decode cX4_restore 24 = .ok (.aload_n 0, 1) := by decide +kernel
theorem dX4_restore_25 : decode cX4_restore 25 = .ok (.getfield 25, 3) := by decide +kernel
theorem dX4_restore_28 : decode cX4_restore 28 = .ok (.aload_n 0, 1) := by decide +kernel
theorem dX4_restore_29 : decode cX4_restore 29 = .ok (.getfield 39, 3) := by decide +kernel
theorem dX4_restore_32 : decode cX4_restore 32 = .ok (.iload_n 1, 1) := by decide +kernel
theorem dX4_restore_33 : decode cX4_restore 33 = .ok (.aaload, 1) := by decide +kernel
theorem dX4_restore_34 : decode cX4_restore 34 = .ok (.invokevirtual 123, 3) := by decide +kernel
theorem dX4_restore_37 : decode cX4_restore 37 = .ok (.aload_n 0, 1) := by decide +kernel
theorem dX4_restore_38 : decode cX4_restore 38 = .ok (.getfield 35, 3) := by decide +kernel
theorem dX4_restore_41 : decode cX4_restore 41 = .ok (.invokevirtual 127, 3) := by decide +kernel
theorem dX4_restore_44 : decode cX4_restore 44 = .ok (.iconst 1, 1) := by decide +kernel
theorem dX4_restore_45 : decode cX4_restore 45 = .ok (.ireturn, 1) := by decide +kernel
set_option maxRecDepth 20000 in
theorem ggX4_kind_X4_isOath : GoodIn wsX4_kind wsX4_isOath := goodIn_r _ [8, 1, 9, 10, 11, 12, 13, 14, 15, 16, 17, 18, 19, 20, 21, 22, 23, 24, 25, 26, 27, 28, 29, 30, 31] (by decide +kernel) (by decide +kernel)
set_option maxRecDepth 20000 in
theorem gX4_kind_X4_isOath : GoodIn wsX4_kind (wsV RX4 153 RX4 yX4_isOath wsX4_isOath) := goodIn_app (goodIn_of _ (by decide +kernel)) ggX4_kind_X4_isOath
theorem dX4_kind_0 : decode cX4_kind 0 = .ok (.aload_n 0, 1) := by decide +kernel
theorem dX4_kind_1 : decode cX4_kind 1 = .ok (.iload_n 1, 1) := by decide +kernel
theorem dX4_kind_2 : decode cX4_kind 2 = .ok (.invokevirtual 153, 3) := by decide +kernel
theorem dX4_kind_5 : decode cX4_kind 5 = .ok (.ifCond .eq 15, 3) := by decide +kernel
theorem dX4_kind_8 : decode cX4_kind 8 = .ok (.aload_n 0, 1) := by decide +kernel
theorem dX4_kind_9 : decode cX4_kind 9 = .ok (.getfield 25, 3) := by decide +kernel
theorem dX4_kind_12 : decode cX4_kind 12 = .ok (.getfield 213, 3) := by decide +kernel
theorem dX4_kind_15 : decode cX4_kind 15 = .ok (.iload_n 1, 1) := by decide +kernel
theorem dX4_kind_16 : decode cX4_kind 16 = .ok (.iaload, 1) := by decide +kernel
theorem dX4_kind_17 : decode cX4_kind 17 = .ok (.goto 5, 3) := by decide +kernel
theorem dX4_kind_20 : decode cX4_kind 20 = .ok (.ldc 62, 2) := by decide +kernel
theorem dX4_kind_22 : decode cX4_kind 22 = .ok (.ireturn, 1) := by decide +kernel
set_option maxRecDepth 20000 in
theorem ggX4_as_X4_isOath : GoodIn wsX4_as wsX4_isOath := goodIn_r _ [9, 2, 10, 24, 25, 26, 27, 28, 29, 30, 31, 32, 33, 34, 35, 36, 37, 38, 39, 40, 41, 42, 43, 44, 45] (by decide +kernel) (by decide +kernel)
set_option maxRecDepth 20000 in
theorem gX4_as_X4_isOath : GoodIn wsX4_as (wsV RX4 153 RX4 yX4_isOath wsX4_isOath) := goodIn_app (goodIn_of _ (by decide +kernel)) ggX4_as_X4_isOath
set_option maxRecDepth 20000 in
theorem ggX4_as_X4_isWithin : GoodIn wsX4_as wsX4_isWithin := goodIn_r _ [13] (by decide +kernel) (by decide +kernel)
set_option maxRecDepth 20000 in
theorem gX4_as_X4_isWithin : GoodIn wsX4_as (va_wsS RX4 198 yX4_isWithin wsX4_isWithin) := goodIn_app (goodIn_of _ (by decide +kernel)) ggX4_as_X4_isWithin
set_option maxRecDepth 20000 in
theorem ggX4_as_X4_unfound : GoodIn wsX4_as wsX4_unfound := goodIn_r _ [17, 18, 24, 25, 26, 27, 28, 29, 30, 31, 32, 33] (by decide +kernel) (by decide +kernel)
set_option maxRecDepth 20000 in
theorem gX4_as_X4_unfound : GoodIn wsX4_as (wsV RX4 71 RX4 yX4_unfound wsX4_unfound) := goodIn_app (goodIn_of _ (by decide +kernel)) ggX4_as_X4_unfound
set_option maxRecDepth 20000 in
theorem ggX4_as_X4_found : GoodIn wsX4_as wsX4_found := goodIn_r _ [22, 18, 23, 24, 25, 26, 27, 28, 29, 30, 31, 32, 33] (by decide +kernel) (by decide +kernel)
set_option maxRecDepth 20000 in
theorem gX4_as_X4_found : GoodIn wsX4_as (wsV RX4 63 RX4 yX4_found wsX4_found) := goodIn_app (goodIn_of _ (by decide +kernel)) ggX4_as_X4_found
theorem dX4_as_0 : decode cX4_as 0 = .ok (.aload_n 0, 1) := by decide +kernel
theorem dX4_as_1 : decode cX4_as 1 = .ok (.iload_n 1, 1) := by decide +kernel
theorem dX4_as_2 : decode cX4_as 2 = .ok (.invokevirtual 153, 3) := by decide +kernel
theorem dX4_as_5 : decode cX4_as 5 = .ok (.ifCond .eq 12, 3) := by decide +kernel
theorem dX4_as_8 : decode cX4_as 8 = .ok (.iload_n 2, 1) := by decide +kernel
theorem dX4_as_9 : decode cX4_as 9 = .ok (.iconst 0, 1) := by decide +kernel
theorem dX4_as_10 : decode cX4_as 10 = .ok (.iconst 5, 1) := by decide +kernel
theorem dX4_as_11 : decode cX4_as 11 = .ok (.invokestatic 198, 3) := by decide +kernel
theorem dX4_as_14 : decode cX4_as 14 = .ok (.ifCond .ne 6, 3) := by decide +kernel
theorem dX4_as_17 : decode cX4_as 17 = .ok (.ldc 62, 2) := by decide +kernel
theorem dX4_as_19 : decode cX4_as 19 = .ok (.ireturn, 1) := by decide +kernel
theorem dX4_as_20 : decode cX4_as 20 = .ok (.aload_n 0, 1) := by decide +kernel
theorem dX4_as_21 : decode cX4_as 21 = .ok (.getfield 25, 3) := by decide +kernel
theorem dX4_as_24 : decode cX4_as 24 = .ok (.getfield 213, 3) := by decide +kernel
theorem dX4_as_27 : decode cX4_as 27 = .ok (.iload_n 1, 1) := by decide +kernel
theorem dX4_as_28 : decode cX4_as 28 = .ok (.iaload, 1) := by decide +kernel
theorem dX4_as_29 : decode cX4_as 29 = .ok (.istore_n 3, 1) := by decide +kernel
theorem dX4_as_30 : decode cX4_as 30 = .ok (.iconst 0, 1) := by decide +kernel
theorem dX4_as_31 : decode cX4_as 31 = .ok (.istore 4, 2) := by decide +kernel
theorem dX4_as_33 : decode cX4_as 33 = .ok (.iload 4, 2) := by decide +kernel
theorem dX4_as_35 : decode cX4_as 35 = .ok (.bipush 6, 2) := by decide +kernel
theorem dX4_as_37 : decode cX4_as 37 = .ok (.if_icmp .ge 24, 3) := by decide +kernel
theorem dX4_as_40 : decode cX4_as 40 = .ok (.iload_n 3, 1) := by decide +kernel
theorem dX4_as_41 : decode cX4_as 41 = .ok (.ifCond .le 20, 3) := by decide +kernel
theorem dX4_as_44 : decode cX4_as 44 = .ok (.iload_n 3, 1) := by decide +kernel
theorem dX4_as_45 : decode cX4_as 45 = .ok (.iload_n 2, 1) := by decide +kernel
theorem dX4_as_46 : decode cX4_as 46 = .ok (.if_icmp .eq 15, 3) := by decide +kernel
theorem dX4_as_49 : decode cX4_as 49 = .ok (.getstatic 245, 3) := by decide +kernel
theorem dX4_as_52 : decode cX4_as 52 = .ok (.iload_n 3, 1) := by decide +kernel
theorem dX4_as_53 : decode cX4_as 53 = .ok (.iaload, 1) := by decide +kernel
theorem dX4_as_54 : decode cX4_as 54 = .ok (.istore_n 3, 1) := by decide +kernel
theorem dX4_as_55 : decode cX4_as 55 = .ok (.iinc 4 1, 3) := by decide +kernel
theorem dX4_as_58 : decode cX4_as 58 = .ok (.goto (-25), 3) := by decide +kernel
theorem dX4_as_61 : decode cX4_as 61 = .ok (.iload_n 3, 1) := by decide +kernel
theorem dX4_as_62 : decode cX4_as 62 = .ok (.iload_n 2, 1) := by decide +kernel
theorem dX4_as_63 : decode cX4_as 63 = .ok (.if_icmp .ne 11, 3) := by decide +kernel
theorem dX4_as_66 : decode cX4_as 66 = .ok (.aload_n 0, 1) := by decide +kernel
theorem dX4_as_67 : decode cX4_as 67 = .ok (.iload_n 1, 1) := by decide +kernel
theorem dX4_as_68 : decode cX4_as 68 = .ok (.invokevirtual 71, 3) := by decide +kernel
theorem dX4_as_71 : decode cX4_as 71 = .ok (.goto 8, 3) := by decide +kernel
theorem dX4_as_74 : decode cX4_as 74 = .ok (.aload_n 0, 1) := by decide +kernel
theorem dX4_as_75 : decode cX4_as 75 = .ok (.iconst 3, 1) := by decide +kernel
theorem dX4_as_76 : decode cX4_as 76 = .ok (.invokevirtual 63, 3) := by decide +kernel
theorem dX4_as_79 : decode cX4_as 79 = .ok (.ireturn, 1) := by decide +kernel
set_option maxRecDepth 20000 in
theorem ggX4_ask_X4_isOath : GoodIn wsX4_ask wsX4_isOath := goodIn_r _ [7, 8, 9, 31, 32, 33, 34, 35, 36, 37, 38, 39, 40, 41, 42, 43, 44, 45, 46, 47, 48, 49, 50, 51, 52] (by decide +kernel) (by decide +kernel)
set_option maxRecDepth 20000 in
theorem gX4_ask_X4_isOath : GoodIn wsX4_ask (wsV RX4 153 RX4 yX4_isOath wsX4_isOath) := goodIn_app (goodIn_of _ (by decide +kernel)) ggX4_ask_X4_isOath
set_option maxRecDepth 20000 in
theorem ggX4_ask_X4_isEither : GoodIn wsX4_ask wsX4_isEither := goodIn_r _ [12] (by decide +kernel) (by decide +kernel)
set_option maxRecDepth 20000 in
theorem gX4_ask_X4_isEither : GoodIn wsX4_ask (va_wsS RX4 177 yX4_isEither wsX4_isEither) := goodIn_app (goodIn_of _ (by decide +kernel)) ggX4_ask_X4_isEither
set_option maxRecDepth 20000 in
theorem ggX4_ask_X4_askAnew : GoodIn wsX4_ask wsX4_askAnew := goodIn_r _ [16, 8, 17, 18, 19, 20, 6, 21, 22, 23, 24, 25, 26, 27, 1, 2, 28, 29, 30, 13, 14, 15, 31, 32, 33, 34, 35, 36, 37, 38, 39, 40, 41, 42, 43, 44, 45, 46, 47, 48, 49, 50, 51, 52] (by decide +kernel) (by decide +kernel)
set_option maxRecDepth 20000 in
theorem gX4_ask_X4_askAnew : GoodIn wsX4_ask (wsV RX4 248 RX4 yX4_askAnew wsX4_askAnew) := goodIn_app (goodIn_of _ (by decide +kernel)) ggX4_ask_X4_askAnew
theorem dX4_ask_0 : decode cX4_ask 0 = .ok (.aload_n 0, 1) := by decide +kernel
theorem dX4_ask_1 : decode cX4_ask 1 = .ok (.iload_n 1, 1) := by decide +kernel
theorem dX4_ask_2 : decode cX4_ask 2 = .ok (.invokevirtual 153, 3) := by decide +kernel
theorem dX4_ask_5 : decode cX4_ask 5 = .ok (.ifCond .eq 10, 3) := by decide +kernel
theorem dX4_ask_8 : decode cX4_ask 8 = .ok (.iload_n 2, 1) := by decide +kernel
theorem dX4_ask_9 : decode cX4_ask 9 = .ok (.invokestatic 177, 3) := by decide +kernel
theorem dX4_ask_12 : decode cX4_ask 12 = .ok (.ifCond .ne 6, 3) := by decide +kernel
theorem dX4_ask_15 : decode cX4_ask 15 = .ok (.ldc 62, 2) := by decide +kernel
theorem dX4_ask_17 : decode cX4_ask 17 = .ok (.ireturn, 1) := by decide +kernel
theorem dX4_ask_18 : decode cX4_ask 18 = .ok (.aload_n 0, 1) := by decide +kernel
theorem dX4_ask_19 : decode cX4_ask 19 = .ok (.iconst 0, 1) := by decide +kernel
theorem dX4_ask_20 : decode cX4_ask 20 = .ok (.putfield 47, 3) := by decide +kernel
theorem dX4_ask_23 : decode cX4_ask 23 = .ok (.aload_n 0, 1) := by decide +kernel
theorem dX4_ask_24 : decode cX4_ask 24 = .ok (.iload_n 1, 1) := by decide +kernel
theorem dX4_ask_25 : decode cX4_ask 25 = .ok (.iload_n 2, 1) := by decide +kernel
theorem dX4_ask_26 : decode cX4_ask 26 = .ok (.iconst 0, 1) := by decide +kernel
theorem dX4_ask_27 : decode cX4_ask 27 = .ok (.invokevirtual 248, 3) := by decide +kernel
theorem dX4_ask_30 : decode cX4_ask 30 = .ok (.ireturn, 1) := by decide +kernel
theorem dX4_trace_0 : decode cX4_trace 0 = .ok (.iload_n 1, 1) := by decide +kernel
theorem dX4_trace_1 : decode cX4_trace 1 = .ok (.ifCond .lt 26, 3) := by decide +kernel
theorem dX4_trace_4 : decode cX4_trace 4 = .ok (.iload_n 1, 1) := by decide +kernel
theorem dX4_trace_5 : decode cX4_trace 5 = .ok (.aload_n 0, 1) := by decide +kernel
theorem dX4_trace_6 : decode cX4_trace 6 = .ok (.getfield 47, 3) := by decide +kernel
theorem dX4_trace_9 : decode cX4_trace 9 = .ok (.if_icmp .ge 18, 3) := by decide +kernel
theorem dX4_trace_12 : decode cX4_trace 12 = .ok (.iload_n 1, 1) := by decide +kernel
theorem dX4_trace_13 : decode cX4_trace 13 = .ok (.bipush 16, 2) := by decide +kernel
theorem dX4_trace_15 : decode cX4_trace 15 = .ok (.if_icmp .ge 12, 3) := by decide +kernel
theorem dX4_trace_18 : decode cX4_trace 18 = .ok (.aload_n 0, 1) := by decide +kernel
theorem dX4_trace_19 : decode cX4_trace 19 = .ok (.getfield 43, 3) := by decide +kernel
theorem dX4_trace_22 : decode cX4_trace 22 = .ok (.iload_n 1, 1) := by decide +kernel
theorem dX4_trace_23 : decode cX4_trace 23 = .ok (.iaload, 1) := by decide +kernel
theorem dX4_trace_24 : decode cX4_trace 24 = .ok (.goto 5, 3) := by decide +kernel
theorem dX4_trace_27 : decode cX4_trace 27 = .ok (.ldc 205, 2) := by decide +kernel
theorem dX4_trace_29 : decode cX4_trace 29 = .ok (.ireturn, 1) := by decide +kernel
set_option maxRecDepth 20000 in
theorem ggX4_count_X4_countRows : GoodIn wsX4_count wsX4_countRows := goodIn_r _ [15, 16, 17, 25, 26, 27, 28, 29, 30, 31, 32, 33, 34, 54, 55, 56, 57] (by decide +kernel) (by decide +kernel)
set_option maxRecDepth 20000 in
theorem gX4_count_X4_countRows : GoodIn wsX4_count (wsV RX4 251 RX4 yX4_countRows wsX4_countRows) := goodIn_app (goodIn_of _ (by decide +kernel)) ggX4_count_X4_countRows
set_option maxRecDepth 20000 in
theorem ggX4_count_X1_openBits : GoodIn wsX4_count wsX1_openBits := goodIn_r _ [22, 23, 24, 35, 36, 37, 38, 39, 40, 41, 42, 43, 44, 45, 46] (by decide +kernel) (by decide +kernel)
set_option maxRecDepth 20000 in
theorem gX4_count_X1_openBits : GoodIn wsX4_count (wsV RX4 169 RX1 yX1_openBits wsX1_openBits) := goodIn_app (goodIn_of _ (by decide +kernel)) ggX4_count_X1_openBits
theorem dX4_count_0 : decode cX4_count 0 = .ok (.iload_n 1, 1) := by decide +kernel
theorem dX4_count_1 : decode cX4_count 1 = .ok (.tableswitch 108 0 7 #[47, 52, 60, 68, 76, 84, 92, 100], 47) := by decide +kernel
theorem dX4_count_48 : decode cX4_count 48 = .ok (.aload_n 0, 1) := by decide +kernel
theorem dX4_count_49 : decode cX4_count 49 = .ok (.invokevirtual 251, 3) := by decide +kernel
theorem dX4_count_52 : decode cX4_count 52 = .ok (.ireturn, 1) := by decide +kernel
theorem dX4_count_53 : decode cX4_count 53 = .ok (.aload_n 0, 1) := by decide +kernel
theorem dX4_count_54 : decode cX4_count 54 = .ok (.getfield 25, 3) := by decide +kernel
theorem dX4_count_57 : decode cX4_count 57 = .ok (.getfield 130, 3) := by decide +kernel
theorem dX4_count_60 : decode cX4_count 60 = .ok (.ireturn, 1) := by decide +kernel
theorem dX4_count_61 : decode cX4_count 61 = .ok (.aload_n 0, 1) := by decide +kernel
theorem dX4_count_62 : decode cX4_count 62 = .ok (.getfield 25, 3) := by decide +kernel
theorem dX4_count_65 : decode cX4_count 65 = .ok (.invokevirtual 169, 3) := by decide +kernel
theorem dX4_count_68 : decode cX4_count 68 = .ok (.ireturn, 1) := by decide +kernel
theorem dX4_count_69 : decode cX4_count 69 = .ok (.aload_n 0, 1) := by decide +kernel
theorem dX4_count_70 : decode cX4_count 70 = .ok (.getfield 25, 3) := by decide +kernel
theorem dX4_count_73 : decode cX4_count 73 = .ok (.getfield 142, 3) := by decide +kernel
theorem dX4_count_76 : decode cX4_count 76 = .ok (.ireturn, 1) := by decide +kernel
theorem dX4_count_77 : decode cX4_count 77 = .ok (.aload_n 0, 1) := by decide +kernel
theorem dX4_count_78 : decode cX4_count 78 = .ok (.getfield 25, 3) := by decide +kernel
theorem dX4_count_81 : decode cX4_count 81 = .ok (.getfield 254, 3) := by decide +kernel
theorem dX4_count_84 : decode cX4_count 84 = .ok (.ireturn, 1) := by decide +kernel
theorem dX4_count_85 : decode cX4_count 85 = .ok (.aload_n 0, 1) := by decide +kernel
theorem dX4_count_86 : decode cX4_count 86 = .ok (.getfield 25, 3) := by decide +kernel
theorem dX4_count_89 : decode cX4_count 89 = .ok (.getfield 257, 3) := by decide +kernel
theorem dX4_count_92 : decode cX4_count 92 = .ok (.ireturn, 1) := by decide +kernel
theorem dX4_count_93 : decode cX4_count 93 = .ok (.aload_n 0, 1) := by decide +kernel
theorem dX4_count_94 : decode cX4_count 94 = .ok (.getfield 35, 3) := by decide +kernel
theorem dX4_count_97 : decode cX4_count 97 = .ok (.getfield 138, 3) := by decide +kernel
theorem dX4_count_100 : decode cX4_count 100 = .ok (.ireturn, 1) := by decide +kernel
theorem dX4_count_101 : decode cX4_count 101 = .ok (.aload_n 0, 1) := by decide +kernel
theorem dX4_count_102 : decode cX4_count 102 = .ok (.getfield 18, 3) := by decide +kernel
theorem dX4_count_105 : decode cX4_count 105 = .ok (.getfield 114, 3) := by decide +kernel
theorem dX4_count_108 : decode cX4_count 108 = .ok (.ireturn, 1) := by decide +kernel
theorem dX4_count_109 : decode cX4_count 109 = .ok (.ldc 62, 2) := by decide +kernel
theorem dX4_count_111 : decode cX4_count 111 = .ok (.ireturn, 1) := by decide +kernel
theorem dX4_status_0 : decode cX4_status 0 = .ok (.aload_n 0, 1) := by decide +kernel
theorem dX4_status_1 : decode cX4_status 1 = .ok (.getfield 54, 3) := by decide +kernel
theorem dX4_status_4 : decode cX4_status 4 = .ok (.ireturn, 1) := by decide +kernel
theorem dX4_isWithin_0 : decode cX4_isWithin 0 = .ok (.iload_n 0, 1) := by decide +kernel
theorem dX4_isWithin_1 : decode cX4_isWithin 1 = .ok (.iload_n 1, 1) := by decide +kernel
theorem dX4_isWithin_2 : decode cX4_isWithin 2 = .ok (.if_icmp .lt 12, 3) := by decide +kernel
theorem dX4_isWithin_5 : decode cX4_isWithin 5 = .ok (.iload_n 0, 1) := by decide +kernel
theorem dX4_isWithin_6 : decode cX4_isWithin 6 = .ok (.iload_n 2, 1) := by decide +kernel
theorem dX4_isWithin_7 : decode cX4_isWithin 7 = .ok (.if_icmp .gt 7, 3) := by decide +kernel
theorem dX4_isWithin_10 : decode cX4_isWithin 10 = .ok (.iconst 1, 1) := by decide +kernel
theorem dX4_isWithin_11 : decode cX4_isWithin 11 = .ok (.goto 4, 3) := by decide +kernel
theorem dX4_isWithin_14 : decode cX4_isWithin 14 = .ok (.iconst 0, 1) := by decide +kernel
theorem dX4_isWithin_15 : decode cX4_isWithin 15 = .ok (.ireturn, 1) := by decide +kernel
theorem dX4_isEither_0 : decode cX4_isEither 0 = .ok (.iload_n 0, 1) := by decide +kernel
theorem dX4_isEither_1 : decode cX4_isEither 1 = .ok (.ifCond .eq 8, 3) := by decide +kernel
theorem dX4_isEither_4 : decode cX4_isEither 4 = .ok (.iload_n 0, 1) := by decide +kernel
theorem dX4_isEither_5 : decode cX4_isEither 5 = .ok (.iconst 1, 1) := by decide +kernel
theorem dX4_isEither_6 : decode cX4_isEither 6 = .ok (.if_icmp .ne 7, 3) := by decide +kernel
theorem dX4_isEither_9 : decode cX4_isEither 9 = .ok (.iconst 1, 1) := by decide +kernel
theorem dX4_isEither_10 : decode cX4_isEither 10 = .ok (.goto 4, 3) := by decide +kernel
theorem dX4_isEither_13 : decode cX4_isEither 13 = .ok (.iconst 0, 1) := by decide +kernel
theorem dX4_isEither_14 : decode cX4_isEither 14 = .ok (.ireturn, 1) := by decide +kernel
set_option maxRecDepth 20000 in
theorem ggX4_isRow_X4_isWithin : GoodIn wsX4_isRow wsX4_isWithin := goodIn_r _ [4] (by decide +kernel) (by decide +kernel)
set_option maxRecDepth 20000 in
theorem gX4_isRow_X4_isWithin : GoodIn wsX4_isRow (va_wsS RX4 198 yX4_isWithin wsX4_isWithin) := goodIn_app (goodIn_of _ (by decide +kernel)) ggX4_isRow_X4_isWithin
theorem dX4_isRow_0 : decode cX4_isRow 0 = .ok (.iload_n 0, 1) := by decide +kernel
theorem dX4_isRow_1 : decode cX4_isRow 1 = .ok (.iconst 0, 1) := by decide +kernel
theorem dX4_isRow_2 : decode cX4_isRow 2 = .ok (.bipush 7, 2) := by decide +kernel
theorem dX4_isRow_4 : decode cX4_isRow 4 = .ok (.invokestatic 198, 3) := by decide +kernel
theorem dX4_isRow_7 : decode cX4_isRow 7 = .ok (.ireturn, 1) := by decide +kernel
set_option maxRecDepth 20000 in
theorem ggX4_isPlace_X4_isWithin : GoodIn wsX4_isPlace wsX4_isWithin := goodIn_r _ [4] (by decide +kernel) (by decide +kernel)
set_option maxRecDepth 20000 in
theorem gX4_isPlace_X4_isWithin : GoodIn wsX4_isPlace (va_wsS RX4 198 yX4_isWithin wsX4_isWithin) := goodIn_app (goodIn_of _ (by decide +kernel)) ggX4_isPlace_X4_isWithin
theorem dX4_isPlace_0 : decode cX4_isPlace 0 = .ok (.iload_n 0, 1) := by decide +kernel
theorem dX4_isPlace_1 : decode cX4_isPlace 1 = .ok (.iconst 0, 1) := by decide +kernel
theorem dX4_isPlace_2 : decode cX4_isPlace 2 = .ok (.bipush 9, 2) := by decide +kernel
theorem dX4_isPlace_4 : decode cX4_isPlace 4 = .ok (.invokestatic 198, 3) := by decide +kernel
theorem dX4_isPlace_7 : decode cX4_isPlace 7 = .ok (.ireturn, 1) := by decide +kernel
theorem dX4_isOath_0 : decode cX4_isOath 0 = .ok (.iload_n 1, 1) := by decide +kernel
theorem dX4_isOath_1 : decode cX4_isOath 1 = .ok (.ifCond .lt 18, 3) := by decide +kernel
theorem dX4_isOath_4 : decode cX4_isOath 4 = .ok (.iload_n 1, 1) := by decide +kernel
theorem dX4_isOath_5 : decode cX4_isOath 5 = .ok (.aload_n 0, 1) := by decide +kernel
theorem dX4_isOath_6 : decode cX4_isOath 6 = .ok (.getfield 25, 3) := by decide +kernel
theorem dX4_isOath_9 : decode cX4_isOath 9 = .ok (.getfield 130, 3) := by decide +kernel
theorem dX4_isOath_12 : decode cX4_isOath 12 = .ok (.if_icmp .ge 7, 3) := by decide +kernel
theorem dX4_isOath_15 : decode cX4_isOath 15 = .ok (.iconst 1, 1) := by decide +kernel
theorem dX4_isOath_16 : decode cX4_isOath 16 = .ok (.goto 4, 3) := by decide +kernel
theorem dX4_isOath_19 : decode cX4_isOath 19 = .ok (.iconst 0, 1) := by decide +kernel
theorem dX4_isOath_20 : decode cX4_isOath 20 = .ok (.ireturn, 1) := by decide +kernel
theorem dX4_noRoute_0 : decode cX4_noRoute 0 = .ok (.aload_n 0, 1) := by decide +kernel
theorem dX4_noRoute_1 : decode cX4_noRoute 1 = .ok (.getfield 25, 3) := by decide +kernel
theorem dX4_noRoute_4 : decode cX4_noRoute 4 = .ok (.getfield 130, 3) := by decide +kernel
theorem dX4_noRoute_7 : decode cX4_noRoute 7 = .ok (.ifCond .ne 7, 3) := by decide +kernel
theorem dX4_noRoute_10 : decode cX4_noRoute 10 = .ok (.iconst 1, 1) := by decide +kernel
theorem dX4_noRoute_11 : decode cX4_noRoute 11 = .ok (.goto 4, 3) := by decide +kernel
theorem dX4_noRoute_14 : decode cX4_noRoute 14 = .ok (.iconst 0, 1) := by decide +kernel
theorem dX4_noRoute_15 : decode cX4_noRoute 15 = .ok (.ireturn, 1) := by decide +kernel
theorem dX4_found_0 : decode cX4_found 0 = .ok (.aload_n 0, 1) := by decide +kernel
theorem dX4_found_1 : decode cX4_found 1 = .ok (.iload_n 1, 1) := by decide +kernel
theorem dX4_found_2 : decode cX4_found 2 = .ok (.putfield 54, 3) := by decide +kernel
theorem dX4_found_5 : decode cX4_found 5 = .ok (.ldc_w 260, 3) := by decide +kernel
theorem dX4_found_8 : decode cX4_found 8 = .ok (.iload_n 1, 1) := by decide +kernel
theorem dX4_found_9 : decode cX4_found 9 = .ok (.isub, 1) := by decide +kernel
theorem dX4_found_10 : decode cX4_found 10 = .ok (.ireturn, 1) := by decide +kernel
theorem dX4_unfound_0 : decode cX4_unfound 0 = .ok (.aload_n 0, 1) := by decide +kernel
theorem dX4_unfound_1 : decode cX4_unfound 1 = .ok (.iconst 0, 1) := by decide +kernel
theorem dX4_unfound_2 : decode cX4_unfound 2 = .ok (.putfield 54, 3) := by decide +kernel
theorem dX4_unfound_5 : decode cX4_unfound 5 = .ok (.iload_n 1, 1) := by decide +kernel
theorem dX4_unfound_6 : decode cX4_unfound 6 = .ok (.ireturn, 1) := by decide +kernel
set_option maxRecDepth 20000 in
theorem ggX4_findingOf_X2_has : GoodIn wsX4_findingOf wsX2_has := goodIn_r _ [7, 8, 19, 20, 21, 22] (by decide +kernel) (by decide +kernel)
set_option maxRecDepth 20000 in
theorem gX4_findingOf_X2_has : GoodIn wsX4_findingOf (wsV RX4 89 RX2 yX2_has wsX2_has) := goodIn_app (goodIn_of _ (by decide +kernel)) ggX4_findingOf_X2_has
theorem dX4_findingOf_0 : decode cX4_findingOf 0 = .ok (.aload_n 0, 1) := by decide +kernel
theorem dX4_findingOf_1 : decode cX4_findingOf 1 = .ok (.getfield 11, 3) := by decide +kernel
theorem dX4_findingOf_4 : decode cX4_findingOf 4 = .ok (.iload_n 1, 1) := by decide +kernel
theorem dX4_findingOf_5 : decode cX4_findingOf 5 = .ok (.aaload, 1) := by decide +kernel
theorem dX4_findingOf_6 : decode cX4_findingOf 6 = .ok (.getfield 82, 3) := by decide +kernel
theorem dX4_findingOf_9 : decode cX4_findingOf 9 = .ok (.ifCond .eq 5, 3) := by decide +kernel
theorem dX4_findingOf_12 : decode cX4_findingOf 12 = .ok (.iconst 1, 1) := by decide +kernel
theorem dX4_findingOf_13 : decode cX4_findingOf 13 = .ok (.ireturn, 1) := by decide +kernel
theorem dX4_findingOf_14 : decode cX4_findingOf 14 = .ok (.aload_n 0, 1) := by decide +kernel
theorem dX4_findingOf_15 : decode cX4_findingOf 15 = .ok (.getfield 11, 3) := by decide +kernel
theorem dX4_findingOf_18 : decode cX4_findingOf 18 = .ok (.iload_n 1, 1) := by decide +kernel
theorem dX4_findingOf_19 : decode cX4_findingOf 19 = .ok (.aaload, 1) := by decide +kernel
theorem dX4_findingOf_20 : decode cX4_findingOf 20 = .ok (.iload_n 2, 1) := by decide +kernel
theorem dX4_findingOf_21 : decode cX4_findingOf 21 = .ok (.iload_n 3, 1) := by decide +kernel
theorem dX4_findingOf_22 : decode cX4_findingOf 22 = .ok (.invokevirtual 89, 3) := by decide +kernel
theorem dX4_findingOf_25 : decode cX4_findingOf 25 = .ok (.ifCond .eq 7, 3) := by decide +kernel
theorem dX4_findingOf_28 : decode cX4_findingOf 28 = .ok (.iconst 0, 1) := by decide +kernel
theorem dX4_findingOf_29 : decode cX4_findingOf 29 = .ok (.goto 4, 3) := by decide +kernel
theorem dX4_findingOf_32 : decode cX4_findingOf 32 = .ok (.iconst 2, 1) := by decide +kernel
theorem dX4_findingOf_33 : decode cX4_findingOf 33 = .ok (.ireturn, 1) := by decide +kernel
theorem dX4_countRows_0 : decode cX4_countRows 0 = .ok (.iconst 0, 1) := by decide +kernel
theorem dX4_countRows_1 : decode cX4_countRows 1 = .ok (.istore_n 1, 1) := by decide +kernel
theorem dX4_countRows_2 : decode cX4_countRows 2 = .ok (.iconst 0, 1) := by decide +kernel
theorem dX4_countRows_3 : decode cX4_countRows 3 = .ok (.istore_n 2, 1) := by decide +kernel
theorem dX4_countRows_4 : decode cX4_countRows 4 = .ok (.iload_n 2, 1) := by decide +kernel
theorem dX4_countRows_5 : decode cX4_countRows 5 = .ok (.bipush 8, 2) := by decide +kernel
theorem dX4_countRows_7 : decode cX4_countRows 7 = .ok (.if_icmp .ge 29, 3) := by decide +kernel
theorem dX4_countRows_10 : decode cX4_countRows 10 = .ok (.iload_n 1, 1) := by decide +kernel
theorem dX4_countRows_11 : decode cX4_countRows 11 = .ok (.aload_n 0, 1) := by decide +kernel
theorem dX4_countRows_12 : decode cX4_countRows 12 = .ok (.getfield 11, 3) := by decide +kernel
theorem dX4_countRows_15 : decode cX4_countRows 15 = .ok (.iload_n 2, 1) := by decide +kernel
theorem dX4_countRows_16 : decode cX4_countRows 16 = .ok (.aaload, 1) := by decide +kernel
theorem dX4_countRows_17 : decode cX4_countRows 17 = .ok (.getfield 82, 3) := by decide +kernel
theorem dX4_countRows_20 : decode cX4_countRows 20 = .ok (.ifCond .eq 7, 3) := by decide +kernel
theorem dX4_countRows_23 : decode cX4_countRows 23 = .ok (.iconst 0, 1) := by decide +kernel
theorem dX4_countRows_24 : decode cX4_countRows 24 = .ok (.goto 4, 3) := by decide +kernel
theorem dX4_countRows_27 : decode cX4_countRows 27 = .ok (.iconst 1, 1) := by decide +kernel
theorem dX4_countRows_28 : decode cX4_countRows 28 = .ok (.iadd, 1) := by decide +kernel
theorem dX4_countRows_29 : decode cX4_countRows 29 = .ok (.istore_n 1, 1) := by decide +kernel
theorem dX4_countRows_30 : decode cX4_countRows 30 = .ok (.iinc 2 1, 3) := by decide +kernel
theorem dX4_countRows_33 : decode cX4_countRows 33 = .ok (.goto (-29), 3) := by decide +kernel
theorem dX4_countRows_36 : decode cX4_countRows 36 = .ok (.iload_n 1, 1) := by decide +kernel
theorem dX4_countRows_37 : decode cX4_countRows 37 = .ok (.ireturn, 1) := by decide +kernel
set_option maxRecDepth 20000 in
theorem ggX4_placeIfBought_X1_become : GoodIn wsX4_placeIfBought wsX1_become := goodIn_r _ [10, 11, 12, 13, 14, 15, 16, 17, 18, 19, 20, 21, 22, 23, 24, 25, 26, 70, 71, 72, 73, 74, 75, 76, 77, 78, 79, 80, 81] (by decide +kernel) (by decide +kernel)
set_option maxRecDepth 20000 in
theorem gX4_placeIfBought_X1_become : GoodIn wsX4_placeIfBought (wsV RX4 123 RX1 yX1_become wsX1_become) := goodIn_app (goodIn_of _ (by decide +kernel)) ggX4_placeIfBought_X1_become
set_option maxRecDepth 20000 in
theorem ggX4_placeIfBought_X1_passHours : GoodIn wsX4_placeIfBought wsX1_passHours := goodIn_r _ [30, 31, 32, 33, 9, 34, 11, 13, 35, 36, 37, 38, 23, 39, 40, 41, 42, 43, 15, 44, 45, 46, 47, 26, 14, 25, 18, 24, 48, 49, 50, 51, 52, 53, 54, 55, 17, 16, 56, 57, 58, 59, 70, 71, 72, 73, 74, 75, 76, 77, 78, 79, 80, 81] (by decide +kernel) (by decide +kernel)
set_option maxRecDepth 20000 in
theorem gX4_placeIfBought_X1_passHours : GoodIn wsX4_placeIfBought (wsV RX4 202 RX1 yX1_passHours wsX1_passHours) := goodIn_app (goodIn_of _ (by decide +kernel)) ggX4_placeIfBought_X1_passHours
theorem dX4_placeIfBought_0 : decode cX4_placeIfBought 0 = .ok (.aload_n 0, 1) := by decide +kernel
theorem dX4_placeIfBought_1 : decode cX4_placeIfBought 1 = .ok (.getfield 29, 3) := by decide +kernel
theorem dX4_placeIfBought_4 : decode cX4_placeIfBought 4 = .ok (.aload_n 0, 1) := by decide +kernel
theorem dX4_placeIfBought_5 : decode cX4_placeIfBought 5 = .ok (.getfield 25, 3) := by decide +kernel
theorem dX4_placeIfBought_8 : decode cX4_placeIfBought 8 = .ok (.invokevirtual 123, 3) := by decide +kernel
theorem dX4_placeIfBought_11 : decode cX4_placeIfBought 11 = .ok (.iconst 0, 1) := by decide +kernel
theorem dX4_placeIfBought_12 : decode cX4_placeIfBought 12 = .ok (.istore_n 3, 1) := by decide +kernel
theorem dX4_placeIfBought_13 : decode cX4_placeIfBought 13 = .ok (.iload_n 3, 1) := by decide +kernel
theorem dX4_placeIfBought_14 : decode cX4_placeIfBought 14 = .ok (.aload_n 0, 1) := by decide +kernel
theorem dX4_placeIfBought_15 : decode cX4_placeIfBought 15 = .ok (.getfield 29, 3) := by decide +kernel
theorem dX4_placeIfBought_18 : decode cX4_placeIfBought 18 = .ok (.getfield 130, 3) := by decide +kernel
theorem dX4_placeIfBought_21 : decode cX4_placeIfBought 21 = .ok (.if_icmp .ge 27, 3) := by decide +kernel
theorem dX4_placeIfBought_24 : decode cX4_placeIfBought 24 = .ok (.iload_n 1, 1) := by decide +kernel
theorem dX4_placeIfBought_25 : decode cX4_placeIfBought 25 = .ok (.iload_n 3, 1) := by decide +kernel
theorem dX4_placeIfBought_26 : decode cX4_placeIfBought 26 = .ok (.ishr, 1) := by decide +kernel
theorem dX4_placeIfBought_27 : decode cX4_placeIfBought 27 = .ok (.iconst 1, 1) := by decide +kernel
theorem dX4_placeIfBought_28 : decode cX4_placeIfBought 28 = .ok (.iand, 1) := by decide +kernel
theorem dX4_placeIfBought_29 : decode cX4_placeIfBought 29 = .ok (.ifCond .eq 13, 3) := by decide +kernel
theorem dX4_placeIfBought_32 : decode cX4_placeIfBought 32 = .ok (.aload_n 0, 1) := by decide +kernel
theorem dX4_placeIfBought_33 : decode cX4_placeIfBought 33 = .ok (.getfield 29, 3) := by decide +kernel
theorem dX4_placeIfBought_36 : decode cX4_placeIfBought 36 = .ok (.getfield 166, 3) := by decide +kernel
theorem dX4_placeIfBought_39 : decode cX4_placeIfBought 39 = .ok (.iload_n 3, 1) := by decide +kernel
theorem dX4_placeIfBought_40 : decode cX4_placeIfBought 40 = .ok (.iconst 3, 1) := by decide +kernel
theorem dX4_placeIfBought_41 : decode cX4_placeIfBought 41 = .ok (.iastore, 1) := by decide +kernel
theorem dX4_placeIfBought_42 : decode cX4_placeIfBought 42 = .ok (.iinc 3 1, 3) := by decide +kernel
theorem dX4_placeIfBought_45 : decode cX4_placeIfBought 45 = .ok (.goto (-32), 3) := by decide +kernel
theorem dX4_placeIfBought_48 : decode cX4_placeIfBought 48 = .ok (.aload_n 0, 1) := by decide +kernel
theorem dX4_placeIfBought_49 : decode cX4_placeIfBought 49 = .ok (.getfield 29, 3) := by decide +kernel
theorem dX4_placeIfBought_52 : decode cX4_placeIfBought 52 = .ok (.iload_n 2, 1) := by decide +kernel
theorem dX4_placeIfBought_53 : decode cX4_placeIfBought 53 = .ok (.invokevirtual 202, 3) := by decide +kernel
theorem dX4_placeIfBought_56 : decode cX4_placeIfBought 56 = .ok (.aload_n 0, 1) := by decide +kernel
theorem dX4_placeIfBought_57 : decode cX4_placeIfBought 57 = .ok (.getfield 29, 3) := by decide +kernel
theorem dX4_placeIfBought_60 : decode cX4_placeIfBought 60 = .ok (.getfield 152, 3) := by decide +kernel
theorem dX4_placeIfBought_63 : decode cX4_placeIfBought 63 = .ok (.ireturn, 1) := by decide +kernel
theorem dX4_bitAt_0 : decode cX4_bitAt 0 = .ok (.iload_n 1, 1) := by decide +kernel
theorem dX4_bitAt_1 : decode cX4_bitAt 1 = .ok (.istore_n 2, 1) := by decide +kernel
theorem dX4_bitAt_2 : decode cX4_bitAt 2 = .ok (.iconst 0, 1) := by decide +kernel
theorem dX4_bitAt_3 : decode cX4_bitAt 3 = .ok (.istore_n 3, 1) := by decide +kernel
theorem dX4_bitAt_4 : decode cX4_bitAt 4 = .ok (.iload_n 3, 1) := by decide +kernel
theorem dX4_bitAt_5 : decode cX4_bitAt 5 = .ok (.bipush 7, 2) := by decide +kernel
theorem dX4_bitAt_7 : decode cX4_bitAt 7 = .ok (.if_icmp .ge 26, 3) := by decide +kernel
theorem dX4_bitAt_10 : decode cX4_bitAt 10 = .ok (.iload_n 0, 1) := by decide +kernel
theorem dX4_bitAt_11 : decode cX4_bitAt 11 = .ok (.iload_n 3, 1) := by decide +kernel
theorem dX4_bitAt_12 : decode cX4_bitAt 12 = .ok (.ishr, 1) := by decide +kernel
theorem dX4_bitAt_13 : decode cX4_bitAt 13 = .ok (.iconst 1, 1) := by decide +kernel
theorem dX4_bitAt_14 : decode cX4_bitAt 14 = .ok (.iand, 1) := by decide +kernel
theorem dX4_bitAt_15 : decode cX4_bitAt 15 = .ok (.ifCond .eq 12, 3) := by decide +kernel
theorem dX4_bitAt_18 : decode cX4_bitAt 18 = .ok (.iload_n 2, 1) := by decide +kernel
theorem dX4_bitAt_19 : decode cX4_bitAt 19 = .ok (.ifCond .ne 5, 3) := by decide +kernel
theorem dX4_bitAt_22 : decode cX4_bitAt 22 = .ok (.iload_n 3, 1) := by decide +kernel
theorem dX4_bitAt_23 : decode cX4_bitAt 23 = .ok (.ireturn, 1) := by decide +kernel
theorem dX4_bitAt_24 : decode cX4_bitAt 24 = .ok (.iinc 2 (-1), 3) := by decide +kernel
theorem dX4_bitAt_27 : decode cX4_bitAt 27 = .ok (.iinc 3 1, 3) := by decide +kernel
theorem dX4_bitAt_30 : decode cX4_bitAt 30 = .ok (.goto (-26), 3) := by decide +kernel
theorem dX4_bitAt_33 : decode cX4_bitAt 33 = .ok (.ldc 205, 2) := by decide +kernel
theorem dX4_bitAt_35 : decode cX4_bitAt 35 = .ok (.ireturn, 1) := by decide +kernel
theorem dX4_power_0 : decode cX4_power 0 = .ok (.lconst 1, 1) := by decide +kernel
theorem dX4_power_1 : decode cX4_power 1 = .ok (.lstore_n 2, 1) := by decide +kernel
theorem dX4_power_2 : decode cX4_power 2 = .ok (.iconst 0, 1) := by decide +kernel
theorem dX4_power_3 : decode cX4_power 3 = .ok (.istore 4, 2) := by decide +kernel
theorem dX4_power_5 : decode cX4_power 5 = .ok (.iload 4, 2) := by decide +kernel
theorem dX4_power_7 : decode cX4_power 7 = .ok (.iload_n 1, 1) := by decide +kernel
theorem dX4_power_8 : decode cX4_power 8 = .ok (.if_icmp .ge 14, 3) := by decide +kernel
theorem dX4_power_11 : decode cX4_power 11 = .ok (.lload_n 2, 1) := by decide +kernel
theorem dX4_power_12 : decode cX4_power 12 = .ok (.iload_n 0, 1) := by decide +kernel
theorem dX4_power_13 : decode cX4_power 13 = .ok (.i2l, 1) := by decide +kernel
theorem dX4_power_14 : decode cX4_power 14 = .ok (.lmul, 1) := by decide +kernel
theorem dX4_power_15 : decode cX4_power 15 = .ok (.lstore_n 2, 1) := by decide +kernel
theorem dX4_power_16 : decode cX4_power 16 = .ok (.iinc 4 1, 3) := by decide +kernel
theorem dX4_power_19 : decode cX4_power 19 = .ok (.goto (-14), 3) := by decide +kernel
theorem dX4_power_22 : decode cX4_power 22 = .ok (.lload_n 2, 1) := by decide +kernel
theorem dX4_power_23 : decode cX4_power 23 = .ok (.lreturn, 1) := by decide +kernel
theorem dX4_commonDivisor_0 : decode cX4_commonDivisor 0 = .ok (.lload_n 0, 1) := by decide +kernel
theorem dX4_commonDivisor_1 : decode cX4_commonDivisor 1 = .ok (.lstore 4, 2) := by decide +kernel
theorem dX4_commonDivisor_3 : decode cX4_commonDivisor 3 = .ok (.lload_n 2, 1) := by decide +kernel
theorem dX4_commonDivisor_4 : decode cX4_commonDivisor 4 = .ok (.lstore 6, 2) := by decide +kernel
theorem dX4_commonDivisor_6 : decode cX4_commonDivisor 6 = .ok (.iconst 0, 1) := by decide +kernel
theorem dX4_commonDivisor_7 : decode cX4_commonDivisor 7 = .ok (.istore 8, 2) := by decide +kernel
theorem dX4_commonDivisor_9 : decode cX4_commonDivisor 9 = .ok (.iload 8, 2) := by decide +kernel
theorem dX4_commonDivisor_11 : decode cX4_commonDivisor 11 = .ok (.bipush 100, 2) := by decide +kernel
theorem dX4_commonDivisor_13 : decode cX4_commonDivisor 13 = .ok (.if_icmp .ge 31, 3) := by decide +kernel
theorem dX4_commonDivisor_16 : decode cX4_commonDivisor 16 = .ok (.lload 6, 2) := by decide +kernel
theorem dX4_commonDivisor_18 : decode cX4_commonDivisor 18 = .ok (.lconst 0, 1) := by decide +kernel
theorem dX4_commonDivisor_19 : decode cX4_commonDivisor 19 = .ok (.lcmp, 1) := by decide +kernel
theorem dX4_commonDivisor_20 : decode cX4_commonDivisor 20 = .ok (.ifCond .eq 24, 3) := by decide +kernel
theorem dX4_commonDivisor_23 : decode cX4_commonDivisor 23 = .ok (.lload 4, 2) := by decide +kernel
theorem dX4_commonDivisor_25 : decode cX4_commonDivisor 25 = .ok (.lload 6, 2) := by decide +kernel
theorem dX4_commonDivisor_27 : decode cX4_commonDivisor 27 = .ok (.lrem, 1) := by decide +kernel
theorem dX4_commonDivisor_28 : decode cX4_commonDivisor 28 = .ok (.lstore 9, 2) := by decide +kernel
theorem dX4_commonDivisor_30 : decode cX4_commonDivisor 30 = .ok (.lload 6, 2) := by decide +kernel
theorem dX4_commonDivisor_32 : decode cX4_commonDivisor 32 = .ok (.lstore 4, 2) := by decide +kernel
theorem dX4_commonDivisor_34 : decode cX4_commonDivisor 34 = .ok (.lload 9, 2) := by decide +kernel
theorem dX4_commonDivisor_36 : decode cX4_commonDivisor 36 = .ok (.lstore 6, 2) := by decide +kernel
theorem dX4_commonDivisor_38 : decode cX4_commonDivisor 38 = .ok (.iinc 8 1, 3) := by decide +kernel
theorem dX4_commonDivisor_41 : decode cX4_commonDivisor 41 = .ok (.goto (-32), 3) := by decide +kernel
theorem dX4_commonDivisor_44 : decode cX4_commonDivisor 44 = .ok (.lload 4, 2) := by decide +kernel
theorem dX4_commonDivisor_46 : decode cX4_commonDivisor 46 = .ok (.lreturn, 1) := by decide +kernel
set_option maxRecDepth 20000 in
theorem ggX4_askAnew_X4_toldBody : GoodIn wsX4_askAnew wsX4_toldBody := goodIn_r _ [7, 8, 9] (by decide +kernel) (by decide +kernel)
set_option maxRecDepth 20000 in
theorem gX4_askAnew_X4_toldBody : GoodIn wsX4_askAnew (va_wsS RX4 261 yX4_toldBody wsX4_toldBody) := goodIn_app (goodIn_of _ (by decide +kernel)) ggX4_askAnew_X4_toldBody
set_option maxRecDepth 20000 in
theorem ggX4_askAnew_X4_runBody : GoodIn wsX4_askAnew wsX4_runBody := goodIn_r _ [13, 14, 15, 16, 1, 17, 18, 10, 11, 12, 6, 19, 20, 21, 0, 2, 3, 4, 5, 7, 8, 9, 22, 23, 24, 25, 26, 27, 28, 29, 30, 31, 32, 33, 34, 35, 36, 37, 38, 39, 40, 41, 42, 43] (by decide +kernel) (by decide +kernel)
set_option maxRecDepth 20000 in
theorem gX4_askAnew_X4_runBody : GoodIn wsX4_askAnew (wsV RX4 264 RX4 yX4_runBody wsX4_runBody) := goodIn_app (goodIn_of _ (by decide +kernel)) ggX4_askAnew_X4_runBody
theorem dX4_askAnew_0 : decode cX4_askAnew 0 = .ok (.aload_n 0, 1) := by decide +kernel
theorem dX4_askAnew_1 : decode cX4_askAnew 1 = .ok (.getfield 25, 3) := by decide +kernel
theorem dX4_askAnew_4 : decode cX4_askAnew 4 = .ok (.getfield 213, 3) := by decide +kernel
theorem dX4_askAnew_7 : decode cX4_askAnew 7 = .ok (.iload_n 1, 1) := by decide +kernel
theorem dX4_askAnew_8 : decode cX4_askAnew 8 = .ok (.iaload, 1) := by decide +kernel
theorem dX4_askAnew_9 : decode cX4_askAnew 9 = .ok (.istore 4, 2) := by decide +kernel
theorem dX4_askAnew_11 : decode cX4_askAnew 11 = .ok (.iconst 0, 1) := by decide +kernel
theorem dX4_askAnew_12 : decode cX4_askAnew 12 = .ok (.istore 5, 2) := by decide +kernel
theorem dX4_askAnew_14 : decode cX4_askAnew 14 = .ok (.iload 5, 2) := by decide +kernel
theorem dX4_askAnew_16 : decode cX4_askAnew 16 = .ok (.bipush 6, 2) := by decide +kernel
theorem dX4_askAnew_18 : decode cX4_askAnew 18 = .ok (.if_icmp .ge 31, 3) := by decide +kernel
theorem dX4_askAnew_21 : decode cX4_askAnew 21 = .ok (.iload 4, 2) := by decide +kernel
theorem dX4_askAnew_23 : decode cX4_askAnew 23 = .ok (.ifCond .le 26, 3) := by decide +kernel
theorem dX4_askAnew_26 : decode cX4_askAnew 26 = .ok (.iload 4, 2) := by decide +kernel
theorem dX4_askAnew_28 : decode cX4_askAnew 28 = .ok (.iload_n 2, 1) := by decide +kernel
theorem dX4_askAnew_29 : decode cX4_askAnew 29 = .ok (.invokestatic 261, 3) := by decide +kernel
theorem dX4_askAnew_32 : decode cX4_askAnew 32 = .ok (.ifCond .ne 17, 3) := by decide +kernel
theorem dX4_askAnew_35 : decode cX4_askAnew 35 = .ok (.getstatic 245, 3) := by decide +kernel
theorem dX4_askAnew_38 : decode cX4_askAnew 38 = .ok (.iload 4, 2) := by decide +kernel
theorem dX4_askAnew_40 : decode cX4_askAnew 40 = .ok (.iaload, 1) := by decide +kernel
theorem dX4_askAnew_41 : decode cX4_askAnew 41 = .ok (.istore 4, 2) := by decide +kernel
theorem dX4_askAnew_43 : decode cX4_askAnew 43 = .ok (.iinc 5 1, 3) := by decide +kernel
theorem dX4_askAnew_46 : decode cX4_askAnew 46 = .ok (.goto (-32), 3) := by decide +kernel
theorem dX4_askAnew_49 : decode cX4_askAnew 49 = .ok (.aload_n 0, 1) := by decide +kernel
theorem dX4_askAnew_50 : decode cX4_askAnew 50 = .ok (.iload 4, 2) := by decide +kernel
theorem dX4_askAnew_52 : decode cX4_askAnew 52 = .ok (.iload_n 2, 1) := by decide +kernel
theorem dX4_askAnew_53 : decode cX4_askAnew 53 = .ok (.invokestatic 261, 3) := by decide +kernel
theorem dX4_askAnew_56 : decode cX4_askAnew 56 = .ok (.iload_n 1, 1) := by decide +kernel
theorem dX4_askAnew_57 : decode cX4_askAnew 57 = .ok (.iload_n 3, 1) := by decide +kernel
theorem dX4_askAnew_58 : decode cX4_askAnew 58 = .ok (.invokevirtual 264, 3) := by decide +kernel
theorem dX4_askAnew_61 : decode cX4_askAnew 61 = .ok (.ireturn, 1) := by decide +kernel
theorem dX4_toldBody_0 : decode cX4_toldBody 0 = .ok (.iload_n 1, 1) := by decide +kernel
theorem dX4_toldBody_1 : decode cX4_toldBody 1 = .ok (.ifCond .ne 11, 3) := by decide +kernel
theorem dX4_toldBody_4 : decode cX4_toldBody 4 = .ok (.getstatic 267, 3) := by decide +kernel
theorem dX4_toldBody_7 : decode cX4_toldBody 7 = .ok (.iload_n 0, 1) := by decide +kernel
theorem dX4_toldBody_8 : decode cX4_toldBody 8 = .ok (.iaload, 1) := by decide +kernel
theorem dX4_toldBody_9 : decode cX4_toldBody 9 = .ok (.goto 8, 3) := by decide +kernel
theorem dX4_toldBody_12 : decode cX4_toldBody 12 = .ok (.getstatic 270, 3) := by decide +kernel
theorem dX4_toldBody_15 : decode cX4_toldBody 15 = .ok (.iload_n 0, 1) := by decide +kernel
theorem dX4_toldBody_16 : decode cX4_toldBody 16 = .ok (.iaload, 1) := by decide +kernel
theorem dX4_toldBody_17 : decode cX4_toldBody 17 = .ok (.ireturn, 1) := by decide +kernel
set_option maxRecDepth 20000 in
theorem ggX4_runBody_X4_runBody : GoodIn wsX4_runBody wsX4_runBody := goodIn_r _ [0, 1, 2, 3, 4, 5, 6, 7, 8, 9, 10, 11, 12, 13, 14, 15, 16, 17, 18, 19, 20, 21, 22, 23, 24, 25, 26, 27, 28, 29, 30, 31, 32, 33, 34, 35, 36, 37, 38, 39, 40, 41, 42, 43] (by decide +kernel) (by decide +kernel)
set_option maxRecDepth 20000 in
theorem gX4_runBody_X4_runBody : GoodIn wsX4_runBody (wsV RX4 264 RX4 yX4_runBody wsX4_runBody) := goodIn_app (goodIn_of _ (by decide +kernel)) ggX4_runBody_X4_runBody
set_option maxRecDepth 20000 in
theorem ggX4_runBody_X4_askAnew : GoodIn wsX4_runBody wsX4_askAnew := goodIn_r _ [14, 4, 15, 16, 17, 18, 10, 19, 20, 21, 7, 8, 9, 0, 1, 2, 3, 5, 6, 11, 12, 13, 22, 23, 24, 25, 26, 27, 28, 29, 30, 31, 32, 33, 34, 35, 36, 37, 38, 39, 40, 41, 42, 43] (by decide +kernel) (by decide +kernel)
set_option maxRecDepth 20000 in
theorem gX4_runBody_X4_askAnew : GoodIn wsX4_runBody (wsV RX4 248 RX4 yX4_askAnew wsX4_askAnew) := goodIn_app (goodIn_of _ (by decide +kernel)) ggX4_runBody_X4_askAnew
theorem dX4_runBody_0 : decode cX4_runBody 0 = .ok (.iload_n 3, 1) := by decide +kernel
theorem dX4_runBody_1 : decode cX4_runBody 1 = .ok (.bipush 12, 2) := by decide +kernel
theorem dX4_runBody_3 : decode cX4_runBody 3 = .ok (.if_icmp .le 6, 3) := by decide +kernel
theorem dX4_runBody_6 : decode cX4_runBody 6 = .ok (.ldc 62, 2) := by decide +kernel
theorem dX4_runBody_8 : decode cX4_runBody 8 = .ok (.ireturn, 1) := by decide +kernel
theorem dX4_runBody_9 : decode cX4_runBody 9 = .ok (.aload_n 0, 1) := by decide +kernel
theorem dX4_runBody_10 : decode cX4_runBody 10 = .ok (.getfield 47, 3) := by decide +kernel
theorem dX4_runBody_13 : decode cX4_runBody 13 = .ok (.bipush 16, 2) := by decide +kernel
theorem dX4_runBody_15 : decode cX4_runBody 15 = .ok (.if_icmp .ge 20, 3) := by decide +kernel
theorem dX4_runBody_18 : decode cX4_runBody 18 = .ok (.aload_n 0, 1) := by decide +kernel
theorem dX4_runBody_19 : decode cX4_runBody 19 = .ok (.getfield 43, 3) := by decide +kernel
theorem dX4_runBody_22 : decode cX4_runBody 22 = .ok (.aload_n 0, 1) := by decide +kernel
theorem dX4_runBody_23 : decode cX4_runBody 23 = .ok (.dup, 1) := by decide +kernel
theorem dX4_runBody_24 : decode cX4_runBody 24 = .ok (.getfield 47, 3) := by decide +kernel
theorem dX4_runBody_27 : decode cX4_runBody 27 = .ok (.dup_x1, 1) := by decide +kernel
theorem dX4_runBody_28 : decode cX4_runBody 28 = .ok (.iconst 1, 1) := by decide +kernel
theorem dX4_runBody_29 : decode cX4_runBody 29 = .ok (.iadd, 1) := by decide +kernel
theorem dX4_runBody_30 : decode cX4_runBody 30 = .ok (.putfield 47, 3) := by decide +kernel
theorem dX4_runBody_33 : decode cX4_runBody 33 = .ok (.iload_n 1, 1) := by decide +kernel
theorem dX4_runBody_34 : decode cX4_runBody 34 = .ok (.iastore, 1) := by decide +kernel
theorem dX4_runBody_35 : decode cX4_runBody 35 = .ok (.iload_n 3, 1) := by decide +kernel
theorem dX4_runBody_36 : decode cX4_runBody 36 = .ok (.iconst 1, 1) := by decide +kernel
theorem dX4_runBody_37 : decode cX4_runBody 37 = .ok (.iadd, 1) := by decide +kernel
theorem dX4_runBody_38 : decode cX4_runBody 38 = .ok (.istore 4, 2) := by decide +kernel
theorem dX4_runBody_40 : decode cX4_runBody 40 = .ok (.iload_n 1, 1) := by decide +kernel
theorem dX4_runBody_41 : decode cX4_runBody 41 = .ok (.tableswitch 207 10 24 #[75, 85, 104, 115, 128, 207, 207, 207, 207, 207, 140, 142, 162, 176, 195], 75) := by decide +kernel
theorem dX4_runBody_116 : decode cX4_runBody 116 = .ok (.aload_n 0, 1) := by decide +kernel
theorem dX4_runBody_117 : decode cX4_runBody 117 = .ok (.getfield 25, 3) := by decide +kernel
theorem dX4_runBody_120 : decode cX4_runBody 120 = .ok (.getfield 186, 3) := by decide +kernel
theorem dX4_runBody_123 : decode cX4_runBody 123 = .ok (.iload_n 2, 1) := by decide +kernel
theorem dX4_runBody_124 : decode cX4_runBody 124 = .ok (.iaload, 1) := by decide +kernel
theorem dX4_runBody_125 : decode cX4_runBody 125 = .ok (.ireturn, 1) := by decide +kernel
theorem dX4_runBody_126 : decode cX4_runBody 126 = .ok (.aload_n 0, 1) := by decide +kernel
theorem dX4_runBody_127 : decode cX4_runBody 127 = .ok (.bipush 10, 2) := by decide +kernel
theorem dX4_runBody_129 : decode cX4_runBody 129 = .ok (.iload_n 2, 1) := by decide +kernel
theorem dX4_runBody_130 : decode cX4_runBody 130 = .ok (.iload 4, 2) := by decide +kernel
theorem dX4_runBody_132 : decode cX4_runBody 132 = .ok (.invokevirtual 264, 3) := by decide +kernel
theorem dX4_runBody_135 : decode cX4_runBody 135 = .ok (.aload_n 0, 1) := by decide +kernel
theorem dX4_runBody_136 : decode cX4_runBody 136 = .ok (.iload_n 2, 1) := by decide +kernel
theorem dX4_runBody_137 : decode cX4_runBody 137 = .ok (.iconst 1, 1) := by decide +kernel
theorem dX4_runBody_138 : decode cX4_runBody 138 = .ok (.iload 4, 2) := by decide +kernel
theorem dX4_runBody_140 : decode cX4_runBody 140 = .ok (.invokevirtual 248, 3) := by decide +kernel
theorem dX4_runBody_143 : decode cX4_runBody 143 = .ok (.iadd, 1) := by decide +kernel
theorem dX4_runBody_144 : decode cX4_runBody 144 = .ok (.ireturn, 1) := by decide +kernel
theorem dX4_runBody_145 : decode cX4_runBody 145 = .ok (.aload_n 0, 1) := by decide +kernel
theorem dX4_runBody_146 : decode cX4_runBody 146 = .ok (.bipush 11, 2) := by decide +kernel
theorem dX4_runBody_148 : decode cX4_runBody 148 = .ok (.iload_n 2, 1) := by decide +kernel
theorem dX4_runBody_149 : decode cX4_runBody 149 = .ok (.iload 4, 2) := by decide +kernel
theorem dX4_runBody_151 : decode cX4_runBody 151 = .ok (.invokevirtual 264, 3) := by decide +kernel
theorem dX4_runBody_154 : decode cX4_runBody 154 = .ok (.ineg, 1) := by decide +kernel
theorem dX4_runBody_155 : decode cX4_runBody 155 = .ok (.ireturn, 1) := by decide +kernel
theorem dX4_runBody_156 : decode cX4_runBody 156 = .ok (.aload_n 0, 1) := by decide +kernel
theorem dX4_runBody_157 : decode cX4_runBody 157 = .ok (.bipush 10, 2) := by decide +kernel
theorem dX4_runBody_159 : decode cX4_runBody 159 = .ok (.iload_n 2, 1) := by decide +kernel
theorem dX4_runBody_160 : decode cX4_runBody 160 = .ok (.iload 4, 2) := by decide +kernel
theorem dX4_runBody_162 : decode cX4_runBody 162 = .ok (.invokevirtual 264, 3) := by decide +kernel
theorem dX4_runBody_165 : decode cX4_runBody 165 = .ok (.bipush 100, 2) := by decide +kernel
theorem dX4_runBody_167 : decode cX4_runBody 167 = .ok (.isub, 1) := by decide +kernel
theorem dX4_runBody_168 : decode cX4_runBody 168 = .ok (.ireturn, 1) := by decide +kernel
theorem dX4_runBody_169 : decode cX4_runBody 169 = .ok (.iconst 2, 1) := by decide +kernel
theorem dX4_runBody_170 : decode cX4_runBody 170 = .ok (.aload_n 0, 1) := by decide +kernel
theorem dX4_runBody_171 : decode cX4_runBody 171 = .ok (.bipush 13, 2) := by decide +kernel
theorem dX4_runBody_173 : decode cX4_runBody 173 = .ok (.iload_n 2, 1) := by decide +kernel
theorem dX4_runBody_174 : decode cX4_runBody 174 = .ok (.iload 4, 2) := by decide +kernel
theorem dX4_runBody_176 : decode cX4_runBody 176 = .ok (.invokevirtual 264, 3) := by decide +kernel
theorem dX4_runBody_179 : decode cX4_runBody 179 = .ok (.imul, 1) := by decide +kernel
theorem dX4_runBody_180 : decode cX4_runBody 180 = .ok (.ireturn, 1) := by decide +kernel
theorem dX4_runBody_181 : decode cX4_runBody 181 = .ok (.iload_n 2, 1) := by decide +kernel
theorem dX4_runBody_182 : decode cX4_runBody 182 = .ok (.ireturn, 1) := by decide +kernel
theorem dX4_runBody_183 : decode cX4_runBody 183 = .ok (.aload_n 0, 1) := by decide +kernel
theorem dX4_runBody_184 : decode cX4_runBody 184 = .ok (.bipush 20, 2) := by decide +kernel
theorem dX4_runBody_186 : decode cX4_runBody 186 = .ok (.iload_n 2, 1) := by decide +kernel
theorem dX4_runBody_187 : decode cX4_runBody 187 = .ok (.iload 4, 2) := by decide +kernel
theorem dX4_runBody_189 : decode cX4_runBody 189 = .ok (.invokevirtual 264, 3) := by decide +kernel
theorem dX4_runBody_192 : decode cX4_runBody 192 = .ok (.aload_n 0, 1) := by decide +kernel
theorem dX4_runBody_193 : decode cX4_runBody 193 = .ok (.getfield 25, 3) := by decide +kernel
theorem dX4_runBody_196 : decode cX4_runBody 196 = .ok (.getfield 183, 3) := by decide +kernel
theorem dX4_runBody_199 : decode cX4_runBody 199 = .ok (.iload_n 2, 1) := by decide +kernel
theorem dX4_runBody_200 : decode cX4_runBody 200 = .ok (.iaload, 1) := by decide +kernel
theorem dX4_runBody_201 : decode cX4_runBody 201 = .ok (.iadd, 1) := by decide +kernel
theorem dX4_runBody_202 : decode cX4_runBody 202 = .ok (.ireturn, 1) := by decide +kernel
theorem dX4_runBody_203 : decode cX4_runBody 203 = .ok (.aload_n 0, 1) := by decide +kernel
theorem dX4_runBody_204 : decode cX4_runBody 204 = .ok (.bipush 21, 2) := by decide +kernel
theorem dX4_runBody_206 : decode cX4_runBody 206 = .ok (.iload_n 2, 1) := by decide +kernel
theorem dX4_runBody_207 : decode cX4_runBody 207 = .ok (.iload 4, 2) := by decide +kernel
theorem dX4_runBody_209 : decode cX4_runBody 209 = .ok (.invokevirtual 264, 3) := by decide +kernel
theorem dX4_runBody_212 : decode cX4_runBody 212 = .ok (.sipush 1000, 3) := by decide +kernel
theorem dX4_runBody_215 : decode cX4_runBody 215 = .ok (.isub, 1) := by decide +kernel
theorem dX4_runBody_216 : decode cX4_runBody 216 = .ok (.ireturn, 1) := by decide +kernel
theorem dX4_runBody_217 : decode cX4_runBody 217 = .ok (.aload_n 0, 1) := by decide +kernel
theorem dX4_runBody_218 : decode cX4_runBody 218 = .ok (.bipush 20, 2) := by decide +kernel
theorem dX4_runBody_220 : decode cX4_runBody 220 = .ok (.iload_n 2, 1) := by decide +kernel
theorem dX4_runBody_221 : decode cX4_runBody 221 = .ok (.iload 4, 2) := by decide +kernel
theorem dX4_runBody_223 : decode cX4_runBody 223 = .ok (.invokevirtual 264, 3) := by decide +kernel
theorem dX4_runBody_226 : decode cX4_runBody 226 = .ok (.aload_n 0, 1) := by decide +kernel
theorem dX4_runBody_227 : decode cX4_runBody 227 = .ok (.iload_n 2, 1) := by decide +kernel
theorem dX4_runBody_228 : decode cX4_runBody 228 = .ok (.iconst 0, 1) := by decide +kernel
theorem dX4_runBody_229 : decode cX4_runBody 229 = .ok (.iload 4, 2) := by decide +kernel
theorem dX4_runBody_231 : decode cX4_runBody 231 = .ok (.invokevirtual 248, 3) := by decide +kernel
theorem dX4_runBody_234 : decode cX4_runBody 234 = .ok (.isub, 1) := by decide +kernel
theorem dX4_runBody_235 : decode cX4_runBody 235 = .ok (.ireturn, 1) := by decide +kernel
theorem dX4_runBody_236 : decode cX4_runBody 236 = .ok (.iconst 2, 1) := by decide +kernel
theorem dX4_runBody_237 : decode cX4_runBody 237 = .ok (.aload_n 0, 1) := by decide +kernel
theorem dX4_runBody_238 : decode cX4_runBody 238 = .ok (.bipush 21, 2) := by decide +kernel
theorem dX4_runBody_240 : decode cX4_runBody 240 = .ok (.iload_n 2, 1) := by decide +kernel
theorem dX4_runBody_241 : decode cX4_runBody 241 = .ok (.iload 4, 2) := by decide +kernel
theorem dX4_runBody_243 : decode cX4_runBody 243 = .ok (.invokevirtual 264, 3) := by decide +kernel
theorem dX4_runBody_246 : decode cX4_runBody 246 = .ok (.imul, 1) := by decide +kernel
theorem dX4_runBody_247 : decode cX4_runBody 247 = .ok (.ireturn, 1) := by decide +kernel
theorem dX4_runBody_248 : decode cX4_runBody 248 = .ok (.ldc 62, 2) := by decide +kernel
theorem dX4_runBody_250 : decode cX4_runBody 250 = .ok (.ireturn, 1) := by decide +kernel
theorem dX5_init_0 : decode cX5_init 0 = .ok (.aload_n 0, 1) := by decide +kernel
theorem dX5_init_1 : decode cX5_init 1 = .ok (.invokespecial 1, 3) := by decide +kernel
theorem dX5_init_4 : decode cX5_init 4 = .ok (.aload_n 0, 1) := by decide +kernel
theorem dX5_init_5 : decode cX5_init 5 = .ok (.bipush 8, 2) := by decide +kernel
theorem dX5_init_7 : decode cX5_init 7 = .ok (.newarray .int, 2) := by decide +kernel
theorem dX5_init_9 : decode cX5_init 9 = .ok (.putfield 7, 3) := by decide +kernel
theorem dX5_init_12 : decode cX5_init 12 = .ok (.aload_n 0, 1) := by decide +kernel
theorem dX5_init_13 : decode cX5_init 13 = .ok (.bipush 8, 2) := by decide +kernel
theorem dX5_init_15 : decode cX5_init 15 = .ok (.newarray .int, 2) := by decide +kernel
theorem dX5_init_17 : decode cX5_init 17 = .ok (.putfield 13, 3) := by decide +kernel
theorem dX5_init_20 : decode cX5_init 20 = .ok (.aload_n 0, 1) := by decide +kernel
theorem dX5_init_21 : decode cX5_init 21 = .ok (.sipush 320, 3) := by decide +kernel
theorem dX5_init_24 : decode cX5_init 24 = .ok (.newarray .int, 2) := by decide +kernel
theorem dX5_init_26 : decode cX5_init 26 = .ok (.putfield 16, 3) := by decide +kernel
theorem dX5_init_29 : decode cX5_init 29 = .ok (.aload_n 0, 1) := by decide +kernel
theorem dX5_init_30 : decode cX5_init 30 = .ok (.bipush 100, 2) := by decide +kernel
theorem dX5_init_32 : decode cX5_init 32 = .ok (.newarray .int, 2) := by decide +kernel
theorem dX5_init_34 : decode cX5_init 34 = .ok (.putfield 19, 3) := by decide +kernel
theorem dX5_init_37 : decode cX5_init 37 = .ok (.aload_n 0, 1) := by decide +kernel
theorem dX5_init_38 : decode cX5_init 38 = .ok (.bipush 42, 2) := by decide +kernel
theorem dX5_init_40 : decode cX5_init 40 = .ok (.newarray .int, 2) := by decide +kernel
theorem dX5_init_42 : decode cX5_init 42 = .ok (.putfield 22, 3) := by decide +kernel
theorem dX5_init_45 : decode cX5_init 45 = .ok (.aload_n 0, 1) := by decide +kernel
theorem dX5_init_46 : decode cX5_init 46 = .ok (.bipush 42, 2) := by decide +kernel
theorem dX5_init_48 : decode cX5_init 48 = .ok (.newarray .int, 2) := by decide +kernel
theorem dX5_init_50 : decode cX5_init 50 = .ok (.putfield 25, 3) := by decide +kernel
theorem dX5_init_53 : decode cX5_init 53 = .ok (.aload_n 0, 1) := by decide +kernel
theorem dX5_init_54 : decode cX5_init 54 = .ok (.bipush 42, 2) := by decide +kernel
theorem dX5_init_56 : decode cX5_init 56 = .ok (.newarray .int, 2) := by decide +kernel
theorem dX5_init_58 : decode cX5_init 58 = .ok (.putfield 28, 3) := by decide +kernel
theorem dX5_init_61 : decode cX5_init 61 = .ok (.aload_n 0, 1) := by decide +kernel
theorem dX5_init_62 : decode cX5_init 62 = .ok (.bipush 84, 2) := by decide +kernel
theorem dX5_init_64 : decode cX5_init 64 = .ok (.newarray .int, 2) := by decide +kernel
theorem dX5_init_66 : decode cX5_init 66 = .ok (.putfield 31, 3) := by decide +kernel
theorem dX5_init_69 : decode cX5_init 69 = .ok (.aload_n 0, 1) := by decide +kernel
theorem dX5_init_70 : decode cX5_init 70 = .ok (.iconst 2, 1) := by decide +kernel
theorem dX5_init_71 : decode cX5_init 71 = .ok (.newarray .boolean, 2) := by decide +kernel
theorem dX5_init_73 : decode cX5_init 73 = .ok (.putfield 34, 3) := by decide +kernel
theorem dX5_init_76 : decode cX5_init 76 = .ok (.aload_n 0, 1) := by decide +kernel
theorem dX5_init_77 : decode cX5_init 77 = .ok (.sipush 1008, 3) := by decide +kernel
theorem dX5_init_80 : decode cX5_init 80 = .ok (.newarray .int, 2) := by decide +kernel
theorem dX5_init_82 : decode cX5_init 82 = .ok (.putfield 38, 3) := by decide +kernel
theorem dX5_init_85 : decode cX5_init 85 = .ok (.aload_n 0, 1) := by decide +kernel
theorem dX5_init_86 : decode cX5_init 86 = .ok (.bipush 16, 2) := by decide +kernel
theorem dX5_init_88 : decode cX5_init 88 = .ok (.newarray .int, 2) := by decide +kernel
theorem dX5_init_90 : decode cX5_init 90 = .ok (.putfield 41, 3) := by decide +kernel
theorem dX5_init_93 : decode cX5_init 93 = .ok (.aload_n 0, 1) := by decide +kernel
theorem dX5_init_94 : decode cX5_init 94 = .ok (.bipush 12, 2) := by decide +kernel
theorem dX5_init_96 : decode cX5_init 96 = .ok (.newarray .int, 2) := by decide +kernel
theorem dX5_init_98 : decode cX5_init 98 = .ok (.putfield 44, 3) := by decide +kernel
theorem dX5_init_101 : decode cX5_init 101 = .ok (.aload_n 0, 1) := by decide +kernel
theorem dX5_init_102 : decode cX5_init 102 = .ok (.bipush 71, 2) := by decide +kernel
theorem dX5_init_104 : decode cX5_init 104 = .ok (.newarray .int, 2) := by decide +kernel
theorem dX5_init_106 : decode cX5_init 106 = .ok (.putfield 47, 3) := by decide +kernel
theorem dX5_init_109 : decode cX5_init 109 = .ok (.iconst 0, 1) := by decide +kernel
theorem dX5_init_110 : decode cX5_init 110 = .ok (.istore_n 1, 1) := by decide +kernel
theorem dX5_init_111 : decode cX5_init 111 = .ok (.iload_n 1, 1) := by decide +kernel
theorem dX5_init_112 : decode cX5_init 112 = .ok (.bipush 8, 2) := by decide +kernel
theorem dX5_init_114 : decode cX5_init 114 = .ok (.if_icmp .ge 16, 3) := by decide +kernel
theorem dX5_init_117 : decode cX5_init 117 = .ok (.aload_n 0, 1) := by decide +kernel
theorem dX5_init_118 : decode cX5_init 118 = .ok (.getfield 7, 3) := by decide +kernel
theorem dX5_init_121 : decode cX5_init 121 = .ok (.iload_n 1, 1) := by decide +kernel
theorem dX5_init_122 : decode cX5_init 122 = .ok (.iconst (-1), 1) := by decide +kernel
theorem dX5_init_123 : decode cX5_init 123 = .ok (.iastore, 1) := by decide +kernel
theorem dX5_init_124 : decode cX5_init 124 = .ok (.iinc 1 1, 3) := by decide +kernel
theorem dX5_init_127 : decode cX5_init 127 = .ok (.goto (-16), 3) := by decide +kernel
theorem dX5_init_130 : decode cX5_init 130 = .ok (.return_, 1) := by decide +kernel
theorem dX5_in_0 : decode cX5_in 0 = .ok (.iload_n 0, 1) := by decide +kernel
theorem dX5_in_1 : decode cX5_in 1 = .ok (.iload_n 1, 1) := by decide +kernel
theorem dX5_in_2 : decode cX5_in 2 = .ok (.if_icmp .lt 12, 3) := by decide +kernel
theorem dX5_in_5 : decode cX5_in 5 = .ok (.iload_n 0, 1) := by decide +kernel
theorem dX5_in_6 : decode cX5_in 6 = .ok (.iload_n 2, 1) := by decide +kernel
theorem dX5_in_7 : decode cX5_in 7 = .ok (.if_icmp .gt 7, 3) := by decide +kernel
theorem dX5_in_10 : decode cX5_in 10 = .ok (.iconst 1, 1) := by decide +kernel
theorem dX5_in_11 : decode cX5_in 11 = .ok (.goto 4, 3) := by decide +kernel
theorem dX5_in_14 : decode cX5_in 14 = .ok (.iconst 0, 1) := by decide +kernel
theorem dX5_in_15 : decode cX5_in 15 = .ok (.ireturn, 1) := by decide +kernel
theorem dX5_has_0 : decode cX5_has 0 = .ok (.iload_n 0, 1) := by decide +kernel
theorem dX5_has_1 : decode cX5_has 1 = .ok (.iload_n 1, 1) := by decide +kernel
theorem dX5_has_2 : decode cX5_has 2 = .ok (.ishr, 1) := by decide +kernel
theorem dX5_has_3 : decode cX5_has 3 = .ok (.iconst 1, 1) := by decide +kernel
theorem dX5_has_4 : decode cX5_has 4 = .ok (.iand, 1) := by decide +kernel
theorem dX5_has_5 : decode cX5_has 5 = .ok (.iconst 1, 1) := by decide +kernel
theorem dX5_has_6 : decode cX5_has 6 = .ok (.if_icmp .ne 7, 3) := by decide +kernel
theorem dX5_has_9 : decode cX5_has 9 = .ok (.iconst 1, 1) := by decide +kernel
theorem dX5_has_10 : decode cX5_has 10 = .ok (.goto 4, 3) := by decide +kernel
theorem dX5_has_13 : decode cX5_has 13 = .ok (.iconst 0, 1) := by decide +kernel
theorem dX5_has_14 : decode cX5_has 14 = .ok (.ireturn, 1) := by decide +kernel
theorem dX5_lay_0 : decode cX5_lay 0 = .ok (.iconst 0, 1) := by decide +kernel
theorem dX5_lay_1 : decode cX5_lay 1 = .ok (.istore 4, 2) := by decide +kernel
theorem dX5_lay_3 : decode cX5_lay 3 = .ok (.iload 4, 2) := by decide +kernel
theorem dX5_lay_5 : decode cX5_lay 5 = .ok (.bipush 42, 2) := by decide +kernel
theorem dX5_lay_7 : decode cX5_lay 7 = .ok (.if_icmp .ge 21, 3) := by decide +kernel
theorem dX5_lay_10 : decode cX5_lay 10 = .ok (.aload_n 2, 1) := by decide +kernel
theorem dX5_lay_11 : decode cX5_lay 11 = .ok (.iload_n 3, 1) := by decide +kernel
theorem dX5_lay_12 : decode cX5_lay 12 = .ok (.iload 4, 2) := by decide +kernel
theorem dX5_lay_14 : decode cX5_lay 14 = .ok (.iadd, 1) := by decide +kernel
theorem dX5_lay_15 : decode cX5_lay 15 = .ok (.aload_n 0, 1) := by decide +kernel
theorem dX5_lay_16 : decode cX5_lay 16 = .ok (.iload_n 1, 1) := by decide +kernel
theorem dX5_lay_17 : decode cX5_lay 17 = .ok (.iload 4, 2) := by decide +kernel
theorem dX5_lay_19 : decode cX5_lay 19 = .ok (.iadd, 1) := by decide +kernel
theorem dX5_lay_20 : decode cX5_lay 20 = .ok (.iaload, 1) := by decide +kernel
theorem dX5_lay_21 : decode cX5_lay 21 = .ok (.iastore, 1) := by decide +kernel
theorem dX5_lay_22 : decode cX5_lay 22 = .ok (.iinc 4 1, 3) := by decide +kernel
theorem dX5_lay_25 : decode cX5_lay 25 = .ok (.goto (-22), 3) := by decide +kernel
theorem dX5_lay_28 : decode cX5_lay 28 = .ok (.return_, 1) := by decide +kernel
theorem dX5_isRoute_0 : decode cX5_isRoute 0 = .ok (.aload_n 0, 1) := by decide +kernel
theorem dX5_isRoute_1 : decode cX5_isRoute 1 = .ok (.getfield 22, 3) := by decide +kernel
theorem dX5_isRoute_4 : decode cX5_isRoute 4 = .ok (.iconst 2, 1) := by decide +kernel
theorem dX5_isRoute_5 : decode cX5_isRoute 5 = .ok (.iaload, 1) := by decide +kernel
theorem dX5_isRoute_6 : decode cX5_isRoute 6 = .ok (.ifCond .le 7, 3) := by decide +kernel
theorem dX5_isRoute_9 : decode cX5_isRoute 9 = .ok (.iconst 1, 1) := by decide +kernel
theorem dX5_isRoute_10 : decode cX5_isRoute 10 = .ok (.goto 4, 3) := by decide +kernel
theorem dX5_isRoute_13 : decode cX5_isRoute 13 = .ok (.iconst 0, 1) := by decide +kernel
theorem dX5_isRoute_14 : decode cX5_isRoute 14 = .ok (.ireturn, 1) := by decide +kernel
set_option maxRecDepth 20000 in
theorem ggX5_isOne_X5_in : GoodIn wsX5_isOne wsX5_in := goodIn_r _ [5] (by decide +kernel) (by decide +kernel)
set_option maxRecDepth 20000 in
theorem gX5_isOne_X5_in : GoodIn wsX5_isOne (va_wsS RX5 50 yX5_in wsX5_in) := goodIn_app (goodIn_of _ (by decide +kernel)) ggX5_isOne_X5_in
theorem dX5_isOne_0 : decode cX5_isOne 0 = .ok (.iload_n 1, 1) := by decide +kernel
theorem dX5_isOne_1 : decode cX5_isOne 1 = .ok (.iconst 0, 1) := by decide +kernel
theorem dX5_isOne_2 : decode cX5_isOne 2 = .ok (.aload_n 0, 1) := by decide +kernel
theorem dX5_isOne_3 : decode cX5_isOne 3 = .ok (.getfield 22, 3) := by decide +kernel
theorem dX5_isOne_6 : decode cX5_isOne 6 = .ok (.iconst 2, 1) := by decide +kernel
theorem dX5_isOne_7 : decode cX5_isOne 7 = .ok (.iaload, 1) := by decide +kernel
theorem dX5_isOne_8 : decode cX5_isOne 8 = .ok (.iconst 1, 1) := by decide +kernel
theorem dX5_isOne_9 : decode cX5_isOne 9 = .ok (.isub, 1) := by decide +kernel
theorem dX5_isOne_10 : decode cX5_isOne 10 = .ok (.invokestatic 50, 3) := by decide +kernel
theorem dX5_isOne_13 : decode cX5_isOne 13 = .ok (.ireturn, 1) := by decide +kernel
theorem dX5_finds_0 : decode cX5_finds 0 = .ok (.aload_n 0, 1) := by decide +kernel
theorem dX5_finds_1 : decode cX5_finds 1 = .ok (.iload_n 1, 1) := by decide +kernel
theorem dX5_finds_2 : decode cX5_finds 2 = .ok (.putfield 54, 3) := by decide +kernel
theorem dX5_finds_5 : decode cX5_finds 5 = .ok (.ldc 58, 2) := by decide +kernel
theorem dX5_finds_7 : decode cX5_finds 7 = .ok (.iload_n 1, 1) := by decide +kernel
theorem dX5_finds_8 : decode cX5_finds 8 = .ok (.isub, 1) := by decide +kernel
theorem dX5_finds_9 : decode cX5_finds 9 = .ok (.ireturn, 1) := by decide +kernel
theorem dX5_done_0 : decode cX5_done 0 = .ok (.aload_n 0, 1) := by decide +kernel
theorem dX5_done_1 : decode cX5_done 1 = .ok (.iconst 0, 1) := by decide +kernel
theorem dX5_done_2 : decode cX5_done 2 = .ok (.putfield 54, 3) := by decide +kernel
theorem dX5_done_5 : decode cX5_done 5 = .ok (.iload_n 1, 1) := by decide +kernel
theorem dX5_done_6 : decode cX5_done 6 = .ok (.ireturn, 1) := by decide +kernel
set_option maxRecDepth 20000 in
theorem ggX5_isRow_X5_in : GoodIn wsX5_isRow wsX5_in := goodIn_r _ [4] (by decide +kernel) (by decide +kernel)
set_option maxRecDepth 20000 in
theorem gX5_isRow_X5_in : GoodIn wsX5_isRow (va_wsS RX5 50 yX5_in wsX5_in) := goodIn_app (goodIn_of _ (by decide +kernel)) ggX5_isRow_X5_in
theorem dX5_isRow_0 : decode cX5_isRow 0 = .ok (.iload_n 0, 1) := by decide +kernel
theorem dX5_isRow_1 : decode cX5_isRow 1 = .ok (.iconst 0, 1) := by decide +kernel
theorem dX5_isRow_2 : decode cX5_isRow 2 = .ok (.bipush 7, 2) := by decide +kernel
theorem dX5_isRow_4 : decode cX5_isRow 4 = .ok (.invokestatic 50, 3) := by decide +kernel
theorem dX5_isRow_7 : decode cX5_isRow 7 = .ok (.ireturn, 1) := by decide +kernel
set_option maxRecDepth 20000 in
theorem ggX5_row_X5_isRow : GoodIn wsX5_row wsX5_isRow := goodIn_r _ [8, 9, 10, 7, 11] (by decide +kernel) (by decide +kernel)
set_option maxRecDepth 20000 in
theorem gX5_row_X5_isRow : GoodIn wsX5_row (va_wsS RX5 59 yX5_isRow wsX5_isRow) := goodIn_app (goodIn_of _ (by decide +kernel)) ggX5_row_X5_isRow
set_option maxRecDepth 20000 in
theorem ggX5_row_X5_in : GoodIn wsX5_row wsX5_in := goodIn_r _ [11] (by decide +kernel) (by decide +kernel)
set_option maxRecDepth 20000 in
theorem gX5_row_X5_in : GoodIn wsX5_row (va_wsS RX5 50 yX5_in wsX5_in) := goodIn_app (goodIn_of _ (by decide +kernel)) ggX5_row_X5_in
set_option maxRecDepth 20000 in
theorem ggX5_row_X5_finds : GoodIn wsX5_row wsX5_finds := goodIn_r _ [15, 16, 17, 22, 23, 24, 25, 26, 27, 28, 29, 30, 31, 32, 33, 34, 35, 36, 37, 38, 39, 40, 41, 42, 43, 44] (by decide +kernel) (by decide +kernel)
set_option maxRecDepth 20000 in
theorem gX5_row_X5_finds : GoodIn wsX5_row (wsV RX5 64 RX5 yX5_finds wsX5_finds) := goodIn_app (goodIn_of _ (by decide +kernel)) ggX5_row_X5_finds
set_option maxRecDepth 20000 in
theorem ggX5_row_X5_done : GoodIn wsX5_row wsX5_done := goodIn_r _ [21, 16, 22, 23, 24, 25, 26, 27, 28, 29, 30, 31, 32, 33, 34, 35, 36, 37, 38, 39, 40, 41, 42, 43, 44] (by decide +kernel) (by decide +kernel)
set_option maxRecDepth 20000 in
theorem gX5_row_X5_done : GoodIn wsX5_row (wsV RX5 68 RX5 yX5_done wsX5_done) := goodIn_app (goodIn_of _ (by decide +kernel)) ggX5_row_X5_done
theorem dX5_row_0 : decode cX5_row 0 = .ok (.iload_n 1, 1) := by decide +kernel
theorem dX5_row_1 : decode cX5_row 1 = .ok (.invokestatic 59, 3) := by decide +kernel
theorem dX5_row_4 : decode cX5_row 4 = .ok (.ifCond .eq 18, 3) := by decide +kernel
theorem dX5_row_7 : decode cX5_row 7 = .ok (.iload_n 2, 1) := by decide +kernel
theorem dX5_row_8 : decode cX5_row 8 = .ok (.iconst 0, 1) := by decide +kernel
theorem dX5_row_9 : decode cX5_row 9 = .ok (.iconst 2, 1) := by decide +kernel
theorem dX5_row_10 : decode cX5_row 10 = .ok (.invokestatic 50, 3) := by decide +kernel
theorem dX5_row_13 : decode cX5_row 13 = .ok (.ifCond .eq 9, 3) := by decide +kernel
theorem dX5_row_16 : decode cX5_row 16 = .ok (.iload_n 3, 1) := by decide +kernel
theorem dX5_row_17 : decode cX5_row 17 = .ok (.bipush 40, 2) := by decide +kernel
theorem dX5_row_19 : decode cX5_row 19 = .ok (.if_icmp .le 6, 3) := by decide +kernel
theorem dX5_row_22 : decode cX5_row 22 = .ok (.ldc 63, 2) := by decide +kernel
theorem dX5_row_24 : decode cX5_row 24 = .ok (.ireturn, 1) := by decide +kernel
theorem dX5_row_25 : decode cX5_row 25 = .ok (.iload_n 3, 1) := by decide +kernel
theorem dX5_row_26 : decode cX5_row 26 = .ok (.ifCond .ge 9, 3) := by decide +kernel
theorem dX5_row_29 : decode cX5_row 29 = .ok (.aload_n 0, 1) := by decide +kernel
theorem dX5_row_30 : decode cX5_row 30 = .ok (.iconst 4, 1) := by decide +kernel
theorem dX5_row_31 : decode cX5_row 31 = .ok (.invokevirtual 64, 3) := by decide +kernel
theorem dX5_row_34 : decode cX5_row 34 = .ok (.ireturn, 1) := by decide +kernel
theorem dX5_row_35 : decode cX5_row 35 = .ok (.aload_n 0, 1) := by decide +kernel
theorem dX5_row_36 : decode cX5_row 36 = .ok (.getfield 7, 3) := by decide +kernel
theorem dX5_row_39 : decode cX5_row 39 = .ok (.iload_n 1, 1) := by decide +kernel
theorem dX5_row_40 : decode cX5_row 40 = .ok (.iload_n 2, 1) := by decide +kernel
theorem dX5_row_41 : decode cX5_row 41 = .ok (.iastore, 1) := by decide +kernel
theorem dX5_row_42 : decode cX5_row 42 = .ok (.aload_n 0, 1) := by decide +kernel
theorem dX5_row_43 : decode cX5_row 43 = .ok (.getfield 13, 3) := by decide +kernel
theorem dX5_row_46 : decode cX5_row 46 = .ok (.iload_n 1, 1) := by decide +kernel
theorem dX5_row_47 : decode cX5_row 47 = .ok (.iload_n 3, 1) := by decide +kernel
theorem dX5_row_48 : decode cX5_row 48 = .ok (.iastore, 1) := by decide +kernel
theorem dX5_row_49 : decode cX5_row 49 = .ok (.iconst 0, 1) := by decide +kernel
theorem dX5_row_50 : decode cX5_row 50 = .ok (.istore 4, 2) := by decide +kernel
theorem dX5_row_52 : decode cX5_row 52 = .ok (.iload 4, 2) := by decide +kernel
theorem dX5_row_54 : decode cX5_row 54 = .ok (.bipush 40, 2) := by decide +kernel
theorem dX5_row_56 : decode cX5_row 56 = .ok (.if_icmp .ge 22, 3) := by decide +kernel
theorem dX5_row_59 : decode cX5_row 59 = .ok (.aload_n 0, 1) := by decide +kernel
theorem dX5_row_60 : decode cX5_row 60 = .ok (.getfield 16, 3) := by decide +kernel
theorem dX5_row_63 : decode cX5_row 63 = .ok (.bipush 40, 2) := by decide +kernel
theorem dX5_row_65 : decode cX5_row 65 = .ok (.iload_n 1, 1) := by decide +kernel
theorem dX5_row_66 : decode cX5_row 66 = .ok (.imul, 1) := by decide +kernel
theorem dX5_row_67 : decode cX5_row 67 = .ok (.iload 4, 2) := by decide +kernel
theorem dX5_row_69 : decode cX5_row 69 = .ok (.iadd, 1) := by decide +kernel
theorem dX5_row_70 : decode cX5_row 70 = .ok (.iconst 0, 1) := by decide +kernel
theorem dX5_row_71 : decode cX5_row 71 = .ok (.iastore, 1) := by decide +kernel
theorem dX5_row_72 : decode cX5_row 72 = .ok (.iinc 4 1, 3) := by decide +kernel
theorem dX5_row_75 : decode cX5_row 75 = .ok (.goto (-23), 3) := by decide +kernel
theorem dX5_row_78 : decode cX5_row 78 = .ok (.aload_n 0, 1) := by decide +kernel
theorem dX5_row_79 : decode cX5_row 79 = .ok (.iload_n 3, 1) := by decide +kernel
theorem dX5_row_80 : decode cX5_row 80 = .ok (.invokevirtual 68, 3) := by decide +kernel
theorem dX5_row_83 : decode cX5_row 83 = .ok (.ireturn, 1) := by decide +kernel
set_option maxRecDepth 20000 in
theorem ggX5_set_X5_isRow : GoodIn wsX5_set wsX5_isRow := goodIn_r _ [8, 9, 10, 7, 11] (by decide +kernel) (by decide +kernel)
set_option maxRecDepth 20000 in
theorem gX5_set_X5_isRow : GoodIn wsX5_set (va_wsS RX5 59 yX5_isRow wsX5_isRow) := goodIn_app (goodIn_of _ (by decide +kernel)) ggX5_set_X5_isRow
set_option maxRecDepth 20000 in
theorem ggX5_set_X5_finds : GoodIn wsX5_set wsX5_finds := goodIn_r _ [15, 16, 17, 22, 23, 24, 25, 26, 27, 28, 29, 30, 31, 32, 33, 34, 35, 36, 37, 38, 39, 40, 41, 42, 43, 44] (by decide +kernel) (by decide +kernel)
set_option maxRecDepth 20000 in
theorem gX5_set_X5_finds : GoodIn wsX5_set (wsV RX5 64 RX5 yX5_finds wsX5_finds) := goodIn_app (goodIn_of _ (by decide +kernel)) ggX5_set_X5_finds
set_option maxRecDepth 20000 in
theorem ggX5_set_X5_in : GoodIn wsX5_set wsX5_in := goodIn_r _ [11] (by decide +kernel) (by decide +kernel)
set_option maxRecDepth 20000 in
theorem gX5_set_X5_in : GoodIn wsX5_set (va_wsS RX5 50 yX5_in wsX5_in) := goodIn_app (goodIn_of _ (by decide +kernel)) ggX5_set_X5_in
set_option maxRecDepth 20000 in
theorem ggX5_set_X5_done : GoodIn wsX5_set wsX5_done := goodIn_r _ [21, 16, 22, 23, 24, 25, 26, 27, 28, 29, 30, 31, 32, 33, 34, 35, 36, 37, 38, 39, 40, 41, 42, 43, 44] (by decide +kernel) (by decide +kernel)
set_option maxRecDepth 20000 in
theorem gX5_set_X5_done : GoodIn wsX5_set (wsV RX5 68 RX5 yX5_done wsX5_done) := goodIn_app (goodIn_of _ (by decide +kernel)) ggX5_set_X5_done
theorem dX5_set_0 : decode cX5_set 0 = .ok (.iload_n 1, 1) := by decide +kernel
theorem dX5_set_1 : decode cX5_set 1 = .ok (.invokestatic 59, 3) := by decide +kernel
theorem dX5_set_4 : decode cX5_set 4 = .ok (.ifCond .ne 6, 3) := by decide +kernel
theorem dX5_set_7 : decode cX5_set 7 = .ok (.ldc 63, 2) := by decide +kernel
theorem dX5_set_9 : decode cX5_set 9 = .ok (.ireturn, 1) := by decide +kernel
theorem dX5_set_10 : decode cX5_set 10 = .ok (.aload_n 0, 1) := by decide +kernel
theorem dX5_set_11 : decode cX5_set 11 = .ok (.getfield 7, 3) := by decide +kernel
theorem dX5_set_14 : decode cX5_set 14 = .ok (.iload_n 1, 1) := by decide +kernel
theorem dX5_set_15 : decode cX5_set 15 = .ok (.iaload, 1) := by decide +kernel
theorem dX5_set_16 : decode cX5_set 16 = .ok (.ifCond .ge 9, 3) := by decide +kernel
theorem dX5_set_19 : decode cX5_set 19 = .ok (.aload_n 0, 1) := by decide +kernel
theorem dX5_set_20 : decode cX5_set 20 = .ok (.iconst 1, 1) := by decide +kernel
theorem dX5_set_21 : decode cX5_set 21 = .ok (.invokevirtual 64, 3) := by decide +kernel
theorem dX5_set_24 : decode cX5_set 24 = .ok (.ireturn, 1) := by decide +kernel
theorem dX5_set_25 : decode cX5_set 25 = .ok (.iload_n 2, 1) := by decide +kernel
theorem dX5_set_26 : decode cX5_set 26 = .ok (.iconst 0, 1) := by decide +kernel
theorem dX5_set_27 : decode cX5_set 27 = .ok (.aload_n 0, 1) := by decide +kernel
theorem dX5_set_28 : decode cX5_set 28 = .ok (.getfield 13, 3) := by decide +kernel
theorem dX5_set_31 : decode cX5_set 31 = .ok (.iload_n 1, 1) := by decide +kernel
theorem dX5_set_32 : decode cX5_set 32 = .ok (.iaload, 1) := by decide +kernel
theorem dX5_set_33 : decode cX5_set 33 = .ok (.iconst 1, 1) := by decide +kernel
theorem dX5_set_34 : decode cX5_set 34 = .ok (.isub, 1) := by decide +kernel
theorem dX5_set_35 : decode cX5_set 35 = .ok (.invokestatic 50, 3) := by decide +kernel
theorem dX5_set_38 : decode cX5_set 38 = .ok (.ifCond .ne 9, 3) := by decide +kernel
theorem dX5_set_41 : decode cX5_set 41 = .ok (.aload_n 0, 1) := by decide +kernel
theorem dX5_set_42 : decode cX5_set 42 = .ok (.iconst 2, 1) := by decide +kernel
theorem dX5_set_43 : decode cX5_set 43 = .ok (.invokevirtual 64, 3) := by decide +kernel
theorem dX5_set_46 : decode cX5_set 46 = .ok (.ireturn, 1) := by decide +kernel
theorem dX5_set_47 : decode cX5_set 47 = .ok (.aload_n 0, 1) := by decide +kernel
theorem dX5_set_48 : decode cX5_set 48 = .ok (.getfield 16, 3) := by decide +kernel
theorem dX5_set_51 : decode cX5_set 51 = .ok (.bipush 40, 2) := by decide +kernel
theorem dX5_set_53 : decode cX5_set 53 = .ok (.iload_n 1, 1) := by decide +kernel
theorem dX5_set_54 : decode cX5_set 54 = .ok (.imul, 1) := by decide +kernel
theorem dX5_set_55 : decode cX5_set 55 = .ok (.iload_n 2, 1) := by decide +kernel
theorem dX5_set_56 : decode cX5_set 56 = .ok (.iadd, 1) := by decide +kernel
theorem dX5_set_57 : decode cX5_set 57 = .ok (.aload_n 0, 1) := by decide +kernel
theorem dX5_set_58 : decode cX5_set 58 = .ok (.getfield 7, 3) := by decide +kernel
theorem dX5_set_61 : decode cX5_set 61 = .ok (.iload_n 1, 1) := by decide +kernel
theorem dX5_set_62 : decode cX5_set 62 = .ok (.iaload, 1) := by decide +kernel
theorem dX5_set_63 : decode cX5_set 63 = .ok (.ifCond .ne 8, 3) := by decide +kernel
theorem dX5_set_66 : decode cX5_set 66 = .ok (.iload_n 3, 1) := by decide +kernel
theorem dX5_set_67 : decode cX5_set 67 = .ok (.i2b, 1) := by decide +kernel
theorem dX5_set_68 : decode cX5_set 68 = .ok (.goto 19, 3) := by decide +kernel
theorem dX5_set_71 : decode cX5_set 71 = .ok (.aload_n 0, 1) := by decide +kernel
theorem dX5_set_72 : decode cX5_set 72 = .ok (.getfield 7, 3) := by decide +kernel
theorem dX5_set_75 : decode cX5_set 75 = .ok (.iload_n 1, 1) := by decide +kernel
theorem dX5_set_76 : decode cX5_set 76 = .ok (.iaload, 1) := by decide +kernel
theorem dX5_set_77 : decode cX5_set 77 = .ok (.iconst 1, 1) := by decide +kernel
theorem dX5_set_78 : decode cX5_set 78 = .ok (.if_icmp .ne 8, 3) := by decide +kernel
theorem dX5_set_81 : decode cX5_set 81 = .ok (.iload_n 3, 1) := by decide +kernel
theorem dX5_set_82 : decode cX5_set 82 = .ok (.i2s, 1) := by decide +kernel
theorem dX5_set_83 : decode cX5_set 83 = .ok (.goto 4, 3) := by decide +kernel
theorem dX5_set_86 : decode cX5_set 86 = .ok (.iload_n 3, 1) := by decide +kernel
theorem dX5_set_87 : decode cX5_set 87 = .ok (.iastore, 1) := by decide +kernel
theorem dX5_set_88 : decode cX5_set 88 = .ok (.aload_n 0, 1) := by decide +kernel
theorem dX5_set_89 : decode cX5_set 89 = .ok (.aload_n 0, 1) := by decide +kernel
theorem dX5_set_90 : decode cX5_set 90 = .ok (.getfield 16, 3) := by decide +kernel
theorem dX5_set_93 : decode cX5_set 93 = .ok (.bipush 40, 2) := by decide +kernel
theorem dX5_set_95 : decode cX5_set 95 = .ok (.iload_n 1, 1) := by decide +kernel
theorem dX5_set_96 : decode cX5_set 96 = .ok (.imul, 1) := by decide +kernel
theorem dX5_set_97 : decode cX5_set 97 = .ok (.iload_n 2, 1) := by decide +kernel
theorem dX5_set_98 : decode cX5_set 98 = .ok (.iadd, 1) := by decide +kernel
theorem dX5_set_99 : decode cX5_set 99 = .ok (.iaload, 1) := by decide +kernel
theorem dX5_set_100 : decode cX5_set 100 = .ok (.invokevirtual 68, 3) := by decide +kernel
theorem dX5_set_103 : decode cX5_set 103 = .ok (.ireturn, 1) := by decide +kernel
theorem dX5_isPart_0 : decode cX5_isPart 0 = .ok (.iload_n 0, 1) := by decide +kernel
theorem dX5_isPart_1 : decode cX5_isPart 1 = .ok (.ifCond .lt 23, 3) := by decide +kernel
theorem dX5_isPart_4 : decode cX5_isPart 4 = .ok (.iload_n 1, 1) := by decide +kernel
theorem dX5_isPart_5 : decode cX5_isPart 5 = .ok (.ifCond .lt 19, 3) := by decide +kernel
theorem dX5_isPart_8 : decode cX5_isPart 8 = .ok (.iload_n 1, 1) := by decide +kernel
theorem dX5_isPart_9 : decode cX5_isPart 9 = .ok (.iload_n 2, 1) := by decide +kernel
theorem dX5_isPart_10 : decode cX5_isPart 10 = .ok (.if_icmp .gt 14, 3) := by decide +kernel
theorem dX5_isPart_13 : decode cX5_isPart 13 = .ok (.iload_n 0, 1) := by decide +kernel
theorem dX5_isPart_14 : decode cX5_isPart 14 = .ok (.iload_n 2, 1) := by decide +kernel
theorem dX5_isPart_15 : decode cX5_isPart 15 = .ok (.iload_n 1, 1) := by decide +kernel
theorem dX5_isPart_16 : decode cX5_isPart 16 = .ok (.isub, 1) := by decide +kernel
theorem dX5_isPart_17 : decode cX5_isPart 17 = .ok (.if_icmp .gt 7, 3) := by decide +kernel
theorem dX5_isPart_20 : decode cX5_isPart 20 = .ok (.iconst 1, 1) := by decide +kernel
theorem dX5_isPart_21 : decode cX5_isPart 21 = .ok (.goto 4, 3) := by decide +kernel
theorem dX5_isPart_24 : decode cX5_isPart 24 = .ok (.iconst 0, 1) := by decide +kernel
theorem dX5_isPart_25 : decode cX5_isPart 25 = .ok (.ireturn, 1) := by decide +kernel
set_option maxRecDepth 20000 in
theorem ggX5_copy_X5_isRow : GoodIn wsX5_copy wsX5_isRow := goodIn_r _ [8, 9, 10, 7, 11] (by decide +kernel) (by decide +kernel)
set_option maxRecDepth 20000 in
theorem gX5_copy_X5_isRow : GoodIn wsX5_copy (va_wsS RX5 59 yX5_isRow wsX5_isRow) := goodIn_app (goodIn_of _ (by decide +kernel)) ggX5_copy_X5_isRow
set_option maxRecDepth 20000 in
theorem ggX5_copy_X5_finds : GoodIn wsX5_copy wsX5_finds := goodIn_r _ [15, 16, 17, 25, 26, 27, 28, 29, 30, 31, 32, 33, 34, 35, 36, 37, 38, 39, 40, 41, 42, 43, 44, 45, 46, 47] (by decide +kernel) (by decide +kernel)
set_option maxRecDepth 20000 in
theorem gX5_copy_X5_finds : GoodIn wsX5_copy (wsV RX5 64 RX5 yX5_finds wsX5_finds) := goodIn_app (goodIn_of _ (by decide +kernel)) ggX5_copy_X5_finds
set_option maxRecDepth 20000 in
theorem ggX5_copy_X5_isPart : GoodIn wsX5_copy wsX5_isPart := goodIn_r _ [20] (by decide +kernel) (by decide +kernel)
set_option maxRecDepth 20000 in
theorem gX5_copy_X5_isPart : GoodIn wsX5_copy (va_wsS RX5 71 yX5_isPart wsX5_isPart) := goodIn_app (goodIn_of _ (by decide +kernel)) ggX5_copy_X5_isPart
set_option maxRecDepth 20000 in
theorem ggX5_copy_X5_done : GoodIn wsX5_copy wsX5_done := goodIn_r _ [24, 16, 25, 26, 27, 28, 29, 30, 31, 32, 33, 34, 35, 36, 37, 38, 39, 40, 41, 42, 43, 44, 45, 46, 47] (by decide +kernel) (by decide +kernel)
set_option maxRecDepth 20000 in
theorem gX5_copy_X5_done : GoodIn wsX5_copy (wsV RX5 68 RX5 yX5_done wsX5_done) := goodIn_app (goodIn_of _ (by decide +kernel)) ggX5_copy_X5_done
theorem dX5_copy_0 : decode cX5_copy 0 = .ok (.iload_n 1, 1) := by decide +kernel
theorem dX5_copy_1 : decode cX5_copy 1 = .ok (.invokestatic 59, 3) := by decide +kernel
theorem dX5_copy_4 : decode cX5_copy 4 = .ok (.ifCond .eq 10, 3) := by decide +kernel
theorem dX5_copy_7 : decode cX5_copy 7 = .ok (.iload_n 3, 1) := by decide +kernel
theorem dX5_copy_8 : decode cX5_copy 8 = .ok (.invokestatic 59, 3) := by decide +kernel
theorem dX5_copy_11 : decode cX5_copy 11 = .ok (.ifCond .ne 6, 3) := by decide +kernel
theorem dX5_copy_14 : decode cX5_copy 14 = .ok (.ldc 63, 2) := by decide +kernel
theorem dX5_copy_16 : decode cX5_copy 16 = .ok (.ireturn, 1) := by decide +kernel
theorem dX5_copy_17 : decode cX5_copy 17 = .ok (.aload_n 0, 1) := by decide +kernel
theorem dX5_copy_18 : decode cX5_copy 18 = .ok (.getfield 7, 3) := by decide +kernel
theorem dX5_copy_21 : decode cX5_copy 21 = .ok (.iload_n 1, 1) := by decide +kernel
theorem dX5_copy_22 : decode cX5_copy 22 = .ok (.iaload, 1) := by decide +kernel
theorem dX5_copy_23 : decode cX5_copy 23 = .ok (.ifCond .lt 12, 3) := by decide +kernel
theorem dX5_copy_26 : decode cX5_copy 26 = .ok (.aload_n 0, 1) := by decide +kernel
theorem dX5_copy_27 : decode cX5_copy 27 = .ok (.getfield 7, 3) := by decide +kernel
theorem dX5_copy_30 : decode cX5_copy 30 = .ok (.iload_n 3, 1) := by decide +kernel
theorem dX5_copy_31 : decode cX5_copy 31 = .ok (.iaload, 1) := by decide +kernel
theorem dX5_copy_32 : decode cX5_copy 32 = .ok (.ifCond .ge 9, 3) := by decide +kernel
theorem dX5_copy_35 : decode cX5_copy 35 = .ok (.aload_n 0, 1) := by decide +kernel
theorem dX5_copy_36 : decode cX5_copy 36 = .ok (.iconst 1, 1) := by decide +kernel
theorem dX5_copy_37 : decode cX5_copy 37 = .ok (.invokevirtual 64, 3) := by decide +kernel
theorem dX5_copy_40 : decode cX5_copy 40 = .ok (.ireturn, 1) := by decide +kernel
theorem dX5_copy_41 : decode cX5_copy 41 = .ok (.aload_n 0, 1) := by decide +kernel
theorem dX5_copy_42 : decode cX5_copy 42 = .ok (.getfield 7, 3) := by decide +kernel
theorem dX5_copy_45 : decode cX5_copy 45 = .ok (.iload_n 1, 1) := by decide +kernel
theorem dX5_copy_46 : decode cX5_copy 46 = .ok (.iaload, 1) := by decide +kernel
theorem dX5_copy_47 : decode cX5_copy 47 = .ok (.aload_n 0, 1) := by decide +kernel
theorem dX5_copy_48 : decode cX5_copy 48 = .ok (.getfield 7, 3) := by decide +kernel
theorem dX5_copy_51 : decode cX5_copy 51 = .ok (.iload_n 3, 1) := by decide +kernel
theorem dX5_copy_52 : decode cX5_copy 52 = .ok (.iaload, 1) := by decide +kernel
theorem dX5_copy_53 : decode cX5_copy 53 = .ok (.if_icmp .eq 9, 3) := by decide +kernel
theorem dX5_copy_56 : decode cX5_copy 56 = .ok (.aload_n 0, 1) := by decide +kernel
theorem dX5_copy_57 : decode cX5_copy 57 = .ok (.iconst 5, 1) := by decide +kernel
theorem dX5_copy_58 : decode cX5_copy 58 = .ok (.invokevirtual 64, 3) := by decide +kernel
theorem dX5_copy_61 : decode cX5_copy 61 = .ok (.ireturn, 1) := by decide +kernel
theorem dX5_copy_62 : decode cX5_copy 62 = .ok (.iload_n 2, 1) := by decide +kernel
theorem dX5_copy_63 : decode cX5_copy 63 = .ok (.iload 5, 2) := by decide +kernel
theorem dX5_copy_65 : decode cX5_copy 65 = .ok (.aload_n 0, 1) := by decide +kernel
theorem dX5_copy_66 : decode cX5_copy 66 = .ok (.getfield 13, 3) := by decide +kernel
theorem dX5_copy_69 : decode cX5_copy 69 = .ok (.iload_n 1, 1) := by decide +kernel
theorem dX5_copy_70 : decode cX5_copy 70 = .ok (.iaload, 1) := by decide +kernel
theorem dX5_copy_71 : decode cX5_copy 71 = .ok (.invokestatic 71, 3) := by decide +kernel
theorem dX5_copy_74 : decode cX5_copy 74 = .ok (.ifCond .eq 19, 3) := by decide +kernel
theorem dX5_copy_77 : decode cX5_copy 77 = .ok (.iload 4, 2) := by decide +kernel
theorem dX5_copy_79 : decode cX5_copy 79 = .ok (.iload 5, 2) := by decide +kernel
