theorem dX3_readSort_13 : decode cX3_readSort 13 = .ok (.aload_n 0, 1) := by decide +kernel
theorem dX3_readSort_14 : decode cX3_readSort 14 = .ok (.getfield 11, 3) := by decide +kernel
theorem dX3_readSort_17 : decode cX3_readSort 17 = .ok (.aload_n 0, 1) := by decide +kernel
theorem dX3_readSort_18 : decode cX3_readSort 18 = .ok (.getfield 19, 3) := by decide +kernel
theorem dX3_readSort_21 : decode cX3_readSort 21 = .ok (.iaload, 1) := by decide +kernel
theorem dX3_readSort_22 : decode cX3_readSort 22 = .ok (.i2c, 1) := by decide +kernel
theorem dX3_readSort_23 : decode cX3_readSort 23 = .ok (.invokevirtual 60, 3) := by decide +kernel
theorem dX3_readSort_26 : decode cX3_readSort 26 = .ok (.iconst 1, 1) := by decide +kernel
theorem dX3_readSort_27 : decode cX3_readSort 27 = .ok (.iadd, 1) := by decide +kernel
theorem dX3_readSort_28 : decode cX3_readSort 28 = .ok (.goto 4, 3) := by decide +kernel
theorem dX3_readSort_31 : decode cX3_readSort 31 = .ok (.iconst 0, 1) := by decide +kernel
theorem dX3_readSort_32 : decode cX3_readSort 32 = .ok (.istore_n 2, 1) := by decide +kernel
theorem dX3_readSort_33 : decode cX3_readSort 33 = .ok (.iload_n 2, 1) := by decide +kernel
theorem dX3_readSort_34 : decode cX3_readSort 34 = .ok (.iconst 1, 1) := by decide +kernel
theorem dX3_readSort_35 : decode cX3_readSort 35 = .ok (.if_icmp .ge 9, 3) := by decide +kernel
theorem dX3_readSort_38 : decode cX3_readSort 38 = .ok (.aload_n 0, 1) := by decide +kernel
theorem dX3_readSort_39 : decode cX3_readSort 39 = .ok (.iconst 1, 1) := by decide +kernel
theorem dX3_readSort_40 : decode cX3_readSort 40 = .ok (.invokevirtual 65, 3) := by decide +kernel
theorem dX3_readSort_43 : decode cX3_readSort 43 = .ok (.ireturn, 1) := by decide +kernel
theorem dX3_readSort_44 : decode cX3_readSort 44 = .ok (.iload_n 1, 1) := by decide +kernel
theorem dX3_readSort_45 : decode cX3_readSort 45 = .ok (.bipush 7, 2) := by decide +kernel
theorem dX3_readSort_47 : decode cX3_readSort 47 = .ok (.if_icmp .lt 9, 3) := by decide +kernel
theorem dX3_readSort_50 : decode cX3_readSort 50 = .ok (.aload_n 0, 1) := by decide +kernel
theorem dX3_readSort_51 : decode cX3_readSort 51 = .ok (.iconst 3, 1) := by decide +kernel
theorem dX3_readSort_52 : decode cX3_readSort 52 = .ok (.invokevirtual 65, 3) := by decide +kernel
theorem dX3_readSort_55 : decode cX3_readSort 55 = .ok (.ireturn, 1) := by decide +kernel
theorem dX3_readSort_56 : decode cX3_readSort 56 = .ok (.aload_n 0, 1) := by decide +kernel
theorem dX3_readSort_57 : decode cX3_readSort 57 = .ok (.dup, 1) := by decide +kernel
theorem dX3_readSort_58 : decode cX3_readSort 58 = .ok (.getfield 19, 3) := by decide +kernel
theorem dX3_readSort_61 : decode cX3_readSort 61 = .ok (.iconst 1, 1) := by decide +kernel
theorem dX3_readSort_62 : decode cX3_readSort 62 = .ok (.iadd, 1) := by decide +kernel
theorem dX3_readSort_63 : decode cX3_readSort 63 = .ok (.putfield 19, 3) := by decide +kernel
theorem dX3_readSort_66 : decode cX3_readSort 66 = .ok (.iload_n 2, 1) := by decide +kernel
theorem dX3_readSort_67 : decode cX3_readSort 67 = .ok (.ireturn, 1) := by decide +kernel
set_option maxRecDepth 20000 in
theorem ggX3_readByte_X3_stop : GoodIn wsX3_readByte wsX3_stop := goodIn_r _ [9, 1, 10, 11, 12, 13] (by decide +kernel) (by decide +kernel)
set_option maxRecDepth 20000 in
theorem gX3_readByte_X3_stop : GoodIn wsX3_readByte (wsV RX3 65 RX3 yX3_stop wsX3_stop) := goodIn_app (goodIn_of _ (by decide +kernel)) ggX3_readByte_X3_stop
theorem dX3_readByte_0 : decode cX3_readByte 0 = .ok (.aload_n 0, 1) := by decide +kernel
theorem dX3_readByte_1 : decode cX3_readByte 1 = .ok (.getfield 22, 3) := by decide +kernel
theorem dX3_readByte_4 : decode cX3_readByte 4 = .ok (.ifCond .eq 4, 3) := by decide +kernel
theorem dX3_readByte_7 : decode cX3_readByte 7 = .ok (.return_, 1) := by decide +kernel
theorem dX3_readByte_8 : decode cX3_readByte 8 = .ok (.aload_n 0, 1) := by decide +kernel
theorem dX3_readByte_9 : decode cX3_readByte 9 = .ok (.getfield 19, 3) := by decide +kernel
theorem dX3_readByte_12 : decode cX3_readByte 12 = .ok (.aload_n 0, 1) := by decide +kernel
theorem dX3_readByte_13 : decode cX3_readByte 13 = .ok (.getfield 15, 3) := by decide +kernel
theorem dX3_readByte_16 : decode cX3_readByte 16 = .ok (.if_icmp .ge 29, 3) := by decide +kernel
theorem dX3_readByte_19 : decode cX3_readByte 19 = .ok (.aload_n 0, 1) := by decide +kernel
theorem dX3_readByte_20 : decode cX3_readByte 20 = .ok (.getfield 11, 3) := by decide +kernel
theorem dX3_readByte_23 : decode cX3_readByte 23 = .ok (.aload_n 0, 1) := by decide +kernel
theorem dX3_readByte_24 : decode cX3_readByte 24 = .ok (.getfield 19, 3) := by decide +kernel
theorem dX3_readByte_27 : decode cX3_readByte 27 = .ok (.iaload, 1) := by decide +kernel
theorem dX3_readByte_28 : decode cX3_readByte 28 = .ok (.iload_n 1, 1) := by decide +kernel
theorem dX3_readByte_29 : decode cX3_readByte 29 = .ok (.if_icmp .ne 16, 3) := by decide +kernel
theorem dX3_readByte_32 : decode cX3_readByte 32 = .ok (.aload_n 0, 1) := by decide +kernel
theorem dX3_readByte_33 : decode cX3_readByte 33 = .ok (.dup, 1) := by decide +kernel
theorem dX3_readByte_34 : decode cX3_readByte 34 = .ok (.getfield 19, 3) := by decide +kernel
theorem dX3_readByte_37 : decode cX3_readByte 37 = .ok (.iconst 1, 1) := by decide +kernel
theorem dX3_readByte_38 : decode cX3_readByte 38 = .ok (.iadd, 1) := by decide +kernel
theorem dX3_readByte_39 : decode cX3_readByte 39 = .ok (.putfield 19, 3) := by decide +kernel
theorem dX3_readByte_42 : decode cX3_readByte 42 = .ok (.goto 9, 3) := by decide +kernel
theorem dX3_readByte_45 : decode cX3_readByte 45 = .ok (.aload_n 0, 1) := by decide +kernel
theorem dX3_readByte_46 : decode cX3_readByte 46 = .ok (.iconst 1, 1) := by decide +kernel
theorem dX3_readByte_47 : decode cX3_readByte 47 = .ok (.invokevirtual 65, 3) := by decide +kernel
theorem dX3_readByte_50 : decode cX3_readByte 50 = .ok (.pop, 1) := by decide +kernel
theorem dX3_readByte_51 : decode cX3_readByte 51 = .ok (.return_, 1) := by decide +kernel
set_option maxRecDepth 20000 in
theorem ggX3_readNumber_X3_isFigure : GoodIn wsX3_readNumber wsX3_isFigure := goodIn_r _ [12] (by decide +kernel) (by decide +kernel)
set_option maxRecDepth 20000 in
theorem gX3_readNumber_X3_isFigure : GoodIn wsX3_readNumber (va_wsS RX3 68 yX3_isFigure wsX3_isFigure) := goodIn_app (goodIn_of _ (by decide +kernel)) ggX3_readNumber_X3_isFigure
set_option maxRecDepth 20000 in
theorem ggX3_readNumber_X3_stop : GoodIn wsX3_readNumber wsX3_stop := goodIn_r _ [16, 1, 17, 18, 19, 20] (by decide +kernel) (by decide +kernel)
set_option maxRecDepth 20000 in
theorem gX3_readNumber_X3_stop : GoodIn wsX3_readNumber (wsV RX3 65 RX3 yX3_stop wsX3_stop) := goodIn_app (goodIn_of _ (by decide +kernel)) ggX3_readNumber_X3_stop
theorem dX3_readNumber_0 : decode cX3_readNumber 0 = .ok (.aload_n 0, 1) := by decide +kernel
theorem dX3_readNumber_1 : decode cX3_readNumber 1 = .ok (.getfield 22, 3) := by decide +kernel
theorem dX3_readNumber_4 : decode cX3_readNumber 4 = .ok (.ifCond .eq 5, 3) := by decide +kernel
theorem dX3_readNumber_7 : decode cX3_readNumber 7 = .ok (.iconst 0, 1) := by decide +kernel
theorem dX3_readNumber_8 : decode cX3_readNumber 8 = .ok (.ireturn, 1) := by decide +kernel
theorem dX3_readNumber_9 : decode cX3_readNumber 9 = .ok (.aload_n 0, 1) := by decide +kernel
theorem dX3_readNumber_10 : decode cX3_readNumber 10 = .ok (.getfield 19, 3) := by decide +kernel
theorem dX3_readNumber_13 : decode cX3_readNumber 13 = .ok (.istore_n 3, 1) := by decide +kernel
theorem dX3_readNumber_14 : decode cX3_readNumber 14 = .ok (.iconst 0, 1) := by decide +kernel
theorem dX3_readNumber_15 : decode cX3_readNumber 15 = .ok (.istore 4, 2) := by decide +kernel
theorem dX3_readNumber_17 : decode cX3_readNumber 17 = .ok (.iload_n 3, 1) := by decide +kernel
theorem dX3_readNumber_18 : decode cX3_readNumber 18 = .ok (.aload_n 0, 1) := by decide +kernel
theorem dX3_readNumber_19 : decode cX3_readNumber 19 = .ok (.getfield 15, 3) := by decide +kernel
theorem dX3_readNumber_22 : decode cX3_readNumber 22 = .ok (.if_icmp .ge 43, 3) := by decide +kernel
theorem dX3_readNumber_25 : decode cX3_readNumber 25 = .ok (.aload_n 0, 1) := by decide +kernel
theorem dX3_readNumber_26 : decode cX3_readNumber 26 = .ok (.getfield 11, 3) := by decide +kernel
theorem dX3_readNumber_29 : decode cX3_readNumber 29 = .ok (.iload_n 3, 1) := by decide +kernel
theorem dX3_readNumber_30 : decode cX3_readNumber 30 = .ok (.iaload, 1) := by decide +kernel
theorem dX3_readNumber_31 : decode cX3_readNumber 31 = .ok (.invokestatic 68, 3) := by decide +kernel
theorem dX3_readNumber_34 : decode cX3_readNumber 34 = .ok (.ifCond .eq 31, 3) := by decide +kernel
theorem dX3_readNumber_37 : decode cX3_readNumber 37 = .ok (.iload 4, 2) := by decide +kernel
theorem dX3_readNumber_39 : decode cX3_readNumber 39 = .ok (.bipush 10, 2) := by decide +kernel
theorem dX3_readNumber_41 : decode cX3_readNumber 41 = .ok (.imul, 1) := by decide +kernel
theorem dX3_readNumber_42 : decode cX3_readNumber 42 = .ok (.aload_n 0, 1) := by decide +kernel
theorem dX3_readNumber_43 : decode cX3_readNumber 43 = .ok (.getfield 11, 3) := by decide +kernel
theorem dX3_readNumber_46 : decode cX3_readNumber 46 = .ok (.iload_n 3, 1) := by decide +kernel
theorem dX3_readNumber_47 : decode cX3_readNumber 47 = .ok (.iaload, 1) := by decide +kernel
theorem dX3_readNumber_48 : decode cX3_readNumber 48 = .ok (.iadd, 1) := by decide +kernel
theorem dX3_readNumber_49 : decode cX3_readNumber 49 = .ok (.bipush 48, 2) := by decide +kernel
theorem dX3_readNumber_51 : decode cX3_readNumber 51 = .ok (.isub, 1) := by decide +kernel
theorem dX3_readNumber_52 : decode cX3_readNumber 52 = .ok (.bipush 100, 2) := by decide +kernel
theorem dX3_readNumber_54 : decode cX3_readNumber 54 = .ok (.invokestatic 72, 3) := by decide +kernel
theorem dX3_readNumber_57 : decode cX3_readNumber 57 = .ok (.istore 4, 2) := by decide +kernel
theorem dX3_readNumber_59 : decode cX3_readNumber 59 = .ok (.iinc 3 1, 3) := by decide +kernel
theorem dX3_readNumber_62 : decode cX3_readNumber 62 = .ok (.goto (-45), 3) := by decide +kernel
theorem dX3_readNumber_65 : decode cX3_readNumber 65 = .ok (.iload_n 3, 1) := by decide +kernel
theorem dX3_readNumber_66 : decode cX3_readNumber 66 = .ok (.aload_n 0, 1) := by decide +kernel
theorem dX3_readNumber_67 : decode cX3_readNumber 67 = .ok (.getfield 19, 3) := by decide +kernel
theorem dX3_readNumber_70 : decode cX3_readNumber 70 = .ok (.if_icmp .eq 13, 3) := by decide +kernel
theorem dX3_readNumber_73 : decode cX3_readNumber 73 = .ok (.iload_n 3, 1) := by decide +kernel
theorem dX3_readNumber_74 : decode cX3_readNumber 74 = .ok (.aload_n 0, 1) := by decide +kernel
theorem dX3_readNumber_75 : decode cX3_readNumber 75 = .ok (.getfield 19, 3) := by decide +kernel
theorem dX3_readNumber_78 : decode cX3_readNumber 78 = .ok (.isub, 1) := by decide +kernel
theorem dX3_readNumber_79 : decode cX3_readNumber 79 = .ok (.iconst 2, 1) := by decide +kernel
theorem dX3_readNumber_80 : decode cX3_readNumber 80 = .ok (.if_icmp .le 9, 3) := by decide +kernel
theorem dX3_readNumber_83 : decode cX3_readNumber 83 = .ok (.aload_n 0, 1) := by decide +kernel
theorem dX3_readNumber_84 : decode cX3_readNumber 84 = .ok (.iconst 1, 1) := by decide +kernel
theorem dX3_readNumber_85 : decode cX3_readNumber 85 = .ok (.invokevirtual 65, 3) := by decide +kernel
theorem dX3_readNumber_88 : decode cX3_readNumber 88 = .ok (.ireturn, 1) := by decide +kernel
theorem dX3_readNumber_89 : decode cX3_readNumber 89 = .ok (.iload 4, 2) := by decide +kernel
theorem dX3_readNumber_91 : decode cX3_readNumber 91 = .ok (.iload_n 1, 1) := by decide +kernel
theorem dX3_readNumber_92 : decode cX3_readNumber 92 = .ok (.if_icmp .lt 9, 3) := by decide +kernel
theorem dX3_readNumber_95 : decode cX3_readNumber 95 = .ok (.iload 4, 2) := by decide +kernel
theorem dX3_readNumber_97 : decode cX3_readNumber 97 = .ok (.iload_n 2, 1) := by decide +kernel
theorem dX3_readNumber_98 : decode cX3_readNumber 98 = .ok (.if_icmp .le 9, 3) := by decide +kernel
theorem dX3_readNumber_101 : decode cX3_readNumber 101 = .ok (.aload_n 0, 1) := by decide +kernel
theorem dX3_readNumber_102 : decode cX3_readNumber 102 = .ok (.iconst 2, 1) := by decide +kernel
theorem dX3_readNumber_103 : decode cX3_readNumber 103 = .ok (.invokevirtual 65, 3) := by decide +kernel
theorem dX3_readNumber_106 : decode cX3_readNumber 106 = .ok (.ireturn, 1) := by decide +kernel
theorem dX3_readNumber_107 : decode cX3_readNumber 107 = .ok (.aload_n 0, 1) := by decide +kernel
theorem dX3_readNumber_108 : decode cX3_readNumber 108 = .ok (.iload_n 3, 1) := by decide +kernel
theorem dX3_readNumber_109 : decode cX3_readNumber 109 = .ok (.putfield 19, 3) := by decide +kernel
theorem dX3_readNumber_112 : decode cX3_readNumber 112 = .ok (.iload 4, 2) := by decide +kernel
theorem dX3_readNumber_114 : decode cX3_readNumber 114 = .ok (.ireturn, 1) := by decide +kernel
theorem dX3_isFigure_0 : decode cX3_isFigure 0 = .ok (.iload_n 0, 1) := by decide +kernel
theorem dX3_isFigure_1 : decode cX3_isFigure 1 = .ok (.bipush 48, 2) := by decide +kernel
theorem dX3_isFigure_3 : decode cX3_isFigure 3 = .ok (.if_icmp .lt 13, 3) := by decide +kernel
theorem dX3_isFigure_6 : decode cX3_isFigure 6 = .ok (.iload_n 0, 1) := by decide +kernel
theorem dX3_isFigure_7 : decode cX3_isFigure 7 = .ok (.bipush 57, 2) := by decide +kernel
theorem dX3_isFigure_9 : decode cX3_isFigure 9 = .ok (.if_icmp .gt 7, 3) := by decide +kernel
theorem dX3_isFigure_12 : decode cX3_isFigure 12 = .ok (.iconst 1, 1) := by decide +kernel
theorem dX3_isFigure_13 : decode cX3_isFigure 13 = .ok (.goto 4, 3) := by decide +kernel
theorem dX3_isFigure_16 : decode cX3_isFigure 16 = .ok (.iconst 0, 1) := by decide +kernel
theorem dX3_isFigure_17 : decode cX3_isFigure 17 = .ok (.ireturn, 1) := by decide +kernel
theorem dX3_stop_0 : decode cX3_stop 0 = .ok (.aload_n 0, 1) := by decide +kernel
theorem dX3_stop_1 : decode cX3_stop 1 = .ok (.iload_n 1, 1) := by decide +kernel
theorem dX3_stop_2 : decode cX3_stop 2 = .ok (.putfield 22, 3) := by decide +kernel
theorem dX3_stop_5 : decode cX3_stop 5 = .ok (.iconst 0, 1) := by decide +kernel
theorem dX3_stop_6 : decode cX3_stop 6 = .ok (.ireturn, 1) := by decide +kernel
set_option maxRecDepth 20000 in
theorem ggX4_init_X3_init : GoodIn wsX4_init wsX3_init := goodIn_r _ [28, 29, 2, 3, 20, 30, 31, 32, 33, 73, 74, 75, 76] (by decide +kernel) (by decide +kernel)
set_option maxRecDepth 20000 in
theorem gX4_init_X3_init_n17 : GoodIn wsX4_init (wsX3_init) := ggX4_init_X3_init
set_option maxRecDepth 20000 in
theorem ggX4_init_X1_init : GoodIn wsX4_init wsX1_init := goodIn_r _ [35, 36, 2, 3, 37, 38, 39, 40, 41, 42, 43, 20, 44, 45, 46, 47, 48, 77, 78, 79, 80, 81, 82, 83, 84, 85, 86, 87, 88] (by decide +kernel) (by decide +kernel)
set_option maxRecDepth 20000 in
theorem gX4_init_X1_init_n24 : GoodIn wsX4_init (wsX1_init) := ggX4_init_X1_init
set_option maxRecDepth 20000 in
theorem ggX4_init_X0_init : GoodIn wsX4_init wsX0_init := goodIn_r _ [50, 51, 2, 3, 52, 53, 54, 55, 89, 90, 91] (by decide +kernel) (by decide +kernel)
set_option maxRecDepth 20000 in
theorem gX4_init_X0_init_n34 : GoodIn wsX4_init (wsX0_init) := ggX4_init_X0_init
set_option maxRecDepth 20000 in
theorem ggX4_init_X2_init : GoodIn wsX4_init wsX2_init := goodIn_r _ [57, 58, 2, 3, 59, 60, 61, 20, 62, 92, 93, 94, 95] (by decide +kernel) (by decide +kernel)
set_option maxRecDepth 20000 in
theorem gX4_init_X2_init_n57 : GoodIn wsX4_init (wsX2_init) := ggX4_init_X2_init
theorem dX4_init_0 : decode cX4_init 0 = .ok (.aload_n 0, 1) := by decide +kernel
theorem dX4_init_1 : decode cX4_init 1 = .ok (.invokespecial 1, 3) := by decide +kernel
theorem dX4_init_4 : decode cX4_init 4 = .ok (.aload_n 0, 1) := by decide +kernel
theorem dX4_init_5 : decode cX4_init 5 = .ok (.bipush 8, 2) := by decide +kernel
theorem dX4_init_7 : decode cX4_init 7 = .ok (.anewarray 9, 3) := by decide +kernel
theorem dX4_init_10 : decode cX4_init 10 = .ok (.putfield 11, 3) := by decide +kernel
theorem dX4_init_13 : decode cX4_init 13 = .ok (.aload_n 0, 1) := by decide +kernel
theorem dX4_init_14 : decode cX4_init 14 = .ok (.new 15, 3) := by decide +kernel
theorem dX4_init_17 : decode cX4_init 17 = .ok (.dup, 1) := by decide +kernel
theorem dX4_init_18 : decode cX4_init 18 = .ok (.invokespecial 17, 3) := by decide +kernel
theorem dX4_init_21 : decode cX4_init 21 = .ok (.putfield 18, 3) := by decide +kernel
theorem dX4_init_24 : decode cX4_init 24 = .ok (.aload_n 0, 1) := by decide +kernel
theorem dX4_init_25 : decode cX4_init 25 = .ok (.new 22, 3) := by decide +kernel
theorem dX4_init_28 : decode cX4_init 28 = .ok (.dup, 1) := by decide +kernel
theorem dX4_init_29 : decode cX4_init 29 = .ok (.invokespecial 24, 3) := by decide +kernel
theorem dX4_init_32 : decode cX4_init 32 = .ok (.putfield 25, 3) := by decide +kernel
theorem dX4_init_35 : decode cX4_init 35 = .ok (.aload_n 0, 1) := by decide +kernel
theorem dX4_init_36 : decode cX4_init 36 = .ok (.new 22, 3) := by decide +kernel
theorem dX4_init_39 : decode cX4_init 39 = .ok (.dup, 1) := by decide +kernel
theorem dX4_init_40 : decode cX4_init 40 = .ok (.invokespecial 24, 3) := by decide +kernel
theorem dX4_init_43 : decode cX4_init 43 = .ok (.putfield 29, 3) := by decide +kernel
theorem dX4_init_46 : decode cX4_init 46 = .ok (.aload_n 0, 1) := by decide +kernel
theorem dX4_init_47 : decode cX4_init 47 = .ok (.new 32, 3) := by decide +kernel
theorem dX4_init_50 : decode cX4_init 50 = .ok (.dup, 1) := by decide +kernel
theorem dX4_init_51 : decode cX4_init 51 = .ok (.invokespecial 34, 3) := by decide +kernel
theorem dX4_init_54 : decode cX4_init 54 = .ok (.putfield 35, 3) := by decide +kernel
theorem dX4_init_57 : decode cX4_init 57 = .ok (.aload_n 0, 1) := by decide +kernel
theorem dX4_init_58 : decode cX4_init 58 = .ok (.iconst 2, 1) := by decide +kernel
theorem dX4_init_59 : decode cX4_init 59 = .ok (.anewarray 22, 3) := by decide +kernel
theorem dX4_init_62 : decode cX4_init 62 = .ok (.putfield 39, 3) := by decide +kernel
theorem dX4_init_65 : decode cX4_init 65 = .ok (.aload_n 0, 1) := by decide +kernel
theorem dX4_init_66 : decode cX4_init 66 = .ok (.bipush 16, 2) := by decide +kernel
theorem dX4_init_68 : decode cX4_init 68 = .ok (.newarray .int, 2) := by decide +kernel
theorem dX4_init_70 : decode cX4_init 70 = .ok (.putfield 43, 3) := by decide +kernel
theorem dX4_init_73 : decode cX4_init 73 = .ok (.aload_n 0, 1) := by decide +kernel
theorem dX4_init_74 : decode cX4_init 74 = .ok (.iconst 0, 1) := by decide +kernel
theorem dX4_init_75 : decode cX4_init 75 = .ok (.putfield 47, 3) := by decide +kernel
theorem dX4_init_78 : decode cX4_init 78 = .ok (.aload_n 0, 1) := by decide +kernel
theorem dX4_init_79 : decode cX4_init 79 = .ok (.iconst 0, 1) := by decide +kernel
theorem dX4_init_80 : decode cX4_init 80 = .ok (.putfield 51, 3) := by decide +kernel
theorem dX4_init_83 : decode cX4_init 83 = .ok (.aload_n 0, 1) := by decide +kernel
theorem dX4_init_84 : decode cX4_init 84 = .ok (.iconst 0, 1) := by decide +kernel
theorem dX4_init_85 : decode cX4_init 85 = .ok (.putfield 54, 3) := by decide +kernel
theorem dX4_init_88 : decode cX4_init 88 = .ok (.iconst 0, 1) := by decide +kernel
theorem dX4_init_89 : decode cX4_init 89 = .ok (.istore_n 1, 1) := by decide +kernel
theorem dX4_init_90 : decode cX4_init 90 = .ok (.iload_n 1, 1) := by decide +kernel
theorem dX4_init_91 : decode cX4_init 91 = .ok (.bipush 8, 2) := by decide +kernel
theorem dX4_init_93 : decode cX4_init 93 = .ok (.if_icmp .ge 22, 3) := by decide +kernel
theorem dX4_init_96 : decode cX4_init 96 = .ok (.aload_n 0, 1) := by decide +kernel
theorem dX4_init_97 : decode cX4_init 97 = .ok (.getfield 11, 3) := by decide +kernel
theorem dX4_init_100 : decode cX4_init 100 = .ok (.iload_n 1, 1) := by decide +kernel
theorem dX4_init_101 : decode cX4_init 101 = .ok (.new 9, 3) := by decide +kernel
theorem dX4_init_104 : decode cX4_init 104 = .ok (.dup, 1) := by decide +kernel
theorem dX4_init_105 : decode cX4_init 105 = .ok (.invokespecial 57, 3) := by decide +kernel
theorem dX4_init_108 : decode cX4_init 108 = .ok (.aastore, 1) := by decide +kernel
theorem dX4_init_109 : decode cX4_init 109 = .ok (.iinc 1 1, 3) := by decide +kernel
theorem dX4_init_112 : decode cX4_init 112 = .ok (.goto (-22), 3) := by decide +kernel
theorem dX4_init_115 : decode cX4_init 115 = .ok (.return_, 1) := by decide +kernel
set_option maxRecDepth 20000 in
theorem ggX4_row_X4_isRow : GoodIn wsX4_row wsX4_isRow := goodIn_r _ [6, 7, 8, 5, 9] (by decide +kernel) (by decide +kernel)
set_option maxRecDepth 20000 in
theorem gX4_row_X4_isRow : GoodIn wsX4_row (va_wsS RX4 58 yX4_isRow wsX4_isRow) := goodIn_app (goodIn_of _ (by decide +kernel)) ggX4_row_X4_isRow
set_option maxRecDepth 20000 in
theorem ggX4_row_X4_found : GoodIn wsX4_row wsX4_found := goodIn_r _ [13, 14, 15, 33, 34, 35, 36, 37, 38, 39, 40, 41, 42] (by decide +kernel) (by decide +kernel)
set_option maxRecDepth 20000 in
theorem gX4_row_X4_found : GoodIn wsX4_row (wsV RX4 63 RX4 yX4_found wsX4_found) := goodIn_app (goodIn_of _ (by decide +kernel)) ggX4_row_X4_found
set_option maxRecDepth 20000 in
theorem ggX4_row_X2_begin : GoodIn wsX4_row wsX2_begin := goodIn_r _ [20, 21, 22, 23, 24, 25, 26, 27, 28, 43, 44, 45, 46] (by decide +kernel) (by decide +kernel)
set_option maxRecDepth 20000 in
theorem gX4_row_X2_begin : GoodIn wsX4_row (wsV RX4 67 RX2 yX2_begin wsX2_begin) := goodIn_app (goodIn_of _ (by decide +kernel)) ggX4_row_X2_begin
set_option maxRecDepth 20000 in
theorem ggX4_row_X4_unfound : GoodIn wsX4_row wsX4_unfound := goodIn_r _ [32, 14, 33, 34, 35, 36, 37, 38, 39, 40, 41, 42] (by decide +kernel) (by decide +kernel)
set_option maxRecDepth 20000 in
theorem gX4_row_X4_unfound : GoodIn wsX4_row (wsV RX4 71 RX4 yX4_unfound wsX4_unfound) := goodIn_app (goodIn_of _ (by decide +kernel)) ggX4_row_X4_unfound
theorem dX4_row_0 : decode cX4_row 0 = .ok (.iload_n 1, 1) := by decide +kernel
theorem dX4_row_1 : decode cX4_row 1 = .ok (.invokestatic 58, 3) := by decide +kernel
theorem dX4_row_4 : decode cX4_row 4 = .ok (.ifCond .eq 18, 3) := by decide +kernel
theorem dX4_row_7 : decode cX4_row 7 = .ok (.iload_n 2, 1) := by decide +kernel
theorem dX4_row_8 : decode cX4_row 8 = .ok (.ifCond .lt 14, 3) := by decide +kernel
theorem dX4_row_11 : decode cX4_row 11 = .ok (.iload_n 2, 1) := by decide +kernel
theorem dX4_row_12 : decode cX4_row 12 = .ok (.iconst 3, 1) := by decide +kernel
theorem dX4_row_13 : decode cX4_row 13 = .ok (.if_icmp .ge 9, 3) := by decide +kernel
theorem dX4_row_16 : decode cX4_row 16 = .ok (.iload_n 3, 1) := by decide +kernel
theorem dX4_row_17 : decode cX4_row 17 = .ok (.bipush 40, 2) := by decide +kernel
theorem dX4_row_19 : decode cX4_row 19 = .ok (.if_icmp .le 6, 3) := by decide +kernel
theorem dX4_row_22 : decode cX4_row 22 = .ok (.ldc 62, 2) := by decide +kernel
theorem dX4_row_24 : decode cX4_row 24 = .ok (.ireturn, 1) := by decide +kernel
theorem dX4_row_25 : decode cX4_row 25 = .ok (.iload_n 3, 1) := by decide +kernel
theorem dX4_row_26 : decode cX4_row 26 = .ok (.ifCond .ge 9, 3) := by decide +kernel
theorem dX4_row_29 : decode cX4_row 29 = .ok (.aload_n 0, 1) := by decide +kernel
theorem dX4_row_30 : decode cX4_row 30 = .ok (.iconst 4, 1) := by decide +kernel
theorem dX4_row_31 : decode cX4_row 31 = .ok (.invokevirtual 63, 3) := by decide +kernel
theorem dX4_row_34 : decode cX4_row 34 = .ok (.ireturn, 1) := by decide +kernel
theorem dX4_row_35 : decode cX4_row 35 = .ok (.aload_n 0, 1) := by decide +kernel
theorem dX4_row_36 : decode cX4_row 36 = .ok (.getfield 11, 3) := by decide +kernel
theorem dX4_row_39 : decode cX4_row 39 = .ok (.iload_n 1, 1) := by decide +kernel
theorem dX4_row_40 : decode cX4_row 40 = .ok (.aaload, 1) := by decide +kernel
theorem dX4_row_41 : decode cX4_row 41 = .ok (.iload_n 2, 1) := by decide +kernel
theorem dX4_row_42 : decode cX4_row 42 = .ok (.iload_n 3, 1) := by decide +kernel
theorem dX4_row_43 : decode cX4_row 43 = .ok (.invokevirtual 67, 3) := by decide +kernel
theorem dX4_row_46 : decode cX4_row 46 = .ok (.aload_n 0, 1) := by decide +kernel
theorem dX4_row_47 : decode cX4_row 47 = .ok (.iload_n 3, 1) := by decide +kernel
theorem dX4_row_48 : decode cX4_row 48 = .ok (.invokevirtual 71, 3) := by decide +kernel
theorem dX4_row_51 : decode cX4_row 51 = .ok (.ireturn, 1) := by decide +kernel
set_option maxRecDepth 20000 in
theorem ggX4_set_X4_isRow : GoodIn wsX4_set wsX4_isRow := goodIn_r _ [6, 7, 8, 5, 9] (by decide +kernel) (by decide +kernel)
set_option maxRecDepth 20000 in
theorem gX4_set_X4_isRow : GoodIn wsX4_set (va_wsS RX4 58 yX4_isRow wsX4_isRow) := goodIn_app (goodIn_of _ (by decide +kernel)) ggX4_set_X4_isRow
set_option maxRecDepth 20000 in
theorem ggX4_set_X4_findingOf : GoodIn wsX4_set wsX4_findingOf := goodIn_r _ [13, 2, 14, 15, 16, 17, 18, 19, 20, 37, 38, 39, 40, 41, 42, 43, 44, 45, 46, 47, 48, 49, 50] (by decide +kernel) (by decide +kernel)
set_option maxRecDepth 20000 in
theorem gX4_set_X4_findingOf : GoodIn wsX4_set (wsV RX4 74 RX4 yX4_findingOf wsX4_findingOf) := goodIn_app (goodIn_of _ (by decide +kernel)) ggX4_set_X4_findingOf
set_option maxRecDepth 20000 in
theorem ggX4_set_X4_found : GoodIn wsX4_set wsX4_found := goodIn_r _ [24, 25, 26, 37, 38, 39, 40, 41, 42, 43, 44, 45, 46] (by decide +kernel) (by decide +kernel)
set_option maxRecDepth 20000 in
theorem gX4_set_X4_found : GoodIn wsX4_set (wsV RX4 63 RX4 yX4_found wsX4_found) := goodIn_app (goodIn_of _ (by decide +kernel)) ggX4_set_X4_found
set_option maxRecDepth 20000 in
theorem ggX4_set_X2_put : GoodIn wsX4_set wsX2_put := goodIn_r _ [30, 31, 32, 47, 48, 49, 50] (by decide +kernel) (by decide +kernel)
set_option maxRecDepth 20000 in
theorem gX4_set_X2_put : GoodIn wsX4_set (wsV RX4 78 RX2 yX2_put wsX2_put) := goodIn_app (goodIn_of _ (by decide +kernel)) ggX4_set_X2_put
set_option maxRecDepth 20000 in
theorem ggX4_set_X4_unfound : GoodIn wsX4_set wsX4_unfound := goodIn_r _ [36, 25, 37, 38, 39, 40, 41, 42, 43, 44, 45, 46] (by decide +kernel) (by decide +kernel)
set_option maxRecDepth 20000 in
theorem gX4_set_X4_unfound : GoodIn wsX4_set (wsV RX4 71 RX4 yX4_unfound wsX4_unfound) := goodIn_app (goodIn_of _ (by decide +kernel)) ggX4_set_X4_unfound
theorem dX4_set_0 : decode cX4_set 0 = .ok (.iload_n 1, 1) := by decide +kernel
theorem dX4_set_1 : decode cX4_set 1 = .ok (.invokestatic 58, 3) := by decide +kernel
theorem dX4_set_4 : decode cX4_set 4 = .ok (.ifCond .ne 6, 3) := by decide +kernel
theorem dX4_set_7 : decode cX4_set 7 = .ok (.ldc 62, 2) := by decide +kernel
theorem dX4_set_9 : decode cX4_set 9 = .ok (.ireturn, 1) := by decide +kernel
theorem dX4_set_10 : decode cX4_set 10 = .ok (.aload_n 0, 1) := by decide +kernel
theorem dX4_set_11 : decode cX4_set 11 = .ok (.iload_n 1, 1) := by decide +kernel
theorem dX4_set_12 : decode cX4_set 12 = .ok (.iload_n 2, 1) := by decide +kernel
theorem dX4_set_13 : decode cX4_set 13 = .ok (.iconst 1, 1) := by decide +kernel
theorem dX4_set_14 : decode cX4_set 14 = .ok (.invokevirtual 74, 3) := by decide +kernel
theorem dX4_set_17 : decode cX4_set 17 = .ok (.istore 4, 2) := by decide +kernel
theorem dX4_set_19 : decode cX4_set 19 = .ok (.iload 4, 2) := by decide +kernel
theorem dX4_set_21 : decode cX4_set 21 = .ok (.ifCond .eq 10, 3) := by decide +kernel
theorem dX4_set_24 : decode cX4_set 24 = .ok (.aload_n 0, 1) := by decide +kernel
theorem dX4_set_25 : decode cX4_set 25 = .ok (.iload 4, 2) := by decide +kernel
theorem dX4_set_27 : decode cX4_set 27 = .ok (.invokevirtual 63, 3) := by decide +kernel
theorem dX4_set_30 : decode cX4_set 30 = .ok (.ireturn, 1) := by decide +kernel
theorem dX4_set_31 : decode cX4_set 31 = .ok (.aload_n 0, 1) := by decide +kernel
theorem dX4_set_32 : decode cX4_set 32 = .ok (.aload_n 0, 1) := by decide +kernel
theorem dX4_set_33 : decode cX4_set 33 = .ok (.getfield 11, 3) := by decide +kernel
theorem dX4_set_36 : decode cX4_set 36 = .ok (.iload_n 1, 1) := by decide +kernel
theorem dX4_set_37 : decode cX4_set 37 = .ok (.aaload, 1) := by decide +kernel
theorem dX4_set_38 : decode cX4_set 38 = .ok (.iload_n 2, 1) := by decide +kernel
theorem dX4_set_39 : decode cX4_set 39 = .ok (.iload_n 3, 1) := by decide +kernel
theorem dX4_set_40 : decode cX4_set 40 = .ok (.invokevirtual 78, 3) := by decide +kernel
theorem dX4_set_43 : decode cX4_set 43 = .ok (.invokevirtual 71, 3) := by decide +kernel
theorem dX4_set_46 : decode cX4_set 46 = .ok (.ireturn, 1) := by decide +kernel
set_option maxRecDepth 20000 in
theorem ggX4_copy_X4_isRow : GoodIn wsX4_copy wsX4_isRow := goodIn_r _ [13, 14, 15, 12, 16] (by decide +kernel) (by decide +kernel)
set_option maxRecDepth 20000 in
theorem gX4_copy_X4_isRow : GoodIn wsX4_copy (va_wsS RX4 58 yX4_isRow wsX4_isRow) := goodIn_app (goodIn_of _ (by decide +kernel)) ggX4_copy_X4_isRow
set_option maxRecDepth 20000 in
theorem ggX4_copy_X4_found : GoodIn wsX4_copy wsX4_found := goodIn_r _ [20, 21, 22, 33, 34, 35, 36, 37, 38, 39, 40, 41, 42] (by decide +kernel) (by decide +kernel)
set_option maxRecDepth 20000 in
theorem gX4_copy_X4_found : GoodIn wsX4_copy (wsV RX4 63 RX4 yX4_found wsX4_found) := goodIn_app (goodIn_of _ (by decide +kernel)) ggX4_copy_X4_found
set_option maxRecDepth 20000 in
theorem ggX4_copy_X2_has : GoodIn wsX4_copy wsX2_has := goodIn_r _ [27, 28, 43, 44, 45, 46] (by decide +kernel) (by decide +kernel)
set_option maxRecDepth 20000 in
theorem gX4_copy_X2_has : GoodIn wsX4_copy (wsV RX4 89 RX2 yX2_has wsX2_has) := goodIn_app (goodIn_of _ (by decide +kernel)) ggX4_copy_X2_has
set_option maxRecDepth 20000 in
theorem ggX4_copy_X4_unfound : GoodIn wsX4_copy wsX4_unfound := goodIn_r _ [32, 21, 33, 34, 35, 36, 37, 38, 39, 40, 41, 42] (by decide +kernel) (by decide +kernel)
set_option maxRecDepth 20000 in
theorem gX4_copy_X4_unfound : GoodIn wsX4_copy (wsV RX4 71 RX4 yX4_unfound wsX4_unfound) := goodIn_app (goodIn_of _ (by decide +kernel)) ggX4_copy_X4_unfound
theorem dX4_copy_0 : decode cX4_copy 0 = .ok (.iload_n 1, 1) := by decide +kernel
theorem dX4_copy_1 : decode cX4_copy 1 = .ok (.invokestatic 58, 3) := by decide +kernel
theorem dX4_copy_4 : decode cX4_copy 4 = .ok (.ifCond .eq 10, 3) := by decide +kernel
theorem dX4_copy_7 : decode cX4_copy 7 = .ok (.iload_n 3, 1) := by decide +kernel
theorem dX4_copy_8 : decode cX4_copy 8 = .ok (.invokestatic 58, 3) := by decide +kernel
theorem dX4_copy_11 : decode cX4_copy 11 = .ok (.ifCond .ne 6, 3) := by decide +kernel
theorem dX4_copy_14 : decode cX4_copy 14 = .ok (.ldc 62, 2) := by decide +kernel
theorem dX4_copy_16 : decode cX4_copy 16 = .ok (.ireturn, 1) := by decide +kernel
theorem dX4_copy_17 : decode cX4_copy 17 = .ok (.aload_n 0, 1) := by decide +kernel
theorem dX4_copy_18 : decode cX4_copy 18 = .ok (.getfield 11, 3) := by decide +kernel
theorem dX4_copy_21 : decode cX4_copy 21 = .ok (.iload_n 1, 1) := by decide +kernel
theorem dX4_copy_22 : decode cX4_copy 22 = .ok (.aaload, 1) := by decide +kernel
theorem dX4_copy_23 : decode cX4_copy 23 = .ok (.astore 6, 2) := by decide +kernel
theorem dX4_copy_25 : decode cX4_copy 25 = .ok (.aload_n 0, 1) := by decide +kernel
theorem dX4_copy_26 : decode cX4_copy 26 = .ok (.getfield 11, 3) := by decide +kernel
theorem dX4_copy_29 : decode cX4_copy 29 = .ok (.iload_n 3, 1) := by decide +kernel
theorem dX4_copy_30 : decode cX4_copy 30 = .ok (.aaload, 1) := by decide +kernel
theorem dX4_copy_31 : decode cX4_copy 31 = .ok (.astore 7, 2) := by decide +kernel
theorem dX4_copy_33 : decode cX4_copy 33 = .ok (.aload 6, 2) := by decide +kernel
theorem dX4_copy_35 : decode cX4_copy 35 = .ok (.getfield 82, 3) := by decide +kernel
theorem dX4_copy_38 : decode cX4_copy 38 = .ok (.ifCond .ne 11, 3) := by decide +kernel
theorem dX4_copy_41 : decode cX4_copy 41 = .ok (.aload 7, 2) := by decide +kernel
theorem dX4_copy_43 : decode cX4_copy 43 = .ok (.getfield 82, 3) := by decide +kernel
theorem dX4_copy_46 : decode cX4_copy 46 = .ok (.ifCond .eq 9, 3) := by decide +kernel
theorem dX4_copy_49 : decode cX4_copy 49 = .ok (.aload_n 0, 1) := by decide +kernel
theorem dX4_copy_50 : decode cX4_copy 50 = .ok (.iconst 1, 1) := by decide +kernel
theorem dX4_copy_51 : decode cX4_copy 51 = .ok (.invokevirtual 63, 3) := by decide +kernel
theorem dX4_copy_54 : decode cX4_copy 54 = .ok (.ireturn, 1) := by decide +kernel
theorem dX4_copy_55 : decode cX4_copy 55 = .ok (.aload 6, 2) := by decide +kernel
theorem dX4_copy_57 : decode cX4_copy 57 = .ok (.getfield 86, 3) := by decide +kernel
theorem dX4_copy_60 : decode cX4_copy 60 = .ok (.aload 7, 2) := by decide +kernel
theorem dX4_copy_62 : decode cX4_copy 62 = .ok (.getfield 86, 3) := by decide +kernel
theorem dX4_copy_65 : decode cX4_copy 65 = .ok (.if_icmp .eq 9, 3) := by decide +kernel
theorem dX4_copy_68 : decode cX4_copy 68 = .ok (.aload_n 0, 1) := by decide +kernel
theorem dX4_copy_69 : decode cX4_copy 69 = .ok (.iconst 5, 1) := by decide +kernel
theorem dX4_copy_70 : decode cX4_copy 70 = .ok (.invokevirtual 63, 3) := by decide +kernel
theorem dX4_copy_73 : decode cX4_copy 73 = .ok (.ireturn, 1) := by decide +kernel
theorem dX4_copy_74 : decode cX4_copy 74 = .ok (.aload 6, 2) := by decide +kernel
theorem dX4_copy_76 : decode cX4_copy 76 = .ok (.iload_n 2, 1) := by decide +kernel
theorem dX4_copy_77 : decode cX4_copy 77 = .ok (.iload 5, 2) := by decide +kernel
theorem dX4_copy_79 : decode cX4_copy 79 = .ok (.invokevirtual 89, 3) := by decide +kernel
theorem dX4_copy_82 : decode cX4_copy 82 = .ok (.ifCond .eq 15, 3) := by decide +kernel
theorem dX4_copy_85 : decode cX4_copy 85 = .ok (.aload 7, 2) := by decide +kernel
theorem dX4_copy_87 : decode cX4_copy 87 = .ok (.iload 4, 2) := by decide +kernel
theorem dX4_copy_89 : decode cX4_copy 89 = .ok (.iload 5, 2) := by decide +kernel
theorem dX4_copy_91 : decode cX4_copy 91 = .ok (.invokevirtual 89, 3) := by decide +kernel
theorem dX4_copy_94 : decode cX4_copy 94 = .ok (.ifCond .ne 9, 3) := by decide +kernel
theorem dX4_copy_97 : decode cX4_copy 97 = .ok (.aload_n 0, 1) := by decide +kernel
theorem dX4_copy_98 : decode cX4_copy 98 = .ok (.iconst 2, 1) := by decide +kernel
theorem dX4_copy_99 : decode cX4_copy 99 = .ok (.invokevirtual 63, 3) := by decide +kernel
theorem dX4_copy_102 : decode cX4_copy 102 = .ok (.ireturn, 1) := by decide +kernel
theorem dX4_copy_103 : decode cX4_copy 103 = .ok (.aload 6, 2) := by decide +kernel
theorem dX4_copy_105 : decode cX4_copy 105 = .ok (.getfield 93, 3) := by decide +kernel
theorem dX4_copy_108 : decode cX4_copy 108 = .ok (.iload_n 2, 1) := by decide +kernel
theorem dX4_copy_109 : decode cX4_copy 109 = .ok (.aload 7, 2) := by decide +kernel
theorem dX4_copy_111 : decode cX4_copy 111 = .ok (.getfield 93, 3) := by decide +kernel
theorem dX4_copy_114 : decode cX4_copy 114 = .ok (.iload 4, 2) := by decide +kernel
theorem dX4_copy_116 : decode cX4_copy 116 = .ok (.iload 5, 2) := by decide +kernel
theorem dX4_copy_118 : decode cX4_copy 118 = .ok (.invokestatic 96, 3) := by decide +kernel
theorem dX4_copy_121 : decode cX4_copy 121 = .ok (.aload_n 0, 1) := by decide +kernel
theorem dX4_copy_122 : decode cX4_copy 122 = .ok (.iload 5, 2) := by decide +kernel
theorem dX4_copy_124 : decode cX4_copy 124 = .ok (.invokevirtual 71, 3) := by decide +kernel
theorem dX4_copy_127 : decode cX4_copy 127 = .ok (.ireturn, 1) := by decide +kernel
set_option maxRecDepth 20000 in
theorem ggX4_drop_X4_isRow : GoodIn wsX4_drop wsX4_isRow := goodIn_r _ [8, 9, 10, 7, 11] (by decide +kernel) (by decide +kernel)
set_option maxRecDepth 20000 in
theorem gX4_drop_X4_isRow : GoodIn wsX4_drop (va_wsS RX4 58 yX4_isRow wsX4_isRow) := goodIn_app (goodIn_of _ (by decide +kernel)) ggX4_drop_X4_isRow
set_option maxRecDepth 20000 in
theorem ggX4_drop_X4_found : GoodIn wsX4_drop wsX4_found := goodIn_r _ [15, 16, 17, 22, 23, 24, 25, 26, 27, 28, 29, 30, 31] (by decide +kernel) (by decide +kernel)
set_option maxRecDepth 20000 in
theorem gX4_drop_X4_found : GoodIn wsX4_drop (wsV RX4 63 RX4 yX4_found wsX4_found) := goodIn_app (goodIn_of _ (by decide +kernel)) ggX4_drop_X4_found
set_option maxRecDepth 20000 in
theorem ggX4_drop_X4_unfound : GoodIn wsX4_drop wsX4_unfound := goodIn_r _ [21, 16, 22, 23, 24, 25, 26, 27, 28, 29, 30, 31] (by decide +kernel) (by decide +kernel)
set_option maxRecDepth 20000 in
theorem gX4_drop_X4_unfound : GoodIn wsX4_drop (wsV RX4 71 RX4 yX4_unfound wsX4_unfound) := goodIn_app (goodIn_of _ (by decide +kernel)) ggX4_drop_X4_unfound
theorem dX4_drop_0 : decode cX4_drop 0 = .ok (.iload_n 1, 1) := by decide +kernel
theorem dX4_drop_1 : decode cX4_drop 1 = .ok (.invokestatic 58, 3) := by decide +kernel
theorem dX4_drop_4 : decode cX4_drop 4 = .ok (.ifCond .ne 6, 3) := by decide +kernel
theorem dX4_drop_7 : decode cX4_drop 7 = .ok (.ldc 62, 2) := by decide +kernel
theorem dX4_drop_9 : decode cX4_drop 9 = .ok (.ireturn, 1) := by decide +kernel
theorem dX4_drop_10 : decode cX4_drop 10 = .ok (.aload_n 0, 1) := by decide +kernel
theorem dX4_drop_11 : decode cX4_drop 11 = .ok (.getfield 11, 3) := by decide +kernel
theorem dX4_drop_14 : decode cX4_drop 14 = .ok (.iload_n 1, 1) := by decide +kernel
theorem dX4_drop_15 : decode cX4_drop 15 = .ok (.aaload, 1) := by decide +kernel
theorem dX4_drop_16 : decode cX4_drop 16 = .ok (.getfield 82, 3) := by decide +kernel
theorem dX4_drop_19 : decode cX4_drop 19 = .ok (.ifCond .eq 9, 3) := by decide +kernel
theorem dX4_drop_22 : decode cX4_drop 22 = .ok (.aload_n 0, 1) := by decide +kernel
theorem dX4_drop_23 : decode cX4_drop 23 = .ok (.iconst 1, 1) := by decide +kernel
theorem dX4_drop_24 : decode cX4_drop 24 = .ok (.invokevirtual 63, 3) := by decide +kernel
theorem dX4_drop_27 : decode cX4_drop 27 = .ok (.ireturn, 1) := by decide +kernel
theorem dX4_drop_28 : decode cX4_drop 28 = .ok (.aload_n 0, 1) := by decide +kernel
theorem dX4_drop_29 : decode cX4_drop 29 = .ok (.getfield 11, 3) := by decide +kernel
theorem dX4_drop_32 : decode cX4_drop 32 = .ok (.iload_n 1, 1) := by decide +kernel
theorem dX4_drop_33 : decode cX4_drop 33 = .ok (.aaload, 1) := by decide +kernel
theorem dX4_drop_34 : decode cX4_drop 34 = .ok (.iconst 1, 1) := by decide +kernel
theorem dX4_drop_35 : decode cX4_drop 35 = .ok (.putfield 82, 3) := by decide +kernel
theorem dX4_drop_38 : decode cX4_drop 38 = .ok (.aload_n 0, 1) := by decide +kernel
theorem dX4_drop_39 : decode cX4_drop 39 = .ok (.aload_n 0, 1) := by decide +kernel
theorem dX4_drop_40 : decode cX4_drop 40 = .ok (.getfield 11, 3) := by decide +kernel
theorem dX4_drop_43 : decode cX4_drop 43 = .ok (.iload_n 1, 1) := by decide +kernel
theorem dX4_drop_44 : decode cX4_drop 44 = .ok (.aaload, 1) := by decide +kernel
theorem dX4_drop_45 : decode cX4_drop 45 = .ok (.getfield 102, 3) := by decide +kernel
theorem dX4_drop_48 : decode cX4_drop 48 = .ok (.invokevirtual 71, 3) := by decide +kernel
theorem dX4_drop_51 : decode cX4_drop 51 = .ok (.ireturn, 1) := by decide +kernel
set_option maxRecDepth 20000 in
theorem ggX4_feed_X3_isFull : GoodIn wsX4_feed wsX3_isFull := goodIn_r _ [9, 10, 26, 27, 28, 29] (by decide +kernel) (by decide +kernel)
set_option maxRecDepth 20000 in
theorem gX4_feed_X3_isFull : GoodIn wsX4_feed (wsV RX4 105 RX3 yX3_isFull wsX3_isFull) := goodIn_app (goodIn_of _ (by decide +kernel)) ggX4_feed_X3_isFull
set_option maxRecDepth 20000 in
theorem ggX4_feed_X3_add : GoodIn wsX4_feed wsX3_add := goodIn_r _ [14, 15, 10, 26, 27, 28, 29] (by decide +kernel) (by decide +kernel)
set_option maxRecDepth 20000 in
theorem gX4_feed_X3_add : GoodIn wsX4_feed (wsV RX4 110 RX3 yX3_add wsX3_add) := goodIn_app (goodIn_of _ (by decide +kernel)) ggX4_feed_X3_add
theorem dX4_feed_0 : decode cX4_feed 0 = .ok (.iload_n 1, 1) := by decide +kernel
theorem dX4_feed_1 : decode cX4_feed 1 = .ok (.ifCond .lt 10, 3) := by decide +kernel
theorem dX4_feed_4 : decode cX4_feed 4 = .ok (.iload_n 1, 1) := by decide +kernel
theorem dX4_feed_5 : decode cX4_feed 5 = .ok (.sipush 255, 3) := by decide +kernel
theorem dX4_feed_8 : decode cX4_feed 8 = .ok (.if_icmp .le 6, 3) := by decide +kernel
theorem dX4_feed_11 : decode cX4_feed 11 = .ok (.ldc 62, 2) := by decide +kernel
theorem dX4_feed_13 : decode cX4_feed 13 = .ok (.ireturn, 1) := by decide +kernel
theorem dX4_feed_14 : decode cX4_feed 14 = .ok (.aload_n 0, 1) := by decide +kernel
theorem dX4_feed_15 : decode cX4_feed 15 = .ok (.getfield 18, 3) := by decide +kernel
theorem dX4_feed_18 : decode cX4_feed 18 = .ok (.invokevirtual 105, 3) := by decide +kernel
theorem dX4_feed_21 : decode cX4_feed 21 = .ok (.ifCond .eq 6, 3) := by decide +kernel
theorem dX4_feed_24 : decode cX4_feed 24 = .ok (.ldc 109, 2) := by decide +kernel
theorem dX4_feed_26 : decode cX4_feed 26 = .ok (.ireturn, 1) := by decide +kernel
theorem dX4_feed_27 : decode cX4_feed 27 = .ok (.aload_n 0, 1) := by decide +kernel
theorem dX4_feed_28 : decode cX4_feed 28 = .ok (.getfield 18, 3) := by decide +kernel
theorem dX4_feed_31 : decode cX4_feed 31 = .ok (.iload_n 1, 1) := by decide +kernel
theorem dX4_feed_32 : decode cX4_feed 32 = .ok (.invokevirtual 110, 3) := by decide +kernel
theorem dX4_feed_35 : decode cX4_feed 35 = .ok (.aload_n 0, 1) := by decide +kernel
theorem dX4_feed_36 : decode cX4_feed 36 = .ok (.getfield 18, 3) := by decide +kernel
theorem dX4_feed_39 : decode cX4_feed 39 = .ok (.getfield 114, 3) := by decide +kernel
theorem dX4_feed_42 : decode cX4_feed 42 = .ok (.ireturn, 1) := by decide +kernel
set_option maxRecDepth 20000 in
theorem ggX4_route_X3_readInto : GoodIn wsX4_route wsX3_readInto := goodIn_r _ [14, 15, 16, 17, 18, 19, 20, 21, 22, 23, 24, 25, 26, 27, 28, 29, 30, 31, 32, 13, 33, 34, 35, 36, 37, 38, 39, 40, 41, 42, 43, 44, 45, 46, 47, 48, 49, 50, 51, 52, 53, 54, 55, 56, 57, 58, 59, 60, 61, 62, 63, 64, 65, 66, 67, 68, 69, 70, 71, 72, 73, 74, 75, 76, 77, 78, 79, 80, 81, 82, 83, 84, 85, 86, 87, 88, 89, 90, 91, 92, 93, 94, 95, 96, 97, 98, 99, 100, 101, 102, 103, 104, 105, 106, 107, 108, 109, 110, 111, 112, 113, 114, 115, 116, 117, 118, 119, 120, 121, 122, 123, 124, 125, 126, 127, 128, 129, 130, 131, 132, 133, 134, 135, 136, 137, 138, 139, 140, 141, 142, 143, 144, 145, 146, 147, 148, 149, 150, 151, 152, 153, 154, 155, 156, 157, 158, 159, 160, 161, 162, 188, 189, 190, 191, 192, 193, 194, 195, 196, 197, 198, 199, 200, 201, 202, 203] (by decide +kernel) (by decide +kernel)
set_option maxRecDepth 20000 in
theorem gX4_route_X3_readInto : GoodIn wsX4_route (wsV RX4 115 RX3 yX3_readInto wsX3_readInto) := goodIn_app (goodIn_of _ (by decide +kernel)) ggX4_route_X3_readInto
set_option maxRecDepth 20000 in
theorem ggX4_route_X1_become : GoodIn wsX4_route wsX1_become := goodIn_r _ [166, 23, 24, 25, 26, 27, 28, 29, 154, 167, 168, 169, 170, 160, 161, 155, 162, 192, 193, 194, 195, 196, 197, 198, 199, 200, 201, 202, 203] (by decide +kernel) (by decide +kernel)
set_option maxRecDepth 20000 in
theorem gX4_route_X1_become : GoodIn wsX4_route (wsV RX4 123 RX1 yX1_become wsX1_become) := goodIn_app (goodIn_of _ (by decide +kernel)) ggX4_route_X1_become
set_option maxRecDepth 20000 in
theorem ggX4_route_X0_forgetAll : GoodIn wsX4_route wsX0_forgetAll := goodIn_r _ [175, 176, 177, 204, 205, 206] (by decide +kernel) (by decide +kernel)
set_option maxRecDepth 20000 in
theorem gX4_route_X0_forgetAll : GoodIn wsX4_route (wsV RX4 127 RX0 yX0_forgetAll wsX0_forgetAll) := goodIn_app (goodIn_of _ (by decide +kernel)) ggX4_route_X0_forgetAll
theorem dX4_route_0 : decode cX4_route 0 = .ok (.aload_n 0, 1) := by decide +kernel
theorem dX4_route_1 : decode cX4_route 1 = .ok (.getfield 18, 3) := by decide +kernel
theorem dX4_route_4 : decode cX4_route 4 = .ok (.aload_n 0, 1) := by decide +kernel
theorem dX4_route_5 : decode cX4_route 5 = .ok (.getfield 29, 3) := by decide +kernel
theorem dX4_route_8 : decode cX4_route 8 = .ok (.invokevirtual 115, 3) := by decide +kernel
theorem dX4_route_11 : decode cX4_route 11 = .ok (.istore_n 1, 1) := by decide +kernel
theorem dX4_route_12 : decode cX4_route 12 = .ok (.aload_n 0, 1) := by decide +kernel
theorem dX4_route_13 : decode cX4_route 13 = .ok (.getfield 18, 3) := by decide +kernel
theorem dX4_route_16 : decode cX4_route 16 = .ok (.getfield 119, 3) := by decide +kernel
theorem dX4_route_19 : decode cX4_route 19 = .ok (.istore_n 2, 1) := by decide +kernel
theorem dX4_route_20 : decode cX4_route 20 = .ok (.aload_n 0, 1) := by decide +kernel
theorem dX4_route_21 : decode cX4_route 21 = .ok (.getfield 18, 3) := by decide +kernel
theorem dX4_route_24 : decode cX4_route 24 = .ok (.iconst 0, 1) := by decide +kernel
theorem dX4_route_25 : decode cX4_route 25 = .ok (.putfield 114, 3) := by decide +kernel
theorem dX4_route_28 : decode cX4_route 28 = .ok (.iload_n 1, 1) := by decide +kernel
theorem dX4_route_29 : decode cX4_route 29 = .ok (.ifCond .eq 13, 3) := by decide +kernel
theorem dX4_route_32 : decode cX4_route 32 = .ok (.aload_n 0, 1) := by decide +kernel
theorem dX4_route_33 : decode cX4_route 33 = .ok (.iload_n 1, 1) := by decide +kernel
theorem dX4_route_34 : decode cX4_route 34 = .ok (.putfield 51, 3) := by decide +kernel
theorem dX4_route_37 : decode cX4_route 37 = .ok (.ldc 122, 2) := by decide +kernel
theorem dX4_route_39 : decode cX4_route 39 = .ok (.iload_n 2, 1) := by decide +kernel
theorem dX4_route_40 : decode cX4_route 40 = .ok (.isub, 1) := by decide +kernel
theorem dX4_route_41 : decode cX4_route 41 = .ok (.ireturn, 1) := by decide +kernel
theorem dX4_route_42 : decode cX4_route 42 = .ok (.aload_n 0, 1) := by decide +kernel
theorem dX4_route_43 : decode cX4_route 43 = .ok (.getfield 25, 3) := by decide +kernel
theorem dX4_route_46 : decode cX4_route 46 = .ok (.aload_n 0, 1) := by decide +kernel
theorem dX4_route_47 : decode cX4_route 47 = .ok (.getfield 29, 3) := by decide +kernel
theorem dX4_route_50 : decode cX4_route 50 = .ok (.invokevirtual 123, 3) := by decide +kernel
theorem dX4_route_53 : decode cX4_route 53 = .ok (.aload_n 0, 1) := by decide +kernel
theorem dX4_route_54 : decode cX4_route 54 = .ok (.getfield 35, 3) := by decide +kernel
theorem dX4_route_57 : decode cX4_route 57 = .ok (.invokevirtual 127, 3) := by decide +kernel
theorem dX4_route_60 : decode cX4_route 60 = .ok (.aload_n 0, 1) := by decide +kernel
theorem dX4_route_61 : decode cX4_route 61 = .ok (.getfield 25, 3) := by decide +kernel
theorem dX4_route_64 : decode cX4_route 64 = .ok (.getfield 130, 3) := by decide +kernel
theorem dX4_route_67 : decode cX4_route 67 = .ok (.ireturn, 1) := by decide +kernel
theorem dX4_fault_0 : decode cX4_fault 0 = .ok (.aload_n 0, 1) := by decide +kernel
theorem dX4_fault_1 : decode cX4_fault 1 = .ok (.getfield 51, 3) := by decide +kernel
theorem dX4_fault_4 : decode cX4_fault 4 = .ok (.ireturn, 1) := by decide +kernel
set_option maxRecDepth 20000 in
theorem ggX4_undo_X0_takeBack : GoodIn wsX4_undo wsX0_takeBack := goodIn_r _ [9, 10, 11, 12, 13, 14, 15, 16, 17, 18, 19, 20, 21, 22, 23, 24, 25, 26, 27, 28, 29, 30, 31, 32, 33, 44, 45, 46, 47, 48, 49, 50, 51, 52, 53, 54, 55, 56, 57, 58] (by decide +kernel) (by decide +kernel)
set_option maxRecDepth 20000 in
theorem gX4_undo_X0_takeBack : GoodIn wsX4_undo (wsV RX4 133 RX0 yX0_takeBack wsX0_takeBack) := goodIn_app (goodIn_of _ (by decide +kernel)) ggX4_undo_X0_takeBack
theorem dX4_undo_0 : decode cX4_undo 0 = .ok (.aload_n 0, 1) := by decide +kernel
theorem dX4_undo_1 : decode cX4_undo 1 = .ok (.getfield 35, 3) := by decide +kernel
theorem dX4_undo_4 : decode cX4_undo 4 = .ok (.aload_n 0, 1) := by decide +kernel
theorem dX4_undo_5 : decode cX4_undo 5 = .ok (.getfield 25, 3) := by decide +kernel
theorem dX4_undo_8 : decode cX4_undo 8 = .ok (.invokevirtual 133, 3) := by decide +kernel
theorem dX4_undo_11 : decode cX4_undo 11 = .ok (.ifCond .ne 6, 3) := by decide +kernel
theorem dX4_undo_14 : decode cX4_undo 14 = .ok (.ldc 137, 2) := by decide +kernel
theorem dX4_undo_16 : decode cX4_undo 16 = .ok (.ireturn, 1) := by decide +kernel
theorem dX4_undo_17 : decode cX4_undo 17 = .ok (.aload_n 0, 1) := by decide +kernel
theorem dX4_undo_18 : decode cX4_undo 18 = .ok (.getfield 35, 3) := by decide +kernel
theorem dX4_undo_21 : decode cX4_undo 21 = .ok (.getfield 138, 3) := by decide +kernel
theorem dX4_undo_24 : decode cX4_undo 24 = .ok (.ireturn, 1) := by decide +kernel
set_option maxRecDepth 20000 in
theorem ggX4_hours_X4_noRoute : GoodIn wsX4_hours wsX4_noRoute := goodIn_r _ [12, 3, 13, 80, 81, 82, 83, 84, 85, 86, 87, 88, 89, 90, 91, 92, 93, 94, 95, 96, 97, 98, 99, 100, 101] (by decide +kernel) (by decide +kernel)
set_option maxRecDepth 20000 in
theorem gX4_hours_X4_noRoute : GoodIn wsX4_hours (wsV RX4 139 RX4 yX4_noRoute wsX4_noRoute) := goodIn_app (goodIn_of _ (by decide +kernel)) ggX4_hours_X4_noRoute
set_option maxRecDepth 20000 in
theorem ggX4_hours_X0_remember : GoodIn wsX4_hours wsX0_remember := goodIn_r _ [18, 19, 20, 21, 22, 23, 24, 25, 26, 27, 28, 29, 30, 31, 32, 33, 34, 35, 36, 37, 38, 39, 40, 41, 42, 43, 44, 45, 46, 47, 48, 49, 50, 102, 103, 104, 90, 91, 92, 93, 94, 95, 96, 97, 98, 99, 100, 101] (by decide +kernel) (by decide +kernel)
set_option maxRecDepth 20000 in
theorem gX4_hours_X0_remember : GoodIn wsX4_hours (wsV RX4 145 RX0 yX0_remember wsX0_remember) := goodIn_app (goodIn_of _ (by decide +kernel)) ggX4_hours_X0_remember
set_option maxRecDepth 20000 in
theorem ggX4_hours_X1_passHour : GoodIn wsX4_hours wsX1_passHour := goodIn_r _ [54, 30, 32, 55, 56, 57, 24, 58, 39, 59, 60, 61, 62, 63, 34, 64, 65, 66, 67, 42, 33, 41, 38, 40, 68, 69, 70, 71, 72, 73, 74, 75, 36, 35, 76, 77, 78, 79, 90, 91, 92, 93, 94, 95, 96, 97, 98, 99, 100, 101] (by decide +kernel) (by decide +kernel)
set_option maxRecDepth 20000 in
theorem gX4_hours_X1_passHour : GoodIn wsX4_hours (wsV RX4 148 RX1 yX1_passHour wsX1_passHour) := goodIn_app (goodIn_of _ (by decide +kernel)) ggX4_hours_X1_passHour
theorem dX4_hours_0 : decode cX4_hours 0 = .ok (.aload_n 0, 1) := by decide +kernel
theorem dX4_hours_1 : decode cX4_hours 1 = .ok (.invokevirtual 139, 3) := by decide +kernel
theorem dX4_hours_4 : decode cX4_hours 4 = .ok (.ifCond .eq 6, 3) := by decide +kernel
theorem dX4_hours_7 : decode cX4_hours 7 = .ok (.ldc 137, 2) := by decide +kernel
theorem dX4_hours_9 : decode cX4_hours 9 = .ok (.ireturn, 1) := by decide +kernel
theorem dX4_hours_10 : decode cX4_hours 10 = .ok (.iload_n 1, 1) := by decide +kernel
theorem dX4_hours_11 : decode cX4_hours 11 = .ok (.iconst 1, 1) := by decide +kernel
theorem dX4_hours_12 : decode cX4_hours 12 = .ok (.if_icmp .lt 9, 3) := by decide +kernel
theorem dX4_hours_15 : decode cX4_hours 15 = .ok (.iload_n 1, 1) := by decide +kernel
theorem dX4_hours_16 : decode cX4_hours 16 = .ok (.bipush 24, 2) := by decide +kernel
theorem dX4_hours_18 : decode cX4_hours 18 = .ok (.if_icmp .le 6, 3) := by decide +kernel
theorem dX4_hours_21 : decode cX4_hours 21 = .ok (.ldc 62, 2) := by decide +kernel
theorem dX4_hours_23 : decode cX4_hours 23 = .ok (.ireturn, 1) := by decide +kernel
theorem dX4_hours_24 : decode cX4_hours 24 = .ok (.aload_n 0, 1) := by decide +kernel
theorem dX4_hours_25 : decode cX4_hours 25 = .ok (.getfield 25, 3) := by decide +kernel
theorem dX4_hours_28 : decode cX4_hours 28 = .ok (.getfield 142, 3) := by decide +kernel
theorem dX4_hours_31 : decode cX4_hours 31 = .ok (.iload_n 1, 1) := by decide +kernel
theorem dX4_hours_32 : decode cX4_hours 32 = .ok (.iadd, 1) := by decide +kernel
theorem dX4_hours_33 : decode cX4_hours 33 = .ok (.sipush 999, 3) := by decide +kernel
theorem dX4_hours_36 : decode cX4_hours 36 = .ok (.if_icmp .le 6, 3) := by decide +kernel
theorem dX4_hours_39 : decode cX4_hours 39 = .ok (.ldc 109, 2) := by decide +kernel
theorem dX4_hours_41 : decode cX4_hours 41 = .ok (.ireturn, 1) := by decide +kernel
theorem dX4_hours_42 : decode cX4_hours 42 = .ok (.iconst 0, 1) := by decide +kernel
theorem dX4_hours_43 : decode cX4_hours 43 = .ok (.istore_n 2, 1) := by decide +kernel
theorem dX4_hours_44 : decode cX4_hours 44 = .ok (.iload_n 2, 1) := by decide +kernel
theorem dX4_hours_45 : decode cX4_hours 45 = .ok (.iload_n 1, 1) := by decide +kernel
theorem dX4_hours_46 : decode cX4_hours 46 = .ok (.if_icmp .ge 28, 3) := by decide +kernel
theorem dX4_hours_49 : decode cX4_hours 49 = .ok (.aload_n 0, 1) := by decide +kernel
theorem dX4_hours_50 : decode cX4_hours 50 = .ok (.getfield 35, 3) := by decide +kernel
theorem dX4_hours_53 : decode cX4_hours 53 = .ok (.aload_n 0, 1) := by decide +kernel
theorem dX4_hours_54 : decode cX4_hours 54 = .ok (.getfield 25, 3) := by decide +kernel
theorem dX4_hours_57 : decode cX4_hours 57 = .ok (.invokevirtual 145, 3) := by decide +kernel
theorem dX4_hours_60 : decode cX4_hours 60 = .ok (.aload_n 0, 1) := by decide +kernel
theorem dX4_hours_61 : decode cX4_hours 61 = .ok (.getfield 25, 3) := by decide +kernel
theorem dX4_hours_64 : decode cX4_hours 64 = .ok (.invokevirtual 148, 3) := by decide +kernel
theorem dX4_hours_67 : decode cX4_hours 67 = .ok (.pop, 1) := by decide +kernel
theorem dX4_hours_68 : decode cX4_hours 68 = .ok (.iinc 2 1, 3) := by decide +kernel
theorem dX4_hours_71 : decode cX4_hours 71 = .ok (.goto (-27), 3) := by decide +kernel
theorem dX4_hours_74 : decode cX4_hours 74 = .ok (.aload_n 0, 1) := by decide +kernel
theorem dX4_hours_75 : decode cX4_hours 75 = .ok (.getfield 25, 3) := by decide +kernel
theorem dX4_hours_78 : decode cX4_hours 78 = .ok (.getfield 152, 3) := by decide +kernel
theorem dX4_hours_81 : decode cX4_hours 81 = .ok (.ireturn, 1) := by decide +kernel
set_option maxRecDepth 20000 in
theorem ggX4_swear_X4_isOath : GoodIn wsX4_swear wsX4_isOath := goodIn_r _ [8, 3, 9, 61, 62, 63, 64, 65, 66, 67, 68, 69, 70, 71, 72, 73, 74, 75, 76, 77, 78, 79, 80, 81, 82] (by decide +kernel) (by decide +kernel)
set_option maxRecDepth 20000 in
theorem gX4_swear_X4_isOath : GoodIn wsX4_swear (wsV RX4 153 RX4 yX4_isOath wsX4_isOath) := goodIn_app (goodIn_of _ (by decide +kernel)) ggX4_swear_X4_isOath
set_option maxRecDepth 20000 in
theorem ggX4_swear_X4_isPlace : GoodIn wsX4_swear wsX4_isPlace := goodIn_r _ [12, 13, 14, 7, 15] (by decide +kernel) (by decide +kernel)
set_option maxRecDepth 20000 in
theorem gX4_swear_X4_isPlace : GoodIn wsX4_swear (va_wsS RX4 156 yX4_isPlace wsX4_isPlace) := goodIn_app (goodIn_of _ (by decide +kernel)) ggX4_swear_X4_isPlace
set_option maxRecDepth 20000 in
theorem ggX4_swear_X0_remember : GoodIn wsX4_swear wsX0_remember := goodIn_r _ [20, 21, 22, 23, 24, 25, 26, 27, 28, 29, 30, 31, 32, 33, 34, 35, 36, 37, 38, 39, 40, 41, 42, 43, 44, 45, 46, 47, 48, 49, 50, 51, 52, 83, 84, 85, 71, 72, 73, 74, 75, 76, 77, 78, 79, 80, 81, 82] (by decide +kernel) (by decide +kernel)
set_option maxRecDepth 20000 in
theorem gX4_swear_X0_remember : GoodIn wsX4_swear (wsV RX4 145 RX0 yX0_remember wsX0_remember) := goodIn_app (goodIn_of _ (by decide +kernel)) ggX4_swear_X0_remember
set_option maxRecDepth 20000 in
theorem ggX4_swear_X1_openTo : GoodIn wsX4_swear wsX1_openTo := goodIn_r _ [56, 41, 42, 44, 71, 72, 73, 74, 75, 76, 77, 78, 79, 80, 81, 82] (by decide +kernel) (by decide +kernel)
set_option maxRecDepth 20000 in
theorem gX4_swear_X1_openTo : GoodIn wsX4_swear (wsV RX4 159 RX1 yX1_openTo wsX1_openTo) := goodIn_app (goodIn_of _ (by decide +kernel)) ggX4_swear_X1_openTo
set_option maxRecDepth 20000 in
theorem ggX4_swear_X1_pullOf : GoodIn wsX4_swear wsX1_pullOf := goodIn_r _ [60, 44, 35, 41, 34, 43, 40, 42, 71, 72, 73, 74, 75, 76, 77, 78, 79, 80, 81, 82] (by decide +kernel) (by decide +kernel)
set_option maxRecDepth 20000 in
theorem gX4_swear_X1_pullOf : GoodIn wsX4_swear (wsV RX4 163 RX1 yX1_pullOf wsX1_pullOf) := goodIn_app (goodIn_of _ (by decide +kernel)) ggX4_swear_X1_pullOf
theorem dX4_swear_0 : decode cX4_swear 0 = .ok (.aload_n 0, 1) := by decide +kernel
theorem dX4_swear_1 : decode cX4_swear 1 = .ok (.iload_n 1, 1) := by decide +kernel
theorem dX4_swear_2 : decode cX4_swear 2 = .ok (.invokevirtual 153, 3) := by decide +kernel
theorem dX4_swear_5 : decode cX4_swear 5 = .ok (.ifCond .eq 21, 3) := by decide +kernel
theorem dX4_swear_8 : decode cX4_swear 8 = .ok (.iload_n 2, 1) := by decide +kernel
theorem dX4_swear_9 : decode cX4_swear 9 = .ok (.invokestatic 156, 3) := by decide +kernel
theorem dX4_swear_12 : decode cX4_swear 12 = .ok (.ifCond .eq 14, 3) := by decide +kernel
theorem dX4_swear_15 : decode cX4_swear 15 = .ok (.iload_n 3, 1) := by decide +kernel
theorem dX4_swear_16 : decode cX4_swear 16 = .ok (.iconst 1, 1) := by decide +kernel
theorem dX4_swear_17 : decode cX4_swear 17 = .ok (.if_icmp .lt 9, 3) := by decide +kernel
theorem dX4_swear_20 : decode cX4_swear 20 = .ok (.iload_n 3, 1) := by decide +kernel
theorem dX4_swear_21 : decode cX4_swear 21 = .ok (.bipush 20, 2) := by decide +kernel
theorem dX4_swear_23 : decode cX4_swear 23 = .ok (.if_icmp .le 6, 3) := by decide +kernel
theorem dX4_swear_26 : decode cX4_swear 26 = .ok (.ldc 62, 2) := by decide +kernel
theorem dX4_swear_28 : decode cX4_swear 28 = .ok (.ireturn, 1) := by decide +kernel
theorem dX4_swear_29 : decode cX4_swear 29 = .ok (.aload_n 0, 1) := by decide +kernel
theorem dX4_swear_30 : decode cX4_swear 30 = .ok (.getfield 35, 3) := by decide +kernel
theorem dX4_swear_33 : decode cX4_swear 33 = .ok (.aload_n 0, 1) := by decide +kernel
theorem dX4_swear_34 : decode cX4_swear 34 = .ok (.getfield 25, 3) := by decide +kernel
theorem dX4_swear_37 : decode cX4_swear 37 = .ok (.invokevirtual 145, 3) := by decide +kernel
theorem dX4_swear_40 : decode cX4_swear 40 = .ok (.aload_n 0, 1) := by decide +kernel
theorem dX4_swear_41 : decode cX4_swear 41 = .ok (.getfield 25, 3) := by decide +kernel
theorem dX4_swear_44 : decode cX4_swear 44 = .ok (.iload_n 1, 1) := by decide +kernel
theorem dX4_swear_45 : decode cX4_swear 45 = .ok (.iload_n 2, 1) := by decide +kernel
theorem dX4_swear_46 : decode cX4_swear 46 = .ok (.iload_n 3, 1) := by decide +kernel
theorem dX4_swear_47 : decode cX4_swear 47 = .ok (.invokevirtual 159, 3) := by decide +kernel
theorem dX4_swear_50 : decode cX4_swear 50 = .ok (.aload_n 0, 1) := by decide +kernel
theorem dX4_swear_51 : decode cX4_swear 51 = .ok (.getfield 25, 3) := by decide +kernel
theorem dX4_swear_54 : decode cX4_swear 54 = .ok (.iload_n 1, 1) := by decide +kernel
theorem dX4_swear_55 : decode cX4_swear 55 = .ok (.invokevirtual 163, 3) := by decide +kernel
theorem dX4_swear_58 : decode cX4_swear 58 = .ok (.ireturn, 1) := by decide +kernel
set_option maxRecDepth 20000 in
theorem ggX4_buy_X4_isOath : GoodIn wsX4_buy wsX4_isOath := goodIn_r _ [10, 2, 11, 60, 61, 62, 63, 64, 65, 66, 67, 68, 69, 70, 71, 72, 73, 74, 75, 76, 77, 78, 79, 80, 81] (by decide +kernel) (by decide +kernel)
set_option maxRecDepth 20000 in
theorem gX4_buy_X4_isOath : GoodIn wsX4_buy (wsV RX4 153 RX4 yX4_isOath wsX4_isOath) := goodIn_app (goodIn_of _ (by decide +kernel)) ggX4_buy_X4_isOath
set_option maxRecDepth 20000 in
theorem ggX4_buy_X0_remember : GoodIn wsX4_buy wsX0_remember := goodIn_r _ [16, 17, 18, 19, 20, 21, 22, 23, 24, 25, 26, 27, 28, 29, 30, 31, 32, 33, 34, 35, 36, 37, 38, 39, 40, 41, 42, 43, 44, 45, 46, 47, 48, 82, 83, 84, 70, 71, 72, 73, 74, 75, 76, 77, 78, 79, 80, 81] (by decide +kernel) (by decide +kernel)
set_option maxRecDepth 20000 in
theorem gX4_buy_X0_remember : GoodIn wsX4_buy (wsV RX4 145 RX0 yX0_remember wsX0_remember) := goodIn_app (goodIn_of _ (by decide +kernel)) ggX4_buy_X0_remember
set_option maxRecDepth 20000 in
theorem ggX4_buy_X1_openBits : GoodIn wsX4_buy wsX1_openBits := goodIn_r _ [52, 32, 40, 70, 71, 72, 73, 74, 75, 76, 77, 78, 79, 80, 81] (by decide +kernel) (by decide +kernel)
set_option maxRecDepth 20000 in
theorem gX4_buy_X1_openBits : GoodIn wsX4_buy (wsV RX4 169 RX1 yX1_openBits wsX1_openBits) := goodIn_app (goodIn_of _ (by decide +kernel)) ggX4_buy_X1_openBits
set_option maxRecDepth 20000 in
theorem ggX4_buy_J6_bitCount_0f7a4 : GoodIn wsX4_buy wsJ6_bitCount_0f7a4 := goodIn_r _ [56, 57, 58, 59] (by decide +kernel) (by decide +kernel)
set_option maxRecDepth 20000 in
theorem gX4_buy_J6_bitCount_0f7a4 : GoodIn wsX4_buy (va_wsS RX4 172 yJ6_bitCount_0f7a4 wsJ6_bitCount_0f7a4) := goodIn_app (goodIn_of _ (by decide +kernel)) ggX4_buy_J6_bitCount_0f7a4
theorem dX4_buy_0 : decode cX4_buy 0 = .ok (.aload_n 0, 1) := by decide +kernel
theorem dX4_buy_1 : decode cX4_buy 1 = .ok (.iload_n 1, 1) := by decide +kernel
theorem dX4_buy_2 : decode cX4_buy 2 = .ok (.invokevirtual 153, 3) := by decide +kernel
theorem dX4_buy_5 : decode cX4_buy 5 = .ok (.ifCond .ne 6, 3) := by decide +kernel
theorem dX4_buy_8 : decode cX4_buy 8 = .ok (.ldc 62, 2) := by decide +kernel
theorem dX4_buy_10 : decode cX4_buy 10 = .ok (.ireturn, 1) := by decide +kernel
theorem dX4_buy_11 : decode cX4_buy 11 = .ok (.aload_n 0, 1) := by decide +kernel
theorem dX4_buy_12 : decode cX4_buy 12 = .ok (.getfield 25, 3) := by decide +kernel
theorem dX4_buy_15 : decode cX4_buy 15 = .ok (.getfield 166, 3) := by decide +kernel
theorem dX4_buy_18 : decode cX4_buy 18 = .ok (.iload_n 1, 1) := by decide +kernel
theorem dX4_buy_19 : decode cX4_buy 19 = .ok (.iaload, 1) := by decide +kernel
theorem dX4_buy_20 : decode cX4_buy 20 = .ok (.ifCond .eq 6, 3) := by decide +kernel
theorem dX4_buy_23 : decode cX4_buy 23 = .ok (.ldc 137, 2) := by decide +kernel
theorem dX4_buy_25 : decode cX4_buy 25 = .ok (.ireturn, 1) := by decide +kernel
theorem dX4_buy_26 : decode cX4_buy 26 = .ok (.aload_n 0, 1) := by decide +kernel
theorem dX4_buy_27 : decode cX4_buy 27 = .ok (.getfield 35, 3) := by decide +kernel
theorem dX4_buy_30 : decode cX4_buy 30 = .ok (.aload_n 0, 1) := by decide +kernel
theorem dX4_buy_31 : decode cX4_buy 31 = .ok (.getfield 25, 3) := by decide +kernel
theorem dX4_buy_34 : decode cX4_buy 34 = .ok (.invokevirtual 145, 3) := by decide +kernel
theorem dX4_buy_37 : decode cX4_buy 37 = .ok (.aload_n 0, 1) := by decide +kernel
theorem dX4_buy_38 : decode cX4_buy 38 = .ok (.getfield 25, 3) := by decide +kernel
theorem dX4_buy_41 : decode cX4_buy 41 = .ok (.getfield 166, 3) := by decide +kernel
theorem dX4_buy_44 : decode cX4_buy 44 = .ok (.iload_n 1, 1) := by decide +kernel
theorem dX4_buy_45 : decode cX4_buy 45 = .ok (.iconst 3, 1) := by decide +kernel
theorem dX4_buy_46 : decode cX4_buy 46 = .ok (.iastore, 1) := by decide +kernel
theorem dX4_buy_47 : decode cX4_buy 47 = .ok (.aload_n 0, 1) := by decide +kernel
theorem dX4_buy_48 : decode cX4_buy 48 = .ok (.getfield 25, 3) := by decide +kernel
theorem dX4_buy_51 : decode cX4_buy 51 = .ok (.invokevirtual 169, 3) := by decide +kernel
theorem dX4_buy_54 : decode cX4_buy 54 = .ok (.invokestatic 172, 3) := by decide +kernel
theorem dX4_buy_57 : decode cX4_buy 57 = .ok (.ireturn, 1) := by decide +kernel
set_option maxRecDepth 20000 in
theorem ggX4_snow_X4_noRoute : GoodIn wsX4_snow wsX4_noRoute := goodIn_r _ [10, 3, 11, 58, 59, 60, 61, 62, 63, 64, 65, 66, 67, 68, 69, 70, 71, 72, 73, 74, 75, 76, 77, 78, 79] (by decide +kernel) (by decide +kernel)
set_option maxRecDepth 20000 in
theorem gX4_snow_X4_noRoute : GoodIn wsX4_snow (wsV RX4 139 RX4 yX4_noRoute wsX4_noRoute) := goodIn_app (goodIn_of _ (by decide +kernel)) ggX4_snow_X4_noRoute
set_option maxRecDepth 20000 in
theorem ggX4_snow_X4_isPlace : GoodIn wsX4_snow wsX4_isPlace := goodIn_r _ [14, 15, 16, 9, 17] (by decide +kernel) (by decide +kernel)
set_option maxRecDepth 20000 in
theorem gX4_snow_X4_isPlace : GoodIn wsX4_snow (va_wsS RX4 156 yX4_isPlace wsX4_isPlace) := goodIn_app (goodIn_of _ (by decide +kernel)) ggX4_snow_X4_isPlace
set_option maxRecDepth 20000 in
theorem ggX4_snow_X4_isEither : GoodIn wsX4_snow wsX4_isEither := goodIn_r _ [20] (by decide +kernel) (by decide +kernel)
set_option maxRecDepth 20000 in
theorem gX4_snow_X4_isEither : GoodIn wsX4_snow (va_wsS RX4 177 yX4_isEither wsX4_isEither) := goodIn_app (goodIn_of _ (by decide +kernel)) ggX4_snow_X4_isEither
set_option maxRecDepth 20000 in
theorem ggX4_snow_X0_remember : GoodIn wsX4_snow wsX0_remember := goodIn_r _ [25, 26, 27, 28, 29, 30, 31, 32, 33, 34, 35, 36, 37, 38, 39, 40, 41, 42, 43, 44, 45, 46, 47, 48, 49, 50, 51, 52, 53, 54, 55, 56, 57, 80, 81, 82, 68, 69, 70, 71, 72, 73, 74, 75, 76, 77, 78, 79] (by decide +kernel) (by decide +kernel)
set_option maxRecDepth 20000 in
theorem gX4_snow_X0_remember : GoodIn wsX4_snow (wsV RX4 145 RX0 yX0_remember wsX0_remember) := goodIn_app (goodIn_of _ (by decide +kernel)) ggX4_snow_X0_remember
theorem dX4_snow_0 : decode cX4_snow 0 = .ok (.aload_n 0, 1) := by decide +kernel
theorem dX4_snow_1 : decode cX4_snow 1 = .ok (.invokevirtual 139, 3) := by decide +kernel
theorem dX4_snow_4 : decode cX4_snow 4 = .ok (.ifCond .eq 6, 3) := by decide +kernel
theorem dX4_snow_7 : decode cX4_snow 7 = .ok (.ldc 137, 2) := by decide +kernel
theorem dX4_snow_9 : decode cX4_snow 9 = .ok (.ireturn, 1) := by decide +kernel
theorem dX4_snow_10 : decode cX4_snow 10 = .ok (.iload_n 1, 1) := by decide +kernel
theorem dX4_snow_11 : decode cX4_snow 11 = .ok (.invokestatic 156, 3) := by decide +kernel
theorem dX4_snow_14 : decode cX4_snow 14 = .ok (.ifCond .eq 10, 3) := by decide +kernel
theorem dX4_snow_17 : decode cX4_snow 17 = .ok (.iload_n 2, 1) := by decide +kernel
theorem dX4_snow_18 : decode cX4_snow 18 = .ok (.invokestatic 177, 3) := by decide +kernel
theorem dX4_snow_21 : decode cX4_snow 21 = .ok (.ifCond .ne 6, 3) := by decide +kernel
theorem dX4_snow_24 : decode cX4_snow 24 = .ok (.ldc 62, 2) := by decide +kernel
theorem dX4_snow_26 : decode cX4_snow 26 = .ok (.ireturn, 1) := by decide +kernel
theorem dX4_snow_27 : decode cX4_snow 27 = .ok (.aload_n 0, 1) := by decide +kernel
theorem dX4_snow_28 : decode cX4_snow 28 = .ok (.getfield 25, 3) := by decide +kernel
theorem dX4_snow_31 : decode cX4_snow 31 = .ok (.getfield 180, 3) := by decide +kernel
theorem dX4_snow_34 : decode cX4_snow 34 = .ok (.iload_n 1, 1) := by decide +kernel
theorem dX4_snow_35 : decode cX4_snow 35 = .ok (.ishr, 1) := by decide +kernel
theorem dX4_snow_36 : decode cX4_snow 36 = .ok (.iconst 1, 1) := by decide +kernel
theorem dX4_snow_37 : decode cX4_snow 37 = .ok (.iand, 1) := by decide +kernel
theorem dX4_snow_38 : decode cX4_snow 38 = .ok (.iload_n 2, 1) := by decide +kernel
theorem dX4_snow_39 : decode cX4_snow 39 = .ok (.if_icmp .ne 6, 3) := by decide +kernel
theorem dX4_snow_42 : decode cX4_snow 42 = .ok (.ldc 137, 2) := by decide +kernel
theorem dX4_snow_44 : decode cX4_snow 44 = .ok (.ireturn, 1) := by decide +kernel
theorem dX4_snow_45 : decode cX4_snow 45 = .ok (.aload_n 0, 1) := by decide +kernel
theorem dX4_snow_46 : decode cX4_snow 46 = .ok (.getfield 35, 3) := by decide +kernel
theorem dX4_snow_49 : decode cX4_snow 49 = .ok (.aload_n 0, 1) := by decide +kernel
theorem dX4_snow_50 : decode cX4_snow 50 = .ok (.getfield 25, 3) := by decide +kernel
theorem dX4_snow_53 : decode cX4_snow 53 = .ok (.invokevirtual 145, 3) := by decide +kernel
theorem dX4_snow_56 : decode cX4_snow 56 = .ok (.aload_n 0, 1) := by decide +kernel
theorem dX4_snow_57 : decode cX4_snow 57 = .ok (.getfield 25, 3) := by decide +kernel
theorem dX4_snow_60 : decode cX4_snow 60 = .ok (.dup, 1) := by decide +kernel
theorem dX4_snow_61 : decode cX4_snow 61 = .ok (.getfield 180, 3) := by decide +kernel
theorem dX4_snow_64 : decode cX4_snow 64 = .ok (.iconst 1, 1) := by decide +kernel
theorem dX4_snow_65 : decode cX4_snow 65 = .ok (.iload_n 1, 1) := by decide +kernel
theorem dX4_snow_66 : decode cX4_snow 66 = .ok (.ishl, 1) := by decide +kernel
theorem dX4_snow_67 : decode cX4_snow 67 = .ok (.ixor, 1) := by decide +kernel
theorem dX4_snow_68 : decode cX4_snow 68 = .ok (.putfield 180, 3) := by decide +kernel
theorem dX4_snow_71 : decode cX4_snow 71 = .ok (.aload_n 0, 1) := by decide +kernel
theorem dX4_snow_72 : decode cX4_snow 72 = .ok (.getfield 25, 3) := by decide +kernel
theorem dX4_snow_75 : decode cX4_snow 75 = .ok (.getfield 180, 3) := by decide +kernel
theorem dX4_snow_78 : decode cX4_snow 78 = .ok (.ireturn, 1) := by decide +kernel
set_option maxRecDepth 20000 in
theorem ggX4_oath_X4_isOath : GoodIn wsX4_oath wsX4_isOath := goodIn_r _ [11, 2, 12, 25, 26, 27, 28, 29, 30, 31, 32, 33, 34, 35, 36, 37, 38, 39, 40, 41, 42, 43, 44, 45, 46] (by decide +kernel) (by decide +kernel)
set_option maxRecDepth 20000 in
theorem gX4_oath_X4_isOath : GoodIn wsX4_oath (wsV RX4 153 RX4 yX4_isOath wsX4_isOath) := goodIn_app (goodIn_of _ (by decide +kernel)) ggX4_oath_X4_isOath
set_option maxRecDepth 20000 in
theorem ggX4_oath_X1_pullOf : GoodIn wsX4_oath wsX1_pullOf := goodIn_r _ [17, 18, 19, 20, 21, 22, 23, 24, 35, 36, 37, 38, 39, 40, 41, 42, 43, 44, 45, 46] (by decide +kernel) (by decide +kernel)
set_option maxRecDepth 20000 in
theorem gX4_oath_X1_pullOf : GoodIn wsX4_oath (wsV RX4 163 RX1 yX1_pullOf wsX1_pullOf) := goodIn_app (goodIn_of _ (by decide +kernel)) ggX4_oath_X1_pullOf
theorem dX4_oath_0 : decode cX4_oath 0 = .ok (.aload_n 0, 1) := by decide +kernel
theorem dX4_oath_1 : decode cX4_oath 1 = .ok (.iload_n 1, 1) := by decide +kernel
theorem dX4_oath_2 : decode cX4_oath 2 = .ok (.invokevirtual 153, 3) := by decide +kernel
theorem dX4_oath_5 : decode cX4_oath 5 = .ok (.ifCond .ne 6, 3) := by decide +kernel
theorem dX4_oath_8 : decode cX4_oath 8 = .ok (.ldc 62, 2) := by decide +kernel
theorem dX4_oath_10 : decode cX4_oath 10 = .ok (.ireturn, 1) := by decide +kernel
theorem dX4_oath_11 : decode cX4_oath 11 = .ok (.iload_n 2, 1) := by decide +kernel
theorem dX4_oath_12 : decode cX4_oath 12 = .ok (.tableswitch 85 0 4 #[36, 46, 56, 66, 76], 36) := by decide +kernel
theorem dX4_oath_48 : decode cX4_oath 48 = .ok (.aload_n 0, 1) := by decide +kernel
theorem dX4_oath_49 : decode cX4_oath 49 = .ok (.getfield 25, 3) := by decide +kernel
theorem dX4_oath_52 : decode cX4_oath 52 = .ok (.getfield 183, 3) := by decide +kernel
theorem dX4_oath_55 : decode cX4_oath 55 = .ok (.iload_n 1, 1) := by decide +kernel
theorem dX4_oath_56 : decode cX4_oath 56 = .ok (.iaload, 1) := by decide +kernel
theorem dX4_oath_57 : decode cX4_oath 57 = .ok (.ireturn, 1) := by decide +kernel
theorem dX4_oath_58 : decode cX4_oath 58 = .ok (.aload_n 0, 1) := by decide +kernel
theorem dX4_oath_59 : decode cX4_oath 59 = .ok (.getfield 25, 3) := by decide +kernel
theorem dX4_oath_62 : decode cX4_oath 62 = .ok (.getfield 186, 3) := by decide +kernel
theorem dX4_oath_65 : decode cX4_oath 65 = .ok (.iload_n 1, 1) := by decide +kernel
theorem dX4_oath_66 : decode cX4_oath 66 = .ok (.iaload, 1) := by decide +kernel
theorem dX4_oath_67 : decode cX4_oath 67 = .ok (.ireturn, 1) := by decide +kernel
theorem dX4_oath_68 : decode cX4_oath 68 = .ok (.aload_n 0, 1) := by decide +kernel
theorem dX4_oath_69 : decode cX4_oath 69 = .ok (.getfield 25, 3) := by decide +kernel
theorem dX4_oath_72 : decode cX4_oath 72 = .ok (.getfield 189, 3) := by decide +kernel
theorem dX4_oath_75 : decode cX4_oath 75 = .ok (.iload_n 1, 1) := by decide +kernel
theorem dX4_oath_76 : decode cX4_oath 76 = .ok (.iaload, 1) := by decide +kernel
theorem dX4_oath_77 : decode cX4_oath 77 = .ok (.ireturn, 1) := by decide +kernel
theorem dX4_oath_78 : decode cX4_oath 78 = .ok (.aload_n 0, 1) := by decide +kernel
theorem dX4_oath_79 : decode cX4_oath 79 = .ok (.getfield 25, 3) := by decide +kernel
theorem dX4_oath_82 : decode cX4_oath 82 = .ok (.getfield 166, 3) := by decide +kernel
theorem dX4_oath_85 : decode cX4_oath 85 = .ok (.iload_n 1, 1) := by decide +kernel
theorem dX4_oath_86 : decode cX4_oath 86 = .ok (.iaload, 1) := by decide +kernel
theorem dX4_oath_87 : decode cX4_oath 87 = .ok (.ireturn, 1) := by decide +kernel
theorem dX4_oath_88 : decode cX4_oath 88 = .ok (.aload_n 0, 1) := by decide +kernel
theorem dX4_oath_89 : decode cX4_oath 89 = .ok (.getfield 25, 3) := by decide +kernel
theorem dX4_oath_92 : decode cX4_oath 92 = .ok (.iload_n 1, 1) := by decide +kernel
theorem dX4_oath_93 : decode cX4_oath 93 = .ok (.invokevirtual 163, 3) := by decide +kernel
theorem dX4_oath_96 : decode cX4_oath 96 = .ok (.ireturn, 1) := by decide +kernel
theorem dX4_oath_97 : decode cX4_oath 97 = .ok (.ldc 62, 2) := by decide +kernel
theorem dX4_oath_99 : decode cX4_oath 99 = .ok (.ireturn, 1) := by decide +kernel
set_option maxRecDepth 20000 in
theorem ggX4_coach_X4_noRoute : GoodIn wsX4_coach wsX4_noRoute := goodIn_r _ [11, 2, 12, 35, 36, 37, 38, 39, 40, 41, 42, 43, 44, 45, 46, 47, 48, 49, 50, 51, 52, 53, 54, 55, 56] (by decide +kernel) (by decide +kernel)
set_option maxRecDepth 20000 in
theorem gX4_coach_X4_noRoute : GoodIn wsX4_coach (wsV RX4 139 RX4 yX4_noRoute wsX4_noRoute) := goodIn_app (goodIn_of _ (by decide +kernel)) ggX4_coach_X4_noRoute
set_option maxRecDepth 20000 in
theorem ggX4_coach_X1_puller : GoodIn wsX4_coach wsX1_puller := goodIn_r _ [17, 18, 19, 20, 21, 22, 16, 23, 24, 25, 26, 27, 28, 29, 30, 45, 46, 47, 48, 49, 50, 51, 52, 53, 54, 55, 56] (by decide +kernel) (by decide +kernel)
set_option maxRecDepth 20000 in
theorem gX4_coach_X1_puller : GoodIn wsX4_coach (wsV RX4 192 RX1 yX1_puller wsX1_puller) := goodIn_app (goodIn_of _ (by decide +kernel)) ggX4_coach_X1_puller
set_option maxRecDepth 20000 in
theorem ggX4_coach_X1_openBits : GoodIn wsX4_coach wsX1_openBits := goodIn_r _ [34, 19, 24, 45, 46, 47, 48, 49, 50, 51, 52, 53, 54, 55, 56] (by decide +kernel) (by decide +kernel)
set_option maxRecDepth 20000 in
theorem gX4_coach_X1_openBits : GoodIn wsX4_coach (wsV RX4 169 RX1 yX1_openBits wsX1_openBits) := goodIn_app (goodIn_of _ (by decide +kernel)) ggX4_coach_X1_openBits
theorem dX4_coach_0 : decode cX4_coach 0 = .ok (.aload_n 0, 1) := by decide +kernel
theorem dX4_coach_1 : decode cX4_coach 1 = .ok (.invokevirtual 139, 3) := by decide +kernel
theorem dX4_coach_4 : decode cX4_coach 4 = .ok (.ifCond .eq 6, 3) := by decide +kernel
theorem dX4_coach_7 : decode cX4_coach 7 = .ok (.ldc 137, 2) := by decide +kernel
theorem dX4_coach_9 : decode cX4_coach 9 = .ok (.ireturn, 1) := by decide +kernel
theorem dX4_coach_10 : decode cX4_coach 10 = .ok (.iload_n 1, 1) := by decide +kernel
theorem dX4_coach_11 : decode cX4_coach 11 = .ok (.tableswitch 74 0 4 #[33, 41, 50, 58, 66], 33) := by decide +kernel
theorem dX4_coach_44 : decode cX4_coach 44 = .ok (.aload_n 0, 1) := by decide +kernel
theorem dX4_coach_45 : decode cX4_coach 45 = .ok (.getfield 25, 3) := by decide +kernel
theorem dX4_coach_48 : decode cX4_coach 48 = .ok (.getfield 152, 3) := by decide +kernel
theorem dX4_coach_51 : decode cX4_coach 51 = .ok (.ireturn, 1) := by decide +kernel
theorem dX4_coach_52 : decode cX4_coach 52 = .ok (.aload_n 0, 1) := by decide +kernel
theorem dX4_coach_53 : decode cX4_coach 53 = .ok (.getfield 25, 3) := by decide +kernel
theorem dX4_coach_56 : decode cX4_coach 56 = .ok (.iconst 0, 1) := by decide +kernel
theorem dX4_coach_57 : decode cX4_coach 57 = .ok (.invokevirtual 192, 3) := by decide +kernel
theorem dX4_coach_60 : decode cX4_coach 60 = .ok (.ireturn, 1) := by decide +kernel
theorem dX4_coach_61 : decode cX4_coach 61 = .ok (.aload_n 0, 1) := by decide +kernel
theorem dX4_coach_62 : decode cX4_coach 62 = .ok (.getfield 25, 3) := by decide +kernel
theorem dX4_coach_65 : decode cX4_coach 65 = .ok (.invokevirtual 169, 3) := by decide +kernel
theorem dX4_coach_68 : decode cX4_coach 68 = .ok (.ireturn, 1) := by decide +kernel
theorem dX4_coach_69 : decode cX4_coach 69 = .ok (.aload_n 0, 1) := by decide +kernel
theorem dX4_coach_70 : decode cX4_coach 70 = .ok (.getfield 25, 3) := by decide +kernel
theorem dX4_coach_73 : decode cX4_coach 73 = .ok (.getfield 180, 3) := by decide +kernel
theorem dX4_coach_76 : decode cX4_coach 76 = .ok (.ireturn, 1) := by decide +kernel
theorem dX4_coach_77 : decode cX4_coach 77 = .ok (.aload_n 0, 1) := by decide +kernel
theorem dX4_coach_78 : decode cX4_coach 78 = .ok (.getfield 25, 3) := by decide +kernel
theorem dX4_coach_81 : decode cX4_coach 81 = .ok (.getfield 195, 3) := by decide +kernel
theorem dX4_coach_84 : decode cX4_coach 84 = .ok (.ireturn, 1) := by decide +kernel
theorem dX4_coach_85 : decode cX4_coach 85 = .ok (.ldc 62, 2) := by decide +kernel
theorem dX4_coach_87 : decode cX4_coach 87 = .ok (.ireturn, 1) := by decide +kernel
set_option maxRecDepth 20000 in
theorem ggX4_ahead_X4_noRoute : GoodIn wsX4_ahead wsX4_noRoute := goodIn_r _ [10, 4, 11, 69, 70, 71, 72, 73, 74, 75, 76, 77, 78, 79, 80, 81, 82, 83, 84, 85, 86, 87, 88, 89, 90] (by decide +kernel) (by decide +kernel)
set_option maxRecDepth 20000 in
theorem gX4_ahead_X4_noRoute : GoodIn wsX4_ahead (wsV RX4 139 RX4 yX4_noRoute wsX4_noRoute) := goodIn_app (goodIn_of _ (by decide +kernel)) ggX4_ahead_X4_noRoute
set_option maxRecDepth 20000 in
theorem ggX4_ahead_X4_isWithin : GoodIn wsX4_ahead wsX4_isWithin := goodIn_r _ [14] (by decide +kernel) (by decide +kernel)
set_option maxRecDepth 20000 in
theorem gX4_ahead_X4_isWithin : GoodIn wsX4_ahead (va_wsS RX4 198 yX4_isWithin wsX4_isWithin) := goodIn_app (goodIn_of _ (by decide +kernel)) ggX4_ahead_X4_isWithin
set_option maxRecDepth 20000 in
theorem ggX4_ahead_X1_become : GoodIn wsX4_ahead wsX1_become := goodIn_r _ [19, 20, 21, 22, 23, 24, 25, 26, 27, 28, 29, 30, 31, 32, 33, 34, 35, 79, 80, 81, 82, 83, 84, 85, 86, 87, 88, 89, 90] (by decide +kernel) (by decide +kernel)
set_option maxRecDepth 20000 in
theorem gX4_ahead_X1_become : GoodIn wsX4_ahead (wsV RX4 123 RX1 yX1_become wsX1_become) := goodIn_app (goodIn_of _ (by decide +kernel)) ggX4_ahead_X1_become
set_option maxRecDepth 20000 in
theorem ggX4_ahead_X1_passHours : GoodIn wsX4_ahead wsX1_passHours := goodIn_r _ [39, 40, 41, 42, 18, 43, 20, 22, 44, 45, 46, 47, 32, 48, 49, 50, 51, 52, 24, 53, 54, 55, 56, 35, 23, 34, 27, 33, 57, 58, 59, 60, 61, 62, 63, 64, 26, 25, 65, 66, 67, 68, 79, 80, 81, 82, 83, 84, 85, 86, 87, 88, 89, 90] (by decide +kernel) (by decide +kernel)
set_option maxRecDepth 20000 in
theorem gX4_ahead_X1_passHours : GoodIn wsX4_ahead (wsV RX4 202 RX1 yX1_passHours wsX1_passHours) := goodIn_app (goodIn_of _ (by decide +kernel)) ggX4_ahead_X1_passHours
theorem dX4_ahead_0 : decode cX4_ahead 0 = .ok (.aload_n 0, 1) := by decide +kernel
theorem dX4_ahead_1 : decode cX4_ahead 1 = .ok (.invokevirtual 139, 3) := by decide +kernel
theorem dX4_ahead_4 : decode cX4_ahead 4 = .ok (.ifCond .eq 6, 3) := by decide +kernel
theorem dX4_ahead_7 : decode cX4_ahead 7 = .ok (.ldc 137, 2) := by decide +kernel
theorem dX4_ahead_9 : decode cX4_ahead 9 = .ok (.ireturn, 1) := by decide +kernel
theorem dX4_ahead_10 : decode cX4_ahead 10 = .ok (.iload_n 1, 1) := by decide +kernel
theorem dX4_ahead_11 : decode cX4_ahead 11 = .ok (.iconst 0, 1) := by decide +kernel
theorem dX4_ahead_12 : decode cX4_ahead 12 = .ok (.bipush 60, 2) := by decide +kernel
theorem dX4_ahead_14 : decode cX4_ahead 14 = .ok (.invokestatic 198, 3) := by decide +kernel
theorem dX4_ahead_17 : decode cX4_ahead 17 = .ok (.ifCond .ne 6, 3) := by decide +kernel
theorem dX4_ahead_20 : decode cX4_ahead 20 = .ok (.ldc 62, 2) := by decide +kernel
theorem dX4_ahead_22 : decode cX4_ahead 22 = .ok (.ireturn, 1) := by decide +kernel
theorem dX4_ahead_23 : decode cX4_ahead 23 = .ok (.aload_n 0, 1) := by decide +kernel
theorem dX4_ahead_24 : decode cX4_ahead 24 = .ok (.getfield 29, 3) := by decide +kernel
theorem dX4_ahead_27 : decode cX4_ahead 27 = .ok (.aload_n 0, 1) := by decide +kernel
theorem dX4_ahead_28 : decode cX4_ahead 28 = .ok (.getfield 25, 3) := by decide +kernel
theorem dX4_ahead_31 : decode cX4_ahead 31 = .ok (.invokevirtual 123, 3) := by decide +kernel
theorem dX4_ahead_34 : decode cX4_ahead 34 = .ok (.aload_n 0, 1) := by decide +kernel
theorem dX4_ahead_35 : decode cX4_ahead 35 = .ok (.getfield 29, 3) := by decide +kernel
theorem dX4_ahead_38 : decode cX4_ahead 38 = .ok (.iload_n 1, 1) := by decide +kernel
theorem dX4_ahead_39 : decode cX4_ahead 39 = .ok (.invokevirtual 202, 3) := by decide +kernel
theorem dX4_ahead_42 : decode cX4_ahead 42 = .ok (.aload_n 0, 1) := by decide +kernel
theorem dX4_ahead_43 : decode cX4_ahead 43 = .ok (.getfield 29, 3) := by decide +kernel
theorem dX4_ahead_46 : decode cX4_ahead 46 = .ok (.getfield 152, 3) := by decide +kernel
theorem dX4_ahead_49 : decode cX4_ahead 49 = .ok (.ireturn, 1) := by decide +kernel
set_option maxRecDepth 20000 in
theorem ggX4_comesTo_X4_isOath : GoodIn wsX4_comesTo wsX4_isOath := goodIn_r _ [9, 3, 10, 68, 69, 70, 71, 72, 73, 74, 75, 76, 77, 78, 79, 80, 81, 82, 83, 84, 85, 86, 87, 88, 89] (by decide +kernel) (by decide +kernel)
set_option maxRecDepth 20000 in
theorem gX4_comesTo_X4_isOath : GoodIn wsX4_comesTo (wsV RX4 153 RX4 yX4_isOath wsX4_isOath) := goodIn_app (goodIn_of _ (by decide +kernel)) ggX4_comesTo_X4_isOath
set_option maxRecDepth 20000 in
theorem ggX4_comesTo_X4_isWithin : GoodIn wsX4_comesTo wsX4_isWithin := goodIn_r _ [13] (by decide +kernel) (by decide +kernel)
set_option maxRecDepth 20000 in
theorem gX4_comesTo_X4_isWithin : GoodIn wsX4_comesTo (va_wsS RX4 198 yX4_isWithin wsX4_isWithin) := goodIn_app (goodIn_of _ (by decide +kernel)) ggX4_comesTo_X4_isWithin
set_option maxRecDepth 20000 in
theorem ggX4_comesTo_X1_become : GoodIn wsX4_comesTo wsX1_become := goodIn_r _ [18, 19, 20, 21, 22, 23, 24, 25, 26, 27, 28, 29, 30, 31, 32, 33, 34, 78, 79, 80, 81, 82, 83, 84, 85, 86, 87, 88, 89] (by decide +kernel) (by decide +kernel)
set_option maxRecDepth 20000 in
theorem gX4_comesTo_X1_become : GoodIn wsX4_comesTo (wsV RX4 123 RX1 yX1_become wsX1_become) := goodIn_app (goodIn_of _ (by decide +kernel)) ggX4_comesTo_X1_become
set_option maxRecDepth 20000 in
theorem ggX4_comesTo_X1_passHours : GoodIn wsX4_comesTo wsX1_passHours := goodIn_r _ [38, 39, 40, 41, 17, 42, 19, 21, 43, 44, 45, 46, 31, 47, 48, 49, 50, 51, 23, 52, 53, 54, 55, 34, 22, 33, 26, 32, 56, 57, 58, 59, 60, 61, 62, 63, 25, 24, 64, 65, 66, 67, 78, 79, 80, 81, 82, 83, 84, 85, 86, 87, 88, 89] (by decide +kernel) (by decide +kernel)
set_option maxRecDepth 20000 in
theorem gX4_comesTo_X1_passHours : GoodIn wsX4_comesTo (wsV RX4 202 RX1 yX1_passHours wsX1_passHours) := goodIn_app (goodIn_of _ (by decide +kernel)) ggX4_comesTo_X1_passHours
theorem dX4_comesTo_0 : decode cX4_comesTo 0 = .ok (.aload_n 0, 1) := by decide +kernel
theorem dX4_comesTo_1 : decode cX4_comesTo 1 = .ok (.iload_n 1, 1) := by decide +kernel
theorem dX4_comesTo_2 : decode cX4_comesTo 2 = .ok (.invokevirtual 153, 3) := by decide +kernel
theorem dX4_comesTo_5 : decode cX4_comesTo 5 = .ok (.ifCond .eq 13, 3) := by decide +kernel
theorem dX4_comesTo_8 : decode cX4_comesTo 8 = .ok (.iload_n 2, 1) := by decide +kernel
theorem dX4_comesTo_9 : decode cX4_comesTo 9 = .ok (.iconst 0, 1) := by decide +kernel
theorem dX4_comesTo_10 : decode cX4_comesTo 10 = .ok (.bipush 60, 2) := by decide +kernel
theorem dX4_comesTo_12 : decode cX4_comesTo 12 = .ok (.invokestatic 198, 3) := by decide +kernel
theorem dX4_comesTo_15 : decode cX4_comesTo 15 = .ok (.ifCond .ne 6, 3) := by decide +kernel
theorem dX4_comesTo_18 : decode cX4_comesTo 18 = .ok (.ldc 62, 2) := by decide +kernel
theorem dX4_comesTo_20 : decode cX4_comesTo 20 = .ok (.ireturn, 1) := by decide +kernel
theorem dX4_comesTo_21 : decode cX4_comesTo 21 = .ok (.aload_n 0, 1) := by decide +kernel
theorem dX4_comesTo_22 : decode cX4_comesTo 22 = .ok (.getfield 29, 3) := by decide +kernel
theorem dX4_comesTo_25 : decode cX4_comesTo 25 = .ok (.aload_n 0, 1) := by decide +kernel
theorem dX4_comesTo_26 : decode cX4_comesTo 26 = .ok (.getfield 25, 3) := by decide +kernel
theorem dX4_comesTo_29 : decode cX4_comesTo 29 = .ok (.invokevirtual 123, 3) := by decide +kernel
theorem dX4_comesTo_32 : decode cX4_comesTo 32 = .ok (.aload_n 0, 1) := by decide +kernel
theorem dX4_comesTo_33 : decode cX4_comesTo 33 = .ok (.getfield 29, 3) := by decide +kernel
theorem dX4_comesTo_36 : decode cX4_comesTo 36 = .ok (.iload_n 2, 1) := by decide +kernel
theorem dX4_comesTo_37 : decode cX4_comesTo 37 = .ok (.invokevirtual 202, 3) := by decide +kernel
theorem dX4_comesTo_40 : decode cX4_comesTo 40 = .ok (.aload_n 0, 1) := by decide +kernel
theorem dX4_comesTo_41 : decode cX4_comesTo 41 = .ok (.getfield 29, 3) := by decide +kernel
theorem dX4_comesTo_44 : decode cX4_comesTo 44 = .ok (.getfield 166, 3) := by decide +kernel
theorem dX4_comesTo_47 : decode cX4_comesTo 47 = .ok (.iload_n 1, 1) := by decide +kernel
theorem dX4_comesTo_48 : decode cX4_comesTo 48 = .ok (.iaload, 1) := by decide +kernel
theorem dX4_comesTo_49 : decode cX4_comesTo 49 = .ok (.ireturn, 1) := by decide +kernel
set_option maxRecDepth 20000 in
theorem ggX4_kept_X4_isOath : GoodIn wsX4_kept wsX4_isOath := goodIn_r _ [10, 3, 11, 62, 63, 64, 65, 66, 67, 68, 69, 70, 71, 72, 73, 74, 75, 76, 77, 78, 79, 80, 81, 82, 83] (by decide +kernel) (by decide +kernel)
set_option maxRecDepth 20000 in
theorem gX4_kept_X4_isOath : GoodIn wsX4_kept (wsV RX4 153 RX4 yX4_isOath wsX4_isOath) := goodIn_app (goodIn_of _ (by decide +kernel)) ggX4_kept_X4_isOath
set_option maxRecDepth 20000 in
theorem ggX4_kept_X1_become : GoodIn wsX4_kept wsX1_become := goodIn_r _ [16, 17, 18, 19, 20, 21, 22, 23, 24, 25, 26, 27, 28, 29, 30, 31, 32, 72, 73, 74, 75, 76, 77, 78, 79, 80, 81, 82, 83] (by decide +kernel) (by decide +kernel)
set_option maxRecDepth 20000 in
theorem gX4_kept_X1_become : GoodIn wsX4_kept (wsV RX4 123 RX1 yX1_become wsX1_become) := goodIn_app (goodIn_of _ (by decide +kernel)) ggX4_kept_X1_become
set_option maxRecDepth 20000 in
theorem ggX4_kept_X1_passHour : GoodIn wsX4_kept wsX1_passHour := goodIn_r _ [36, 17, 19, 37, 38, 39, 15, 40, 29, 41, 42, 43, 44, 45, 21, 46, 47, 48, 49, 32, 20, 31, 24, 30, 50, 51, 52, 53, 54, 55, 56, 57, 23, 22, 58, 59, 60, 61, 72, 73, 74, 75, 76, 77, 78, 79, 80, 81, 82, 83] (by decide +kernel) (by decide +kernel)
set_option maxRecDepth 20000 in
theorem gX4_kept_X1_passHour : GoodIn wsX4_kept (wsV RX4 148 RX1 yX1_passHour wsX1_passHour) := goodIn_app (goodIn_of _ (by decide +kernel)) ggX4_kept_X1_passHour
theorem dX4_kept_0 : decode cX4_kept 0 = .ok (.aload_n 0, 1) := by decide +kernel
theorem dX4_kept_1 : decode cX4_kept 1 = .ok (.iload_n 1, 1) := by decide +kernel
theorem dX4_kept_2 : decode cX4_kept 2 = .ok (.invokevirtual 153, 3) := by decide +kernel
theorem dX4_kept_5 : decode cX4_kept 5 = .ok (.ifCond .ne 6, 3) := by decide +kernel
theorem dX4_kept_8 : decode cX4_kept 8 = .ok (.ldc 62, 2) := by decide +kernel
theorem dX4_kept_10 : decode cX4_kept 10 = .ok (.ireturn, 1) := by decide +kernel
theorem dX4_kept_11 : decode cX4_kept 11 = .ok (.aload_n 0, 1) := by decide +kernel
theorem dX4_kept_12 : decode cX4_kept 12 = .ok (.getfield 29, 3) := by decide +kernel
theorem dX4_kept_15 : decode cX4_kept 15 = .ok (.aload_n 0, 1) := by decide +kernel
theorem dX4_kept_16 : decode cX4_kept 16 = .ok (.getfield 25, 3) := by decide +kernel
theorem dX4_kept_19 : decode cX4_kept 19 = .ok (.invokevirtual 123, 3) := by decide +kernel
theorem dX4_kept_22 : decode cX4_kept 22 = .ok (.iconst 0, 1) := by decide +kernel
theorem dX4_kept_23 : decode cX4_kept 23 = .ok (.istore_n 2, 1) := by decide +kernel
theorem dX4_kept_24 : decode cX4_kept 24 = .ok (.iload_n 2, 1) := by decide +kernel
theorem dX4_kept_25 : decode cX4_kept 25 = .ok (.bipush 60, 2) := by decide +kernel
theorem dX4_kept_27 : decode cX4_kept 27 = .ok (.if_icmp .gt 31, 3) := by decide +kernel
theorem dX4_kept_30 : decode cX4_kept 30 = .ok (.aload_n 0, 1) := by decide +kernel
theorem dX4_kept_31 : decode cX4_kept 31 = .ok (.getfield 29, 3) := by decide +kernel
theorem dX4_kept_34 : decode cX4_kept 34 = .ok (.getfield 166, 3) := by decide +kernel
theorem dX4_kept_37 : decode cX4_kept 37 = .ok (.iload_n 1, 1) := by decide +kernel
theorem dX4_kept_38 : decode cX4_kept 38 = .ok (.iaload, 1) := by decide +kernel
theorem dX4_kept_39 : decode cX4_kept 39 = .ok (.ifCond .eq 5, 3) := by decide +kernel
theorem dX4_kept_42 : decode cX4_kept 42 = .ok (.iload_n 2, 1) := by decide +kernel
theorem dX4_kept_43 : decode cX4_kept 43 = .ok (.ireturn, 1) := by decide +kernel
theorem dX4_kept_44 : decode cX4_kept 44 = .ok (.aload_n 0, 1) := by decide +kernel
theorem dX4_kept_45 : decode cX4_kept 45 = .ok (.getfield 29, 3) := by decide +kernel
theorem dX4_kept_48 : decode cX4_kept 48 = .ok (.invokevirtual 148, 3) := by decide +kernel
theorem dX4_kept_51 : decode cX4_kept 51 = .ok (.pop, 1) := by decide +kernel
theorem dX4_kept_52 : decode cX4_kept 52 = .ok (.iinc 2 1, 3) := by decide +kernel
theorem dX4_kept_55 : decode cX4_kept 55 = .ok (.goto (-31), 3) := by decide +kernel
theorem dX4_kept_58 : decode cX4_kept 58 = .ok (.ldc 205, 2) := by decide +kernel
theorem dX4_kept_60 : decode cX4_kept 60 = .ok (.ireturn, 1) := by decide +kernel
set_option maxRecDepth 20000 in
theorem ggX4_past_X4_noRoute : GoodIn wsX4_past wsX4_noRoute := goodIn_r _ [11, 4, 12, 69, 70, 71, 72, 73, 74, 75, 76, 77, 78, 79, 80, 81, 82, 83, 84, 85, 86, 87, 88, 89, 90] (by decide +kernel) (by decide +kernel)
set_option maxRecDepth 20000 in
theorem gX4_past_X4_noRoute : GoodIn wsX4_past (wsV RX4 139 RX4 yX4_noRoute wsX4_noRoute) := goodIn_app (goodIn_of _ (by decide +kernel)) ggX4_past_X4_noRoute
set_option maxRecDepth 20000 in
theorem ggX4_past_X4_isPlace : GoodIn wsX4_past wsX4_isPlace := goodIn_r _ [15, 16, 17, 10, 18] (by decide +kernel) (by decide +kernel)
set_option maxRecDepth 20000 in
theorem gX4_past_X4_isPlace : GoodIn wsX4_past (va_wsS RX4 156 yX4_isPlace wsX4_isPlace) := goodIn_app (goodIn_of _ (by decide +kernel)) ggX4_past_X4_isPlace
set_option maxRecDepth 20000 in
theorem ggX4_past_X1_become : GoodIn wsX4_past wsX1_become := goodIn_r _ [23, 24, 25, 26, 27, 28, 29, 30, 31, 32, 33, 34, 35, 36, 37, 38, 39, 79, 80, 81, 82, 83, 84, 85, 86, 87, 88, 89, 90] (by decide +kernel) (by decide +kernel)
set_option maxRecDepth 20000 in
theorem gX4_past_X1_become : GoodIn wsX4_past (wsV RX4 123 RX1 yX1_become wsX1_become) := goodIn_app (goodIn_of _ (by decide +kernel)) ggX4_past_X1_become
set_option maxRecDepth 20000 in
theorem ggX4_past_X1_passHour : GoodIn wsX4_past wsX1_passHour := goodIn_r _ [43, 24, 26, 44, 45, 46, 22, 47, 36, 48, 49, 50, 51, 52, 28, 53, 54, 55, 56, 39, 27, 38, 31, 37, 57, 58, 59, 60, 61, 62, 63, 64, 30, 29, 65, 66, 67, 68, 79, 80, 81, 82, 83, 84, 85, 86, 87, 88, 89, 90] (by decide +kernel) (by decide +kernel)
set_option maxRecDepth 20000 in
theorem gX4_past_X1_passHour : GoodIn wsX4_past (wsV RX4 148 RX1 yX1_passHour wsX1_passHour) := goodIn_app (goodIn_of _ (by decide +kernel)) ggX4_past_X1_passHour
theorem dX4_past_0 : decode cX4_past 0 = .ok (.aload_n 0, 1) := by decide +kernel
theorem dX4_past_1 : decode cX4_past 1 = .ok (.invokevirtual 139, 3) := by decide +kernel
theorem dX4_past_4 : decode cX4_past 4 = .ok (.ifCond .eq 6, 3) := by decide +kernel
theorem dX4_past_7 : decode cX4_past 7 = .ok (.ldc 137, 2) := by decide +kernel
theorem dX4_past_9 : decode cX4_past 9 = .ok (.ireturn, 1) := by decide +kernel
theorem dX4_past_10 : decode cX4_past 10 = .ok (.iload_n 1, 1) := by decide +kernel
theorem dX4_past_11 : decode cX4_past 11 = .ok (.invokestatic 156, 3) := by decide +kernel
theorem dX4_past_14 : decode cX4_past 14 = .ok (.ifCond .ne 6, 3) := by decide +kernel
theorem dX4_past_17 : decode cX4_past 17 = .ok (.ldc 62, 2) := by decide +kernel
theorem dX4_past_19 : decode cX4_past 19 = .ok (.ireturn, 1) := by decide +kernel
theorem dX4_past_20 : decode cX4_past 20 = .ok (.aload_n 0, 1) := by decide +kernel
theorem dX4_past_21 : decode cX4_past 21 = .ok (.getfield 29, 3) := by decide +kernel
theorem dX4_past_24 : decode cX4_past 24 = .ok (.aload_n 0, 1) := by decide +kernel
theorem dX4_past_25 : decode cX4_past 25 = .ok (.getfield 25, 3) := by decide +kernel
theorem dX4_past_28 : decode cX4_past 28 = .ok (.invokevirtual 123, 3) := by decide +kernel
theorem dX4_past_31 : decode cX4_past 31 = .ok (.iconst 0, 1) := by decide +kernel
theorem dX4_past_32 : decode cX4_past 32 = .ok (.istore_n 2, 1) := by decide +kernel
theorem dX4_past_33 : decode cX4_past 33 = .ok (.iload_n 2, 1) := by decide +kernel
theorem dX4_past_34 : decode cX4_past 34 = .ok (.bipush 60, 2) := by decide +kernel
theorem dX4_past_36 : decode cX4_past 36 = .ok (.if_icmp .gt 30, 3) := by decide +kernel
theorem dX4_past_39 : decode cX4_past 39 = .ok (.aload_n 0, 1) := by decide +kernel
theorem dX4_past_40 : decode cX4_past 40 = .ok (.getfield 29, 3) := by decide +kernel
theorem dX4_past_43 : decode cX4_past 43 = .ok (.getfield 152, 3) := by decide +kernel
theorem dX4_past_46 : decode cX4_past 46 = .ok (.iload_n 1, 1) := by decide +kernel
theorem dX4_past_47 : decode cX4_past 47 = .ok (.if_icmp .ne 5, 3) := by decide +kernel
theorem dX4_past_50 : decode cX4_past 50 = .ok (.iload_n 2, 1) := by decide +kernel
theorem dX4_past_51 : decode cX4_past 51 = .ok (.ireturn, 1) := by decide +kernel
theorem dX4_past_52 : decode cX4_past 52 = .ok (.aload_n 0, 1) := by decide +kernel
theorem dX4_past_53 : decode cX4_past 53 = .ok (.getfield 29, 3) := by decide +kernel
theorem dX4_past_56 : decode cX4_past 56 = .ok (.invokevirtual 148, 3) := by decide +kernel
theorem dX4_past_59 : decode cX4_past 59 = .ok (.pop, 1) := by decide +kernel
theorem dX4_past_60 : decode cX4_past 60 = .ok (.iinc 2 1, 3) := by decide +kernel
theorem dX4_past_63 : decode cX4_past 63 = .ok (.goto (-30), 3) := by decide +kernel
theorem dX4_past_66 : decode cX4_past 66 = .ok (.ldc 205, 2) := by decide +kernel
theorem dX4_past_68 : decode cX4_past 68 = .ok (.ireturn, 1) := by decide +kernel
set_option maxRecDepth 20000 in
theorem ggX4_visits_X4_noRoute : GoodIn wsX4_visits wsX4_noRoute := goodIn_r _ [10, 4, 11, 65, 66, 67, 68, 69, 70, 71, 72, 73, 74, 75, 76, 77, 78, 79, 80, 81, 82, 83, 84, 85, 86] (by decide +kernel) (by decide +kernel)
set_option maxRecDepth 20000 in
theorem gX4_visits_X4_noRoute : GoodIn wsX4_visits (wsV RX4 139 RX4 yX4_noRoute wsX4_noRoute) := goodIn_app (goodIn_of _ (by decide +kernel)) ggX4_visits_X4_noRoute
set_option maxRecDepth 20000 in
theorem ggX4_visits_X4_isWithin : GoodIn wsX4_visits wsX4_isWithin := goodIn_r _ [14] (by decide +kernel) (by decide +kernel)
set_option maxRecDepth 20000 in
theorem gX4_visits_X4_isWithin : GoodIn wsX4_visits (va_wsS RX4 198 yX4_isWithin wsX4_isWithin) := goodIn_app (goodIn_of _ (by decide +kernel)) ggX4_visits_X4_isWithin
set_option maxRecDepth 20000 in
theorem ggX4_visits_X1_become : GoodIn wsX4_visits wsX1_become := goodIn_r _ [19, 20, 21, 22, 23, 24, 25, 26, 27, 28, 29, 30, 31, 32, 33, 34, 35, 75, 76, 77, 78, 79, 80, 81, 82, 83, 84, 85, 86] (by decide +kernel) (by decide +kernel)
set_option maxRecDepth 20000 in
theorem gX4_visits_X1_become : GoodIn wsX4_visits (wsV RX4 123 RX1 yX1_become wsX1_become) := goodIn_app (goodIn_of _ (by decide +kernel)) ggX4_visits_X1_become
set_option maxRecDepth 20000 in
theorem ggX4_visits_X1_passHour : GoodIn wsX4_visits wsX1_passHour := goodIn_r _ [39, 20, 22, 40, 41, 42, 18, 43, 32, 44, 45, 46, 47, 48, 24, 49, 50, 51, 52, 35, 23, 34, 27, 33, 53, 54, 55, 56, 57, 58, 59, 60, 26, 25, 61, 62, 63, 64, 75, 76, 77, 78, 79, 80, 81, 82, 83, 84, 85, 86] (by decide +kernel) (by decide +kernel)
set_option maxRecDepth 20000 in
theorem gX4_visits_X1_passHour : GoodIn wsX4_visits (wsV RX4 148 RX1 yX1_passHour wsX1_passHour) := goodIn_app (goodIn_of _ (by decide +kernel)) ggX4_visits_X1_passHour
theorem dX4_visits_0 : decode cX4_visits 0 = .ok (.aload_n 0, 1) := by decide +kernel
theorem dX4_visits_1 : decode cX4_visits 1 = .ok (.invokevirtual 139, 3) := by decide +kernel
theorem dX4_visits_4 : decode cX4_visits 4 = .ok (.ifCond .eq 6, 3) := by decide +kernel
theorem dX4_visits_7 : decode cX4_visits 7 = .ok (.ldc 137, 2) := by decide +kernel
theorem dX4_visits_9 : decode cX4_visits 9 = .ok (.ireturn, 1) := by decide +kernel
theorem dX4_visits_10 : decode cX4_visits 10 = .ok (.iload_n 1, 1) := by decide +kernel
theorem dX4_visits_11 : decode cX4_visits 11 = .ok (.iconst 0, 1) := by decide +kernel
theorem dX4_visits_12 : decode cX4_visits 12 = .ok (.bipush 60, 2) := by decide +kernel
theorem dX4_visits_14 : decode cX4_visits 14 = .ok (.invokestatic 198, 3) := by decide +kernel
theorem dX4_visits_17 : decode cX4_visits 17 = .ok (.ifCond .ne 6, 3) := by decide +kernel
theorem dX4_visits_20 : decode cX4_visits 20 = .ok (.ldc 62, 2) := by decide +kernel
