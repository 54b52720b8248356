theorem dX4_visits_22 : decode cX4_visits 22 = .ok (.ireturn, 1) := by decide +kernel
theorem dX4_visits_23 : decode cX4_visits 23 = .ok (.aload_n 0, 1) := by decide +kernel
theorem dX4_visits_24 : decode cX4_visits 24 = .ok (.getfield 29, 3) := by decide +kernel
theorem dX4_visits_27 : decode cX4_visits 27 = .ok (.aload_n 0, 1) := by decide +kernel
theorem dX4_visits_28 : decode cX4_visits 28 = .ok (.getfield 25, 3) := by decide +kernel
theorem dX4_visits_31 : decode cX4_visits 31 = .ok (.invokevirtual 123, 3) := by decide +kernel
theorem dX4_visits_34 : decode cX4_visits 34 = .ok (.iconst 1, 1) := by decide +kernel
theorem dX4_visits_35 : decode cX4_visits 35 = .ok (.aload_n 0, 1) := by decide +kernel
theorem dX4_visits_36 : decode cX4_visits 36 = .ok (.getfield 29, 3) := by decide +kernel
theorem dX4_visits_39 : decode cX4_visits 39 = .ok (.getfield 152, 3) := by decide +kernel
theorem dX4_visits_42 : decode cX4_visits 42 = .ok (.ishl, 1) := by decide +kernel
theorem dX4_visits_43 : decode cX4_visits 43 = .ok (.istore_n 2, 1) := by decide +kernel
theorem dX4_visits_44 : decode cX4_visits 44 = .ok (.iconst 0, 1) := by decide +kernel
theorem dX4_visits_45 : decode cX4_visits 45 = .ok (.istore_n 3, 1) := by decide +kernel
theorem dX4_visits_46 : decode cX4_visits 46 = .ok (.iload_n 3, 1) := by decide +kernel
theorem dX4_visits_47 : decode cX4_visits 47 = .ok (.iload_n 1, 1) := by decide +kernel
theorem dX4_visits_48 : decode cX4_visits 48 = .ok (.if_icmp .ge 29, 3) := by decide +kernel
theorem dX4_visits_51 : decode cX4_visits 51 = .ok (.aload_n 0, 1) := by decide +kernel
theorem dX4_visits_52 : decode cX4_visits 52 = .ok (.getfield 29, 3) := by decide +kernel
theorem dX4_visits_55 : decode cX4_visits 55 = .ok (.invokevirtual 148, 3) := by decide +kernel
theorem dX4_visits_58 : decode cX4_visits 58 = .ok (.pop, 1) := by decide +kernel
theorem dX4_visits_59 : decode cX4_visits 59 = .ok (.iload_n 2, 1) := by decide +kernel
theorem dX4_visits_60 : decode cX4_visits 60 = .ok (.iconst 1, 1) := by decide +kernel
theorem dX4_visits_61 : decode cX4_visits 61 = .ok (.aload_n 0, 1) := by decide +kernel
theorem dX4_visits_62 : decode cX4_visits 62 = .ok (.getfield 29, 3) := by decide +kernel
theorem dX4_visits_65 : decode cX4_visits 65 = .ok (.getfield 152, 3) := by decide +kernel
theorem dX4_visits_68 : decode cX4_visits 68 = .ok (.ishl, 1) := by decide +kernel
theorem dX4_visits_69 : decode cX4_visits 69 = .ok (.ior, 1) := by decide +kernel
theorem dX4_visits_70 : decode cX4_visits 70 = .ok (.istore_n 2, 1) := by decide +kernel
theorem dX4_visits_71 : decode cX4_visits 71 = .ok (.iinc 3 1, 3) := by decide +kernel
theorem dX4_visits_74 : decode cX4_visits 74 = .ok (.goto (-28), 3) := by decide +kernel
theorem dX4_visits_77 : decode cX4_visits 77 = .ok (.iload_n 2, 1) := by decide +kernel
theorem dX4_visits_78 : decode cX4_visits 78 = .ok (.ireturn, 1) := by decide +kernel
set_option maxRecDepth 20000 in
theorem ggX4_rest_X4_noRoute : GoodIn wsX4_rest wsX4_noRoute := goodIn_r _ [10, 3, 11, 62, 63, 64, 65, 66, 67, 68, 69, 70, 71, 72, 73, 74, 75, 76, 77, 78, 79, 80, 81, 82, 83] (by decide +kernel) (by decide +kernel)
set_option maxRecDepth 20000 in
theorem gX4_rest_X4_noRoute : GoodIn wsX4_rest (wsV RX4 139 RX4 yX4_noRoute wsX4_noRoute) := goodIn_app (goodIn_of _ (by decide +kernel)) ggX4_rest_X4_noRoute
set_option maxRecDepth 20000 in
theorem ggX4_rest_X1_become : GoodIn wsX4_rest wsX1_become := goodIn_r _ [16, 17, 18, 19, 20, 21, 22, 23, 24, 25, 26, 27, 28, 29, 30, 31, 32, 72, 73, 74, 75, 76, 77, 78, 79, 80, 81, 82, 83] (by decide +kernel) (by decide +kernel)
set_option maxRecDepth 20000 in
theorem gX4_rest_X1_become : GoodIn wsX4_rest (wsV RX4 123 RX1 yX1_become wsX1_become) := goodIn_app (goodIn_of _ (by decide +kernel)) ggX4_rest_X1_become
set_option maxRecDepth 20000 in
theorem ggX4_rest_X1_passHour : GoodIn wsX4_rest wsX1_passHour := goodIn_r _ [36, 17, 19, 37, 38, 39, 15, 40, 29, 41, 42, 43, 44, 45, 21, 46, 47, 48, 49, 32, 20, 31, 24, 30, 50, 51, 52, 53, 54, 55, 56, 57, 23, 22, 58, 59, 60, 61, 72, 73, 74, 75, 76, 77, 78, 79, 80, 81, 82, 83] (by decide +kernel) (by decide +kernel)
set_option maxRecDepth 20000 in
theorem gX4_rest_X1_passHour : GoodIn wsX4_rest (wsV RX4 148 RX1 yX1_passHour wsX1_passHour) := goodIn_app (goodIn_of _ (by decide +kernel)) ggX4_rest_X1_passHour
theorem dX4_rest_0 : decode cX4_rest 0 = .ok (.aload_n 0, 1) := by decide +kernel
theorem dX4_rest_1 : decode cX4_rest 1 = .ok (.invokevirtual 139, 3) := by decide +kernel
theorem dX4_rest_4 : decode cX4_rest 4 = .ok (.ifCond .eq 6, 3) := by decide +kernel
theorem dX4_rest_7 : decode cX4_rest 7 = .ok (.ldc 137, 2) := by decide +kernel
theorem dX4_rest_9 : decode cX4_rest 9 = .ok (.ireturn, 1) := by decide +kernel
theorem dX4_rest_10 : decode cX4_rest 10 = .ok (.aload_n 0, 1) := by decide +kernel
theorem dX4_rest_11 : decode cX4_rest 11 = .ok (.getfield 29, 3) := by decide +kernel
theorem dX4_rest_14 : decode cX4_rest 14 = .ok (.aload_n 0, 1) := by decide +kernel
theorem dX4_rest_15 : decode cX4_rest 15 = .ok (.getfield 25, 3) := by decide +kernel
theorem dX4_rest_18 : decode cX4_rest 18 = .ok (.invokevirtual 123, 3) := by decide +kernel
theorem dX4_rest_21 : decode cX4_rest 21 = .ok (.iconst 0, 1) := by decide +kernel
theorem dX4_rest_22 : decode cX4_rest 22 = .ok (.istore_n 1, 1) := by decide +kernel
theorem dX4_rest_23 : decode cX4_rest 23 = .ok (.iconst 1, 1) := by decide +kernel
theorem dX4_rest_24 : decode cX4_rest 24 = .ok (.istore_n 2, 1) := by decide +kernel
theorem dX4_rest_25 : decode cX4_rest 25 = .ok (.iload_n 2, 1) := by decide +kernel
theorem dX4_rest_26 : decode cX4_rest 26 = .ok (.bipush 70, 2) := by decide +kernel
theorem dX4_rest_28 : decode cX4_rest 28 = .ok (.if_icmp .gt 48, 3) := by decide +kernel
theorem dX4_rest_31 : decode cX4_rest 31 = .ok (.aload_n 0, 1) := by decide +kernel
theorem dX4_rest_32 : decode cX4_rest 32 = .ok (.getfield 29, 3) := by decide +kernel
theorem dX4_rest_35 : decode cX4_rest 35 = .ok (.getfield 152, 3) := by decide +kernel
theorem dX4_rest_38 : decode cX4_rest 38 = .ok (.istore_n 3, 1) := by decide +kernel
theorem dX4_rest_39 : decode cX4_rest 39 = .ok (.aload_n 0, 1) := by decide +kernel
theorem dX4_rest_40 : decode cX4_rest 40 = .ok (.getfield 29, 3) := by decide +kernel
theorem dX4_rest_43 : decode cX4_rest 43 = .ok (.invokevirtual 148, 3) := by decide +kernel
theorem dX4_rest_46 : decode cX4_rest 46 = .ok (.pop, 1) := by decide +kernel
theorem dX4_rest_47 : decode cX4_rest 47 = .ok (.aload_n 0, 1) := by decide +kernel
theorem dX4_rest_48 : decode cX4_rest 48 = .ok (.getfield 29, 3) := by decide +kernel
theorem dX4_rest_51 : decode cX4_rest 51 = .ok (.getfield 152, 3) := by decide +kernel
theorem dX4_rest_54 : decode cX4_rest 54 = .ok (.iload_n 3, 1) := by decide +kernel
theorem dX4_rest_55 : decode cX4_rest 55 = .ok (.if_icmp .eq 5, 3) := by decide +kernel
theorem dX4_rest_58 : decode cX4_rest 58 = .ok (.iload_n 2, 1) := by decide +kernel
theorem dX4_rest_59 : decode cX4_rest 59 = .ok (.istore_n 1, 1) := by decide +kernel
theorem dX4_rest_60 : decode cX4_rest 60 = .ok (.iload_n 2, 1) := by decide +kernel
theorem dX4_rest_61 : decode cX4_rest 61 = .ok (.iload_n 1, 1) := by decide +kernel
theorem dX4_rest_62 : decode cX4_rest 62 = .ok (.isub, 1) := by decide +kernel
theorem dX4_rest_63 : decode cX4_rest 63 = .ok (.bipush 10, 2) := by decide +kernel
theorem dX4_rest_65 : decode cX4_rest 65 = .ok (.if_icmp .ne 5, 3) := by decide +kernel
theorem dX4_rest_68 : decode cX4_rest 68 = .ok (.iload_n 1, 1) := by decide +kernel
theorem dX4_rest_69 : decode cX4_rest 69 = .ok (.ireturn, 1) := by decide +kernel
theorem dX4_rest_70 : decode cX4_rest 70 = .ok (.iinc 2 1, 3) := by decide +kernel
theorem dX4_rest_73 : decode cX4_rest 73 = .ok (.goto (-48), 3) := by decide +kernel
theorem dX4_rest_76 : decode cX4_rest 76 = .ok (.ldc 205, 2) := by decide +kernel
theorem dX4_rest_78 : decode cX4_rest 78 = .ok (.ireturn, 1) := by decide +kernel
set_option maxRecDepth 20000 in
theorem ggX4_least_X4_isOath : GoodIn wsX4_least wsX4_isOath := goodIn_r _ [11, 3, 12, 77, 78, 79, 80, 81, 82, 83, 84, 85, 86, 87, 88, 89, 90, 91, 92, 93, 94, 95, 96, 97, 98] (by decide +kernel) (by decide +kernel)
set_option maxRecDepth 20000 in
theorem gX4_least_X4_isOath : GoodIn wsX4_least (wsV RX4 153 RX4 yX4_isOath wsX4_isOath) := goodIn_app (goodIn_of _ (by decide +kernel)) ggX4_least_X4_isOath
set_option maxRecDepth 20000 in
theorem ggX4_least_X4_isPlace : GoodIn wsX4_least wsX4_isPlace := goodIn_r _ [15, 16, 17, 10, 18] (by decide +kernel) (by decide +kernel)
set_option maxRecDepth 20000 in
theorem gX4_least_X4_isPlace : GoodIn wsX4_least (va_wsS RX4 156 yX4_isPlace wsX4_isPlace) := goodIn_app (goodIn_of _ (by decide +kernel)) ggX4_least_X4_isPlace
set_option maxRecDepth 20000 in
theorem ggX4_least_X4_isWithin : GoodIn wsX4_least wsX4_isWithin := goodIn_r _ [18] (by decide +kernel) (by decide +kernel)
set_option maxRecDepth 20000 in
theorem gX4_least_X4_isWithin : GoodIn wsX4_least (va_wsS RX4 198 yX4_isWithin wsX4_isWithin) := goodIn_app (goodIn_of _ (by decide +kernel)) ggX4_least_X4_isWithin
set_option maxRecDepth 20000 in
theorem ggX4_least_X1_become : GoodIn wsX4_least wsX1_become := goodIn_r _ [23, 24, 25, 26, 27, 28, 29, 30, 31, 32, 33, 34, 35, 36, 37, 38, 39, 87, 88, 89, 90, 91, 92, 93, 94, 95, 96, 97, 98] (by decide +kernel) (by decide +kernel)
set_option maxRecDepth 20000 in
theorem gX4_least_X1_become : GoodIn wsX4_least (wsV RX4 123 RX1 yX1_become wsX1_become) := goodIn_app (goodIn_of _ (by decide +kernel)) ggX4_least_X1_become
set_option maxRecDepth 20000 in
theorem ggX4_least_X1_openTo : GoodIn wsX4_least wsX1_openTo := goodIn_r _ [43, 36, 37, 39, 87, 88, 89, 90, 91, 92, 93, 94, 95, 96, 97, 98] (by decide +kernel) (by decide +kernel)
set_option maxRecDepth 20000 in
theorem gX4_least_X1_openTo : GoodIn wsX4_least (wsV RX4 159 RX1 yX1_openTo wsX1_openTo) := goodIn_app (goodIn_of _ (by decide +kernel)) ggX4_least_X1_openTo
set_option maxRecDepth 20000 in
theorem ggX4_least_X1_passHours : GoodIn wsX4_least wsX1_passHours := goodIn_r _ [47, 48, 49, 50, 22, 51, 24, 26, 52, 53, 54, 55, 36, 56, 57, 58, 59, 60, 28, 61, 62, 63, 64, 39, 27, 38, 31, 37, 65, 66, 67, 68, 69, 70, 71, 72, 30, 29, 73, 74, 75, 76, 87, 88, 89, 90, 91, 92, 93, 94, 95, 96, 97, 98] (by decide +kernel) (by decide +kernel)
set_option maxRecDepth 20000 in
theorem gX4_least_X1_passHours : GoodIn wsX4_least (wsV RX4 202 RX1 yX1_passHours wsX1_passHours) := goodIn_app (goodIn_of _ (by decide +kernel)) ggX4_least_X1_passHours
theorem dX4_least_0 : decode cX4_least 0 = .ok (.aload_n 0, 1) := by decide +kernel
theorem dX4_least_1 : decode cX4_least 1 = .ok (.iload_n 1, 1) := by decide +kernel
theorem dX4_least_2 : decode cX4_least 2 = .ok (.invokevirtual 153, 3) := by decide +kernel
theorem dX4_least_5 : decode cX4_least 5 = .ok (.ifCond .eq 20, 3) := by decide +kernel
theorem dX4_least_8 : decode cX4_least 8 = .ok (.iload_n 2, 1) := by decide +kernel
theorem dX4_least_9 : decode cX4_least 9 = .ok (.invokestatic 156, 3) := by decide +kernel
theorem dX4_least_12 : decode cX4_least 12 = .ok (.ifCond .eq 13, 3) := by decide +kernel
theorem dX4_least_15 : decode cX4_least 15 = .ok (.iload_n 3, 1) := by decide +kernel
theorem dX4_least_16 : decode cX4_least 16 = .ok (.iconst 1, 1) := by decide +kernel
theorem dX4_least_17 : decode cX4_least 17 = .ok (.bipush 24, 2) := by decide +kernel
theorem dX4_least_19 : decode cX4_least 19 = .ok (.invokestatic 198, 3) := by decide +kernel
theorem dX4_least_22 : decode cX4_least 22 = .ok (.ifCond .ne 6, 3) := by decide +kernel
theorem dX4_least_25 : decode cX4_least 25 = .ok (.ldc 62, 2) := by decide +kernel
theorem dX4_least_27 : decode cX4_least 27 = .ok (.ireturn, 1) := by decide +kernel
theorem dX4_least_28 : decode cX4_least 28 = .ok (.iconst 1, 1) := by decide +kernel
theorem dX4_least_29 : decode cX4_least 29 = .ok (.istore 4, 2) := by decide +kernel
theorem dX4_least_31 : decode cX4_least 31 = .ok (.iload 4, 2) := by decide +kernel
theorem dX4_least_33 : decode cX4_least 33 = .ok (.bipush 20, 2) := by decide +kernel
theorem dX4_least_35 : decode cX4_least 35 = .ok (.if_icmp .gt 59, 3) := by decide +kernel
theorem dX4_least_38 : decode cX4_least 38 = .ok (.aload_n 0, 1) := by decide +kernel
theorem dX4_least_39 : decode cX4_least 39 = .ok (.getfield 29, 3) := by decide +kernel
theorem dX4_least_42 : decode cX4_least 42 = .ok (.aload_n 0, 1) := by decide +kernel
theorem dX4_least_43 : decode cX4_least 43 = .ok (.getfield 25, 3) := by decide +kernel
theorem dX4_least_46 : decode cX4_least 46 = .ok (.invokevirtual 123, 3) := by decide +kernel
theorem dX4_least_49 : decode cX4_least 49 = .ok (.aload_n 0, 1) := by decide +kernel
theorem dX4_least_50 : decode cX4_least 50 = .ok (.getfield 29, 3) := by decide +kernel
theorem dX4_least_53 : decode cX4_least 53 = .ok (.iload_n 1, 1) := by decide +kernel
theorem dX4_least_54 : decode cX4_least 54 = .ok (.iload_n 2, 1) := by decide +kernel
theorem dX4_least_55 : decode cX4_least 55 = .ok (.iload 4, 2) := by decide +kernel
theorem dX4_least_57 : decode cX4_least 57 = .ok (.invokevirtual 159, 3) := by decide +kernel
theorem dX4_least_60 : decode cX4_least 60 = .ok (.aload_n 0, 1) := by decide +kernel
theorem dX4_least_61 : decode cX4_least 61 = .ok (.getfield 29, 3) := by decide +kernel
theorem dX4_least_64 : decode cX4_least 64 = .ok (.iload_n 3, 1) := by decide +kernel
theorem dX4_least_65 : decode cX4_least 65 = .ok (.invokevirtual 202, 3) := by decide +kernel
theorem dX4_least_68 : decode cX4_least 68 = .ok (.aload_n 0, 1) := by decide +kernel
theorem dX4_least_69 : decode cX4_least 69 = .ok (.getfield 29, 3) := by decide +kernel
theorem dX4_least_72 : decode cX4_least 72 = .ok (.getfield 152, 3) := by decide +kernel
theorem dX4_least_75 : decode cX4_least 75 = .ok (.aload_n 0, 1) := by decide +kernel
theorem dX4_least_76 : decode cX4_least 76 = .ok (.getfield 29, 3) := by decide +kernel
theorem dX4_least_79 : decode cX4_least 79 = .ok (.getfield 195, 3) := by decide +kernel
theorem dX4_least_82 : decode cX4_least 82 = .ok (.if_icmp .ne 6, 3) := by decide +kernel
theorem dX4_least_85 : decode cX4_least 85 = .ok (.iload 4, 2) := by decide +kernel
theorem dX4_least_87 : decode cX4_least 87 = .ok (.ireturn, 1) := by decide +kernel
theorem dX4_least_88 : decode cX4_least 88 = .ok (.iinc 4 1, 3) := by decide +kernel
theorem dX4_least_91 : decode cX4_least 91 = .ok (.goto (-60), 3) := by decide +kernel
theorem dX4_least_94 : decode cX4_least 94 = .ok (.ldc 205, 2) := by decide +kernel
theorem dX4_least_96 : decode cX4_least 96 = .ok (.ireturn, 1) := by decide +kernel
set_option maxRecDepth 20000 in
theorem ggX4_buyOff_X4_noRoute : GoodIn wsX4_buyOff wsX4_noRoute := goodIn_r _ [9, 3, 10, 91, 92, 93, 94, 95, 96, 97, 98, 99, 100, 101, 102, 103, 104, 105, 106, 107, 108, 109, 110, 111, 112] (by decide +kernel) (by decide +kernel)
set_option maxRecDepth 20000 in
theorem gX4_buyOff_X4_noRoute : GoodIn wsX4_buyOff (wsV RX4 139 RX4 yX4_noRoute wsX4_noRoute) := goodIn_app (goodIn_of _ (by decide +kernel)) ggX4_buyOff_X4_noRoute
set_option maxRecDepth 20000 in
theorem ggX4_buyOff_X4_isPlace : GoodIn wsX4_buyOff wsX4_isPlace := goodIn_r _ [13, 14, 15, 8, 16] (by decide +kernel) (by decide +kernel)
set_option maxRecDepth 20000 in
theorem gX4_buyOff_X4_isPlace : GoodIn wsX4_buyOff (va_wsS RX4 156 yX4_isPlace wsX4_isPlace) := goodIn_app (goodIn_of _ (by decide +kernel)) ggX4_buyOff_X4_isPlace
set_option maxRecDepth 20000 in
theorem ggX4_buyOff_X4_isWithin : GoodIn wsX4_buyOff wsX4_isWithin := goodIn_r _ [16] (by decide +kernel) (by decide +kernel)
set_option maxRecDepth 20000 in
theorem gX4_buyOff_X4_isWithin : GoodIn wsX4_buyOff (va_wsS RX4 198 yX4_isWithin wsX4_isWithin) := goodIn_app (goodIn_of _ (by decide +kernel)) ggX4_buyOff_X4_isWithin
set_option maxRecDepth 20000 in
theorem ggX4_buyOff_X4_isEither : GoodIn wsX4_buyOff wsX4_isEither := goodIn_r _ [19] (by decide +kernel) (by decide +kernel)
set_option maxRecDepth 20000 in
theorem gX4_buyOff_X4_isEither : GoodIn wsX4_buyOff (va_wsS RX4 177 yX4_isEither wsX4_isEither) := goodIn_app (goodIn_of _ (by decide +kernel)) ggX4_buyOff_X4_isEither
set_option maxRecDepth 20000 in
theorem ggX4_buyOff_X1_openBits : GoodIn wsX4_buyOff wsX1_openBits := goodIn_r _ [24, 25, 26, 101, 102, 103, 104, 105, 106, 107, 108, 109, 110, 111, 112] (by decide +kernel) (by decide +kernel)
set_option maxRecDepth 20000 in
theorem gX4_buyOff_X1_openBits : GoodIn wsX4_buyOff (wsV RX4 169 RX1 yX1_openBits wsX1_openBits) := goodIn_app (goodIn_of _ (by decide +kernel)) ggX4_buyOff_X1_openBits
set_option maxRecDepth 20000 in
theorem ggX4_buyOff_J6_bitCount_0f7a4 : GoodIn wsX4_buyOff wsJ6_bitCount_0f7a4 := goodIn_r _ [30, 31, 32, 33] (by decide +kernel) (by decide +kernel)
set_option maxRecDepth 20000 in
theorem gX4_buyOff_J6_bitCount_0f7a4 : GoodIn wsX4_buyOff (va_wsS RX4 172 yJ6_bitCount_0f7a4 wsJ6_bitCount_0f7a4) := goodIn_app (goodIn_of _ (by decide +kernel)) ggX4_buyOff_J6_bitCount_0f7a4
set_option maxRecDepth 20000 in
theorem ggX4_buyOff_X4_placeIfBought : GoodIn wsX4_buyOff wsX4_placeIfBought := goodIn_r _ [37, 38, 3, 10, 39, 40, 41, 42, 43, 23, 44, 45, 46, 47, 48, 25, 49, 50, 51, 52, 53, 54, 55, 56, 57, 58, 26, 59, 60, 61, 62, 63, 64, 65, 66, 67, 68, 69, 70, 71, 72, 73, 74, 75, 76, 77, 78, 79, 80, 81, 29, 82, 83, 84, 85, 86, 87, 88, 89, 90, 91, 92, 93, 94, 95, 96, 97, 98, 99, 100, 101, 102, 103, 104, 105, 106, 107, 108, 109, 110, 111, 112] (by decide +kernel) (by decide +kernel)
set_option maxRecDepth 20000 in
theorem gX4_buyOff_X4_placeIfBought : GoodIn wsX4_buyOff (wsV RX4 206 RX4 yX4_placeIfBought wsX4_placeIfBought) := goodIn_app (goodIn_of _ (by decide +kernel)) ggX4_buyOff_X4_placeIfBought
theorem dX4_buyOff_0 : decode cX4_buyOff 0 = .ok (.aload_n 0, 1) := by decide +kernel
theorem dX4_buyOff_1 : decode cX4_buyOff 1 = .ok (.invokevirtual 139, 3) := by decide +kernel
theorem dX4_buyOff_4 : decode cX4_buyOff 4 = .ok (.ifCond .eq 6, 3) := by decide +kernel
theorem dX4_buyOff_7 : decode cX4_buyOff 7 = .ok (.ldc 137, 2) := by decide +kernel
theorem dX4_buyOff_9 : decode cX4_buyOff 9 = .ok (.ireturn, 1) := by decide +kernel
theorem dX4_buyOff_10 : decode cX4_buyOff 10 = .ok (.iload_n 1, 1) := by decide +kernel
theorem dX4_buyOff_11 : decode cX4_buyOff 11 = .ok (.invokestatic 156, 3) := by decide +kernel
theorem dX4_buyOff_14 : decode cX4_buyOff 14 = .ok (.ifCond .eq 20, 3) := by decide +kernel
theorem dX4_buyOff_17 : decode cX4_buyOff 17 = .ok (.iload_n 2, 1) := by decide +kernel
theorem dX4_buyOff_18 : decode cX4_buyOff 18 = .ok (.iconst 1, 1) := by decide +kernel
theorem dX4_buyOff_19 : decode cX4_buyOff 19 = .ok (.bipush 24, 2) := by decide +kernel
theorem dX4_buyOff_21 : decode cX4_buyOff 21 = .ok (.invokestatic 198, 3) := by decide +kernel
theorem dX4_buyOff_24 : decode cX4_buyOff 24 = .ok (.ifCond .eq 10, 3) := by decide +kernel
theorem dX4_buyOff_27 : decode cX4_buyOff 27 = .ok (.iload_n 3, 1) := by decide +kernel
theorem dX4_buyOff_28 : decode cX4_buyOff 28 = .ok (.invokestatic 177, 3) := by decide +kernel
theorem dX4_buyOff_31 : decode cX4_buyOff 31 = .ok (.ifCond .ne 6, 3) := by decide +kernel
theorem dX4_buyOff_34 : decode cX4_buyOff 34 = .ok (.ldc 62, 2) := by decide +kernel
theorem dX4_buyOff_36 : decode cX4_buyOff 36 = .ok (.ireturn, 1) := by decide +kernel
theorem dX4_buyOff_37 : decode cX4_buyOff 37 = .ok (.aload_n 0, 1) := by decide +kernel
theorem dX4_buyOff_38 : decode cX4_buyOff 38 = .ok (.getfield 25, 3) := by decide +kernel
theorem dX4_buyOff_41 : decode cX4_buyOff 41 = .ok (.invokevirtual 169, 3) := by decide +kernel
theorem dX4_buyOff_44 : decode cX4_buyOff 44 = .ok (.istore 4, 2) := by decide +kernel
theorem dX4_buyOff_46 : decode cX4_buyOff 46 = .ok (.ldc 205, 2) := by decide +kernel
theorem dX4_buyOff_48 : decode cX4_buyOff 48 = .ok (.istore 5, 2) := by decide +kernel
theorem dX4_buyOff_50 : decode cX4_buyOff 50 = .ok (.bipush 8, 2) := by decide +kernel
theorem dX4_buyOff_52 : decode cX4_buyOff 52 = .ok (.istore 6, 2) := by decide +kernel
theorem dX4_buyOff_54 : decode cX4_buyOff 54 = .ok (.iconst 0, 1) := by decide +kernel
theorem dX4_buyOff_55 : decode cX4_buyOff 55 = .ok (.istore 7, 2) := by decide +kernel
theorem dX4_buyOff_57 : decode cX4_buyOff 57 = .ok (.iload 7, 2) := by decide +kernel
theorem dX4_buyOff_59 : decode cX4_buyOff 59 = .ok (.iload 4, 2) := by decide +kernel
theorem dX4_buyOff_61 : decode cX4_buyOff 61 = .ok (.if_icmp .gt 52, 3) := by decide +kernel
theorem dX4_buyOff_64 : decode cX4_buyOff 64 = .ok (.iload 7, 2) := by decide +kernel
theorem dX4_buyOff_66 : decode cX4_buyOff 66 = .ok (.invokestatic 172, 3) := by decide +kernel
theorem dX4_buyOff_69 : decode cX4_buyOff 69 = .ok (.istore 8, 2) := by decide +kernel
theorem dX4_buyOff_71 : decode cX4_buyOff 71 = .ok (.iload 7, 2) := by decide +kernel
theorem dX4_buyOff_73 : decode cX4_buyOff 73 = .ok (.iload 4, 2) := by decide +kernel
theorem dX4_buyOff_75 : decode cX4_buyOff 75 = .ok (.iand, 1) := by decide +kernel
theorem dX4_buyOff_76 : decode cX4_buyOff 76 = .ok (.iload 7, 2) := by decide +kernel
theorem dX4_buyOff_78 : decode cX4_buyOff 78 = .ok (.if_icmp .ne 29, 3) := by decide +kernel
theorem dX4_buyOff_81 : decode cX4_buyOff 81 = .ok (.iload 8, 2) := by decide +kernel
theorem dX4_buyOff_83 : decode cX4_buyOff 83 = .ok (.iload 6, 2) := by decide +kernel
theorem dX4_buyOff_85 : decode cX4_buyOff 85 = .ok (.if_icmp .ge 22, 3) := by decide +kernel
theorem dX4_buyOff_88 : decode cX4_buyOff 88 = .ok (.aload_n 0, 1) := by decide +kernel
theorem dX4_buyOff_89 : decode cX4_buyOff 89 = .ok (.iload 7, 2) := by decide +kernel
theorem dX4_buyOff_91 : decode cX4_buyOff 91 = .ok (.iload_n 2, 1) := by decide +kernel
theorem dX4_buyOff_92 : decode cX4_buyOff 92 = .ok (.invokevirtual 206, 3) := by decide +kernel
theorem dX4_buyOff_95 : decode cX4_buyOff 95 = .ok (.iload_n 1, 1) := by decide +kernel
theorem dX4_buyOff_96 : decode cX4_buyOff 96 = .ok (.if_icmp .ne 11, 3) := by decide +kernel
theorem dX4_buyOff_99 : decode cX4_buyOff 99 = .ok (.iload 7, 2) := by decide +kernel
theorem dX4_buyOff_101 : decode cX4_buyOff 101 = .ok (.istore 5, 2) := by decide +kernel
theorem dX4_buyOff_103 : decode cX4_buyOff 103 = .ok (.iload 8, 2) := by decide +kernel
theorem dX4_buyOff_105 : decode cX4_buyOff 105 = .ok (.istore 6, 2) := by decide +kernel
theorem dX4_buyOff_107 : decode cX4_buyOff 107 = .ok (.iinc 7 1, 3) := by decide +kernel
theorem dX4_buyOff_110 : decode cX4_buyOff 110 = .ok (.goto (-53), 3) := by decide +kernel
theorem dX4_buyOff_113 : decode cX4_buyOff 113 = .ok (.iload_n 3, 1) := by decide +kernel
theorem dX4_buyOff_114 : decode cX4_buyOff 114 = .ok (.iconst 1, 1) := by decide +kernel
theorem dX4_buyOff_115 : decode cX4_buyOff 115 = .ok (.if_icmp .eq 10, 3) := by decide +kernel
theorem dX4_buyOff_118 : decode cX4_buyOff 118 = .ok (.iload 5, 2) := by decide +kernel
theorem dX4_buyOff_120 : decode cX4_buyOff 120 = .ok (.ldc 205, 2) := by decide +kernel
theorem dX4_buyOff_122 : decode cX4_buyOff 122 = .ok (.if_icmp .ne 8, 3) := by decide +kernel
theorem dX4_buyOff_125 : decode cX4_buyOff 125 = .ok (.iload 5, 2) := by decide +kernel
theorem dX4_buyOff_127 : decode cX4_buyOff 127 = .ok (.goto 5, 3) := by decide +kernel
theorem dX4_buyOff_130 : decode cX4_buyOff 130 = .ok (.iload 6, 2) := by decide +kernel
theorem dX4_buyOff_132 : decode cX4_buyOff 132 = .ok (.ireturn, 1) := by decide +kernel
set_option maxRecDepth 20000 in
theorem ggX4_holds_X4_noRoute : GoodIn wsX4_holds wsX4_noRoute := goodIn_r _ [9, 3, 4, 78, 79, 80, 81, 82, 83, 84, 85, 86, 87, 88, 89, 90, 91, 92, 93, 94, 95, 96, 97, 98, 99] (by decide +kernel) (by decide +kernel)
set_option maxRecDepth 20000 in
theorem gX4_holds_X4_noRoute : GoodIn wsX4_holds (wsV RX4 139 RX4 yX4_noRoute wsX4_noRoute) := goodIn_app (goodIn_of _ (by decide +kernel)) ggX4_holds_X4_noRoute
set_option maxRecDepth 20000 in
theorem ggX4_holds_X4_isWithin : GoodIn wsX4_holds wsX4_isWithin := goodIn_r _ [12] (by decide +kernel) (by decide +kernel)
set_option maxRecDepth 20000 in
theorem gX4_holds_X4_isWithin : GoodIn wsX4_holds (va_wsS RX4 198 yX4_isWithin wsX4_isWithin) := goodIn_app (goodIn_of _ (by decide +kernel)) ggX4_holds_X4_isWithin
set_option maxRecDepth 20000 in
theorem ggX4_holds_X1_openBits : GoodIn wsX4_holds wsX1_openBits := goodIn_r _ [17, 18, 19, 88, 89, 90, 91, 92, 93, 94, 95, 96, 97, 98, 99] (by decide +kernel) (by decide +kernel)
set_option maxRecDepth 20000 in
theorem gX4_holds_X1_openBits : GoodIn wsX4_holds (wsV RX4 169 RX1 yX1_openBits wsX1_openBits) := goodIn_app (goodIn_of _ (by decide +kernel)) ggX4_holds_X1_openBits
set_option maxRecDepth 20000 in
theorem ggX4_holds_X4_placeIfBought : GoodIn wsX4_holds wsX4_placeIfBought := goodIn_r _ [23, 24, 3, 4, 25, 26, 27, 28, 29, 16, 30, 31, 32, 33, 34, 18, 35, 36, 37, 38, 39, 40, 41, 42, 43, 44, 19, 45, 46, 47, 48, 49, 50, 51, 52, 53, 54, 55, 56, 57, 58, 59, 60, 61, 62, 63, 64, 65, 66, 67, 68, 69, 70, 71, 72, 73, 74, 75, 76, 77, 78, 79, 80, 81, 82, 83, 84, 85, 86, 87, 88, 89, 90, 91, 92, 93, 94, 95, 96, 97, 98, 99] (by decide +kernel) (by decide +kernel)
set_option maxRecDepth 20000 in
theorem gX4_holds_X4_placeIfBought : GoodIn wsX4_holds (wsV RX4 206 RX4 yX4_placeIfBought wsX4_placeIfBought) := goodIn_app (goodIn_of _ (by decide +kernel)) ggX4_holds_X4_placeIfBought
theorem dX4_holds_0 : decode cX4_holds 0 = .ok (.aload_n 0, 1) := by decide +kernel
theorem dX4_holds_1 : decode cX4_holds 1 = .ok (.invokevirtual 139, 3) := by decide +kernel
theorem dX4_holds_4 : decode cX4_holds 4 = .ok (.ifCond .eq 6, 3) := by decide +kernel
theorem dX4_holds_7 : decode cX4_holds 7 = .ok (.ldc 137, 2) := by decide +kernel
theorem dX4_holds_9 : decode cX4_holds 9 = .ok (.ireturn, 1) := by decide +kernel
theorem dX4_holds_10 : decode cX4_holds 10 = .ok (.iload_n 1, 1) := by decide +kernel
theorem dX4_holds_11 : decode cX4_holds 11 = .ok (.iconst 1, 1) := by decide +kernel
theorem dX4_holds_12 : decode cX4_holds 12 = .ok (.bipush 60, 2) := by decide +kernel
theorem dX4_holds_14 : decode cX4_holds 14 = .ok (.invokestatic 198, 3) := by decide +kernel
theorem dX4_holds_17 : decode cX4_holds 17 = .ok (.ifCond .ne 6, 3) := by decide +kernel
theorem dX4_holds_20 : decode cX4_holds 20 = .ok (.ldc 62, 2) := by decide +kernel
theorem dX4_holds_22 : decode cX4_holds 22 = .ok (.ireturn, 1) := by decide +kernel
theorem dX4_holds_23 : decode cX4_holds 23 = .ok (.aload_n 0, 1) := by decide +kernel
theorem dX4_holds_24 : decode cX4_holds 24 = .ok (.getfield 25, 3) := by decide +kernel
theorem dX4_holds_27 : decode cX4_holds 27 = .ok (.invokevirtual 169, 3) := by decide +kernel
theorem dX4_holds_30 : decode cX4_holds 30 = .ok (.istore_n 2, 1) := by decide +kernel
theorem dX4_holds_31 : decode cX4_holds 31 = .ok (.aload_n 0, 1) := by decide +kernel
theorem dX4_holds_32 : decode cX4_holds 32 = .ok (.iconst 0, 1) := by decide +kernel
theorem dX4_holds_33 : decode cX4_holds 33 = .ok (.iload_n 1, 1) := by decide +kernel
theorem dX4_holds_34 : decode cX4_holds 34 = .ok (.invokevirtual 206, 3) := by decide +kernel
theorem dX4_holds_37 : decode cX4_holds 37 = .ok (.istore_n 3, 1) := by decide +kernel
theorem dX4_holds_38 : decode cX4_holds 38 = .ok (.iconst 0, 1) := by decide +kernel
theorem dX4_holds_39 : decode cX4_holds 39 = .ok (.istore 4, 2) := by decide +kernel
theorem dX4_holds_41 : decode cX4_holds 41 = .ok (.iconst 0, 1) := by decide +kernel
theorem dX4_holds_42 : decode cX4_holds 42 = .ok (.istore 5, 2) := by decide +kernel
theorem dX4_holds_44 : decode cX4_holds 44 = .ok (.iload 5, 2) := by decide +kernel
theorem dX4_holds_46 : decode cX4_holds 46 = .ok (.aload_n 0, 1) := by decide +kernel
theorem dX4_holds_47 : decode cX4_holds 47 = .ok (.getfield 25, 3) := by decide +kernel
theorem dX4_holds_50 : decode cX4_holds 50 = .ok (.getfield 130, 3) := by decide +kernel
theorem dX4_holds_53 : decode cX4_holds 53 = .ok (.if_icmp .ge 40, 3) := by decide +kernel
theorem dX4_holds_56 : decode cX4_holds 56 = .ok (.iconst 1, 1) := by decide +kernel
theorem dX4_holds_57 : decode cX4_holds 57 = .ok (.iload 5, 2) := by decide +kernel
theorem dX4_holds_59 : decode cX4_holds 59 = .ok (.ishl, 1) := by decide +kernel
theorem dX4_holds_60 : decode cX4_holds 60 = .ok (.istore 6, 2) := by decide +kernel
theorem dX4_holds_62 : decode cX4_holds 62 = .ok (.iload_n 2, 1) := by decide +kernel
theorem dX4_holds_63 : decode cX4_holds 63 = .ok (.iload 6, 2) := by decide +kernel
theorem dX4_holds_65 : decode cX4_holds 65 = .ok (.iand, 1) := by decide +kernel
theorem dX4_holds_66 : decode cX4_holds 66 = .ok (.ifCond .eq 21, 3) := by decide +kernel
theorem dX4_holds_69 : decode cX4_holds 69 = .ok (.aload_n 0, 1) := by decide +kernel
theorem dX4_holds_70 : decode cX4_holds 70 = .ok (.iload 6, 2) := by decide +kernel
theorem dX4_holds_72 : decode cX4_holds 72 = .ok (.iload_n 1, 1) := by decide +kernel
theorem dX4_holds_73 : decode cX4_holds 73 = .ok (.invokevirtual 206, 3) := by decide +kernel
theorem dX4_holds_76 : decode cX4_holds 76 = .ok (.iload_n 3, 1) := by decide +kernel
theorem dX4_holds_77 : decode cX4_holds 77 = .ok (.if_icmp .eq 10, 3) := by decide +kernel
theorem dX4_holds_80 : decode cX4_holds 80 = .ok (.iload 4, 2) := by decide +kernel
theorem dX4_holds_82 : decode cX4_holds 82 = .ok (.iload 6, 2) := by decide +kernel
theorem dX4_holds_84 : decode cX4_holds 84 = .ok (.ior, 1) := by decide +kernel
theorem dX4_holds_85 : decode cX4_holds 85 = .ok (.istore 4, 2) := by decide +kernel
theorem dX4_holds_87 : decode cX4_holds 87 = .ok (.iinc 5 1, 3) := by decide +kernel
theorem dX4_holds_90 : decode cX4_holds 90 = .ok (.goto (-46), 3) := by decide +kernel
theorem dX4_holds_93 : decode cX4_holds 93 = .ok (.iload 4, 2) := by decide +kernel
theorem dX4_holds_95 : decode cX4_holds 95 = .ok (.ireturn, 1) := by decide +kernel
set_option maxRecDepth 20000 in
theorem ggX4_broke_X4_noRoute : GoodIn wsX4_broke wsX4_noRoute := goodIn_r _ [12, 4, 6, 95, 96, 97, 98, 99, 100, 101, 102, 103, 104, 105, 106, 107, 108, 109, 110, 111, 112, 113, 114, 115, 116] (by decide +kernel) (by decide +kernel)
set_option maxRecDepth 20000 in
theorem gX4_broke_X4_noRoute : GoodIn wsX4_broke (wsV RX4 139 RX4 yX4_noRoute wsX4_noRoute) := goodIn_app (goodIn_of _ (by decide +kernel)) ggX4_broke_X4_noRoute
set_option maxRecDepth 20000 in
theorem ggX4_broke_X4_isRow : GoodIn wsX4_broke wsX4_isRow := goodIn_r _ [15, 16, 17, 11, 18] (by decide +kernel) (by decide +kernel)
set_option maxRecDepth 20000 in
theorem gX4_broke_X4_isRow : GoodIn wsX4_broke (va_wsS RX4 58 yX4_isRow wsX4_isRow) := goodIn_app (goodIn_of _ (by decide +kernel)) ggX4_broke_X4_isRow
set_option maxRecDepth 20000 in
theorem ggX4_broke_X4_isWithin : GoodIn wsX4_broke wsX4_isWithin := goodIn_r _ [18] (by decide +kernel) (by decide +kernel)
set_option maxRecDepth 20000 in
theorem gX4_broke_X4_isWithin : GoodIn wsX4_broke (va_wsS RX4 198 yX4_isWithin wsX4_isWithin) := goodIn_app (goodIn_of _ (by decide +kernel)) ggX4_broke_X4_isWithin
set_option maxRecDepth 20000 in
theorem ggX4_broke_X4_findingOf : GoodIn wsX4_broke wsX4_findingOf := goodIn_r _ [22, 5, 23, 24, 25, 26, 27, 28, 29, 95, 96, 97, 98, 99, 100, 101, 102, 103, 104, 117, 118, 119, 120] (by decide +kernel) (by decide +kernel)
set_option maxRecDepth 20000 in
theorem gX4_broke_X4_findingOf : GoodIn wsX4_broke (wsV RX4 74 RX4 yX4_findingOf wsX4_findingOf) := goodIn_app (goodIn_of _ (by decide +kernel)) ggX4_broke_X4_findingOf
set_option maxRecDepth 20000 in
theorem ggX4_broke_X4_found : GoodIn wsX4_broke wsX4_found := goodIn_r _ [33, 34, 35, 95, 96, 97, 98, 99, 100, 101, 102, 103, 104] (by decide +kernel) (by decide +kernel)
set_option maxRecDepth 20000 in
theorem gX4_broke_X4_found : GoodIn wsX4_broke (wsV RX4 63 RX4 yX4_found wsX4_found) := goodIn_app (goodIn_of _ (by decide +kernel)) ggX4_broke_X4_found
set_option maxRecDepth 20000 in
theorem ggX4_broke_X1_become : GoodIn wsX4_broke wsX1_become := goodIn_r _ [40, 41, 42, 43, 44, 45, 46, 47, 48, 49, 50, 51, 52, 53, 54, 55, 56, 105, 106, 107, 108, 109, 110, 111, 112, 113, 114, 115, 116] (by decide +kernel) (by decide +kernel)
set_option maxRecDepth 20000 in
theorem gX4_broke_X1_become : GoodIn wsX4_broke (wsV RX4 123 RX1 yX1_become wsX1_become) := goodIn_app (goodIn_of _ (by decide +kernel)) ggX4_broke_X1_become
set_option maxRecDepth 20000 in
theorem ggX4_broke_X1_goesAlong : GoodIn wsX4_broke wsX1_goesAlong := goodIn_r _ [60, 41, 61, 62, 63, 64, 39, 65, 43, 66, 67, 68, 69, 53, 70, 71, 72, 73, 74, 45, 75, 76, 77, 78, 56, 44, 55, 48, 54, 79, 80, 81, 82, 83, 84, 85, 86, 47, 46, 87, 88, 89, 90, 105, 106, 107, 108, 109, 110, 111, 112, 113, 114, 115, 116, 117, 118, 119, 120] (by decide +kernel) (by decide +kernel)
set_option maxRecDepth 20000 in
theorem gX4_broke_X1_goesAlong : GoodIn wsX4_broke (wsV RX4 209 RX1 yX1_goesAlong wsX1_goesAlong) := goodIn_app (goodIn_of _ (by decide +kernel)) ggX4_broke_X1_goesAlong
set_option maxRecDepth 20000 in
theorem ggX4_broke_X4_unfound : GoodIn wsX4_broke wsX4_unfound := goodIn_r _ [94, 34, 95, 96, 97, 98, 99, 100, 101, 102, 103, 104] (by decide +kernel) (by decide +kernel)
set_option maxRecDepth 20000 in
theorem gX4_broke_X4_unfound : GoodIn wsX4_broke (wsV RX4 71 RX4 yX4_unfound wsX4_unfound) := goodIn_app (goodIn_of _ (by decide +kernel)) ggX4_broke_X4_unfound
theorem dX4_broke_0 : decode cX4_broke 0 = .ok (.aload_n 0, 1) := by decide +kernel
theorem dX4_broke_1 : decode cX4_broke 1 = .ok (.invokevirtual 139, 3) := by decide +kernel
theorem dX4_broke_4 : decode cX4_broke 4 = .ok (.ifCond .eq 6, 3) := by decide +kernel
theorem dX4_broke_7 : decode cX4_broke 7 = .ok (.ldc 137, 2) := by decide +kernel
theorem dX4_broke_9 : decode cX4_broke 9 = .ok (.ireturn, 1) := by decide +kernel
theorem dX4_broke_10 : decode cX4_broke 10 = .ok (.iload_n 1, 1) := by decide +kernel
theorem dX4_broke_11 : decode cX4_broke 11 = .ok (.invokestatic 58, 3) := by decide +kernel
theorem dX4_broke_14 : decode cX4_broke 14 = .ok (.ifCond .eq 13, 3) := by decide +kernel
theorem dX4_broke_17 : decode cX4_broke 17 = .ok (.iload_n 3, 1) := by decide +kernel
theorem dX4_broke_18 : decode cX4_broke 18 = .ok (.iconst 1, 1) := by decide +kernel
theorem dX4_broke_19 : decode cX4_broke 19 = .ok (.bipush 12, 2) := by decide +kernel
theorem dX4_broke_21 : decode cX4_broke 21 = .ok (.invokestatic 198, 3) := by decide +kernel
theorem dX4_broke_24 : decode cX4_broke 24 = .ok (.ifCond .ne 6, 3) := by decide +kernel
theorem dX4_broke_27 : decode cX4_broke 27 = .ok (.ldc 62, 2) := by decide +kernel
theorem dX4_broke_29 : decode cX4_broke 29 = .ok (.ireturn, 1) := by decide +kernel
theorem dX4_broke_30 : decode cX4_broke 30 = .ok (.aload_n 0, 1) := by decide +kernel
theorem dX4_broke_31 : decode cX4_broke 31 = .ok (.iload_n 1, 1) := by decide +kernel
theorem dX4_broke_32 : decode cX4_broke 32 = .ok (.iload_n 2, 1) := by decide +kernel
theorem dX4_broke_33 : decode cX4_broke 33 = .ok (.iload_n 3, 1) := by decide +kernel
theorem dX4_broke_34 : decode cX4_broke 34 = .ok (.invokevirtual 74, 3) := by decide +kernel
theorem dX4_broke_37 : decode cX4_broke 37 = .ok (.istore 4, 2) := by decide +kernel
theorem dX4_broke_39 : decode cX4_broke 39 = .ok (.iload 4, 2) := by decide +kernel
theorem dX4_broke_41 : decode cX4_broke 41 = .ok (.ifCond .eq 10, 3) := by decide +kernel
theorem dX4_broke_44 : decode cX4_broke 44 = .ok (.aload_n 0, 1) := by decide +kernel
theorem dX4_broke_45 : decode cX4_broke 45 = .ok (.iload 4, 2) := by decide +kernel
theorem dX4_broke_47 : decode cX4_broke 47 = .ok (.invokevirtual 63, 3) := by decide +kernel
theorem dX4_broke_50 : decode cX4_broke 50 = .ok (.ireturn, 1) := by decide +kernel
theorem dX4_broke_51 : decode cX4_broke 51 = .ok (.aload_n 0, 1) := by decide +kernel
theorem dX4_broke_52 : decode cX4_broke 52 = .ok (.getfield 29, 3) := by decide +kernel
theorem dX4_broke_55 : decode cX4_broke 55 = .ok (.aload_n 0, 1) := by decide +kernel
theorem dX4_broke_56 : decode cX4_broke 56 = .ok (.getfield 25, 3) := by decide +kernel
theorem dX4_broke_59 : decode cX4_broke 59 = .ok (.invokevirtual 123, 3) := by decide +kernel
theorem dX4_broke_62 : decode cX4_broke 62 = .ok (.aload_n 0, 1) := by decide +kernel
theorem dX4_broke_63 : decode cX4_broke 63 = .ok (.getfield 29, 3) := by decide +kernel
theorem dX4_broke_66 : decode cX4_broke 66 = .ok (.aload_n 0, 1) := by decide +kernel
theorem dX4_broke_67 : decode cX4_broke 67 = .ok (.getfield 11, 3) := by decide +kernel
theorem dX4_broke_70 : decode cX4_broke 70 = .ok (.iload_n 1, 1) := by decide +kernel
theorem dX4_broke_71 : decode cX4_broke 71 = .ok (.aaload, 1) := by decide +kernel
theorem dX4_broke_72 : decode cX4_broke 72 = .ok (.iload_n 2, 1) := by decide +kernel
theorem dX4_broke_73 : decode cX4_broke 73 = .ok (.iload_n 3, 1) := by decide +kernel
theorem dX4_broke_74 : decode cX4_broke 74 = .ok (.invokevirtual 209, 3) := by decide +kernel
theorem dX4_broke_77 : decode cX4_broke 77 = .ok (.ifCond .eq 9, 3) := by decide +kernel
theorem dX4_broke_80 : decode cX4_broke 80 = .ok (.sipush 128, 3) := by decide +kernel
theorem dX4_broke_83 : decode cX4_broke 83 = .ok (.goto 4, 3) := by decide +kernel
theorem dX4_broke_86 : decode cX4_broke 86 = .ok (.iconst 0, 1) := by decide +kernel
theorem dX4_broke_87 : decode cX4_broke 87 = .ok (.istore 5, 2) := by decide +kernel
theorem dX4_broke_89 : decode cX4_broke 89 = .ok (.iconst 0, 1) := by decide +kernel
theorem dX4_broke_90 : decode cX4_broke 90 = .ok (.istore 6, 2) := by decide +kernel
theorem dX4_broke_92 : decode cX4_broke 92 = .ok (.iload 6, 2) := by decide +kernel
theorem dX4_broke_94 : decode cX4_broke 94 = .ok (.aload_n 0, 1) := by decide +kernel
theorem dX4_broke_95 : decode cX4_broke 95 = .ok (.getfield 25, 3) := by decide +kernel
theorem dX4_broke_98 : decode cX4_broke 98 = .ok (.getfield 130, 3) := by decide +kernel
theorem dX4_broke_101 : decode cX4_broke 101 = .ok (.if_icmp .ge 75, 3) := by decide +kernel
theorem dX4_broke_104 : decode cX4_broke 104 = .ok (.aload_n 0, 1) := by decide +kernel
theorem dX4_broke_105 : decode cX4_broke 105 = .ok (.getfield 25, 3) := by decide +kernel
theorem dX4_broke_108 : decode cX4_broke 108 = .ok (.getfield 166, 3) := by decide +kernel
theorem dX4_broke_111 : decode cX4_broke 111 = .ok (.iload 6, 2) := by decide +kernel
theorem dX4_broke_113 : decode cX4_broke 113 = .ok (.iaload, 1) := by decide +kernel
theorem dX4_broke_114 : decode cX4_broke 114 = .ok (.ifCond .ne 56, 3) := by decide +kernel
theorem dX4_broke_117 : decode cX4_broke 117 = .ok (.aload_n 0, 1) := by decide +kernel
theorem dX4_broke_118 : decode cX4_broke 118 = .ok (.getfield 29, 3) := by decide +kernel
theorem dX4_broke_121 : decode cX4_broke 121 = .ok (.aload_n 0, 1) := by decide +kernel
theorem dX4_broke_122 : decode cX4_broke 122 = .ok (.getfield 25, 3) := by decide +kernel
theorem dX4_broke_125 : decode cX4_broke 125 = .ok (.invokevirtual 123, 3) := by decide +kernel
theorem dX4_broke_128 : decode cX4_broke 128 = .ok (.aload_n 0, 1) := by decide +kernel
theorem dX4_broke_129 : decode cX4_broke 129 = .ok (.getfield 29, 3) := by decide +kernel
theorem dX4_broke_132 : decode cX4_broke 132 = .ok (.getfield 166, 3) := by decide +kernel
theorem dX4_broke_135 : decode cX4_broke 135 = .ok (.iload 6, 2) := by decide +kernel
theorem dX4_broke_137 : decode cX4_broke 137 = .ok (.iconst 3, 1) := by decide +kernel
theorem dX4_broke_138 : decode cX4_broke 138 = .ok (.iastore, 1) := by decide +kernel
theorem dX4_broke_139 : decode cX4_broke 139 = .ok (.iload 5, 2) := by decide +kernel
theorem dX4_broke_141 : decode cX4_broke 141 = .ok (.aload_n 0, 1) := by decide +kernel
theorem dX4_broke_142 : decode cX4_broke 142 = .ok (.getfield 29, 3) := by decide +kernel
theorem dX4_broke_145 : decode cX4_broke 145 = .ok (.aload_n 0, 1) := by decide +kernel
theorem dX4_broke_146 : decode cX4_broke 146 = .ok (.getfield 11, 3) := by decide +kernel
theorem dX4_broke_149 : decode cX4_broke 149 = .ok (.iload_n 1, 1) := by decide +kernel
theorem dX4_broke_150 : decode cX4_broke 150 = .ok (.aaload, 1) := by decide +kernel
theorem dX4_broke_151 : decode cX4_broke 151 = .ok (.iload_n 2, 1) := by decide +kernel
theorem dX4_broke_152 : decode cX4_broke 152 = .ok (.iload_n 3, 1) := by decide +kernel
theorem dX4_broke_153 : decode cX4_broke 153 = .ok (.invokevirtual 209, 3) := by decide +kernel
theorem dX4_broke_156 : decode cX4_broke 156 = .ok (.ifCond .eq 10, 3) := by decide +kernel
theorem dX4_broke_159 : decode cX4_broke 159 = .ok (.iconst 1, 1) := by decide +kernel
theorem dX4_broke_160 : decode cX4_broke 160 = .ok (.iload 6, 2) := by decide +kernel
theorem dX4_broke_162 : decode cX4_broke 162 = .ok (.ishl, 1) := by decide +kernel
theorem dX4_broke_163 : decode cX4_broke 163 = .ok (.goto 4, 3) := by decide +kernel
theorem dX4_broke_166 : decode cX4_broke 166 = .ok (.iconst 0, 1) := by decide +kernel
theorem dX4_broke_167 : decode cX4_broke 167 = .ok (.ior, 1) := by decide +kernel
theorem dX4_broke_168 : decode cX4_broke 168 = .ok (.istore 5, 2) := by decide +kernel
theorem dX4_broke_170 : decode cX4_broke 170 = .ok (.iinc 6 1, 3) := by decide +kernel
theorem dX4_broke_173 : decode cX4_broke 173 = .ok (.goto (-81), 3) := by decide +kernel
theorem dX4_broke_176 : decode cX4_broke 176 = .ok (.aload_n 0, 1) := by decide +kernel
theorem dX4_broke_177 : decode cX4_broke 177 = .ok (.iload 5, 2) := by decide +kernel
theorem dX4_broke_179 : decode cX4_broke 179 = .ok (.invokevirtual 71, 3) := by decide +kernel
theorem dX4_broke_182 : decode cX4_broke 182 = .ok (.ireturn, 1) := by decide +kernel
set_option maxRecDepth 20000 in
theorem ggX4_sworn_X4_isOath : GoodIn wsX4_sworn wsX4_isOath := goodIn_r _ [12, 2, 13, 96, 97, 98, 99, 100, 101, 102, 103, 104, 105, 106, 107, 108, 109, 110, 111, 112, 113, 114, 115, 116, 117] (by decide +kernel) (by decide +kernel)
set_option maxRecDepth 20000 in
theorem gX4_sworn_X4_isOath : GoodIn wsX4_sworn (wsV RX4 153 RX4 yX4_isOath wsX4_isOath) := goodIn_app (goodIn_of _ (by decide +kernel)) ggX4_sworn_X4_isOath
set_option maxRecDepth 20000 in
theorem ggX4_sworn_X4_isRow : GoodIn wsX4_sworn wsX4_isRow := goodIn_r _ [16, 17, 18, 11, 19] (by decide +kernel) (by decide +kernel)
set_option maxRecDepth 20000 in
theorem gX4_sworn_X4_isRow : GoodIn wsX4_sworn (va_wsS RX4 58 yX4_isRow wsX4_isRow) := goodIn_app (goodIn_of _ (by decide +kernel)) ggX4_sworn_X4_isRow
set_option maxRecDepth 20000 in
theorem ggX4_sworn_X4_isWithin : GoodIn wsX4_sworn wsX4_isWithin := goodIn_r _ [19] (by decide +kernel) (by decide +kernel)
set_option maxRecDepth 20000 in
theorem gX4_sworn_X4_isWithin : GoodIn wsX4_sworn (va_wsS RX4 198 yX4_isWithin wsX4_isWithin) := goodIn_app (goodIn_of _ (by decide +kernel)) ggX4_sworn_X4_isWithin
set_option maxRecDepth 20000 in
theorem ggX4_sworn_X4_findingOf : GoodIn wsX4_sworn wsX4_findingOf := goodIn_r _ [23, 7, 24, 25, 26, 27, 28, 29, 30, 96, 97, 98, 99, 100, 101, 102, 103, 104, 105, 118, 119, 120, 121] (by decide +kernel) (by decide +kernel)
set_option maxRecDepth 20000 in
theorem gX4_sworn_X4_findingOf : GoodIn wsX4_sworn (wsV RX4 74 RX4 yX4_findingOf wsX4_findingOf) := goodIn_app (goodIn_of _ (by decide +kernel)) ggX4_sworn_X4_findingOf
set_option maxRecDepth 20000 in
theorem ggX4_sworn_X4_found : GoodIn wsX4_sworn wsX4_found := goodIn_r _ [34, 35, 36, 96, 97, 98, 99, 100, 101, 102, 103, 104, 105] (by decide +kernel) (by decide +kernel)
set_option maxRecDepth 20000 in
theorem gX4_sworn_X4_found : GoodIn wsX4_sworn (wsV RX4 63 RX4 yX4_found wsX4_found) := goodIn_app (goodIn_of _ (by decide +kernel)) ggX4_sworn_X4_found
set_option maxRecDepth 20000 in
theorem ggX4_sworn_X1_become : GoodIn wsX4_sworn wsX1_become := goodIn_r _ [41, 42, 43, 44, 45, 46, 47, 48, 49, 50, 51, 52, 53, 54, 55, 56, 57, 106, 107, 108, 109, 110, 111, 112, 113, 114, 115, 116, 117] (by decide +kernel) (by decide +kernel)
set_option maxRecDepth 20000 in
theorem gX4_sworn_X1_become : GoodIn wsX4_sworn (wsV RX4 123 RX1 yX1_become wsX1_become) := goodIn_app (goodIn_of _ (by decide +kernel)) ggX4_sworn_X1_become
set_option maxRecDepth 20000 in
theorem ggX4_sworn_X1_goesAlong : GoodIn wsX4_sworn wsX1_goesAlong := goodIn_r _ [61, 42, 62, 63, 64, 65, 40, 66, 44, 67, 68, 69, 70, 54, 71, 72, 73, 74, 75, 46, 76, 77, 78, 79, 57, 45, 56, 49, 55, 80, 81, 82, 83, 84, 85, 86, 87, 48, 47, 88, 89, 90, 91, 106, 107, 108, 109, 110, 111, 112, 113, 114, 115, 116, 117, 118, 119, 120, 121] (by decide +kernel) (by decide +kernel)
set_option maxRecDepth 20000 in
theorem gX4_sworn_X1_goesAlong : GoodIn wsX4_sworn (wsV RX4 209 RX1 yX1_goesAlong wsX1_goesAlong) := goodIn_app (goodIn_of _ (by decide +kernel)) ggX4_sworn_X1_goesAlong
set_option maxRecDepth 20000 in
theorem ggX4_sworn_X4_unfound : GoodIn wsX4_sworn wsX4_unfound := goodIn_r _ [95, 35, 96, 97, 98, 99, 100, 101, 102, 103, 104, 105] (by decide +kernel) (by decide +kernel)
set_option maxRecDepth 20000 in
theorem gX4_sworn_X4_unfound : GoodIn wsX4_sworn (wsV RX4 71 RX4 yX4_unfound wsX4_unfound) := goodIn_app (goodIn_of _ (by decide +kernel)) ggX4_sworn_X4_unfound
theorem dX4_sworn_0 : decode cX4_sworn 0 = .ok (.aload_n 0, 1) := by decide +kernel
theorem dX4_sworn_1 : decode cX4_sworn 1 = .ok (.iload_n 1, 1) := by decide +kernel
theorem dX4_sworn_2 : decode cX4_sworn 2 = .ok (.invokevirtual 153, 3) := by decide +kernel
theorem dX4_sworn_5 : decode cX4_sworn 5 = .ok (.ifCond .eq 21, 3) := by decide +kernel
theorem dX4_sworn_8 : decode cX4_sworn 8 = .ok (.iload_n 2, 1) := by decide +kernel
theorem dX4_sworn_9 : decode cX4_sworn 9 = .ok (.invokestatic 58, 3) := by decide +kernel
theorem dX4_sworn_12 : decode cX4_sworn 12 = .ok (.ifCond .eq 14, 3) := by decide +kernel
theorem dX4_sworn_15 : decode cX4_sworn 15 = .ok (.iload 4, 2) := by decide +kernel
theorem dX4_sworn_17 : decode cX4_sworn 17 = .ok (.iconst 1, 1) := by decide +kernel
theorem dX4_sworn_18 : decode cX4_sworn 18 = .ok (.bipush 12, 2) := by decide +kernel
theorem dX4_sworn_20 : decode cX4_sworn 20 = .ok (.invokestatic 198, 3) := by decide +kernel
theorem dX4_sworn_23 : decode cX4_sworn 23 = .ok (.ifCond .ne 6, 3) := by decide +kernel
theorem dX4_sworn_26 : decode cX4_sworn 26 = .ok (.ldc 62, 2) := by decide +kernel
theorem dX4_sworn_28 : decode cX4_sworn 28 = .ok (.ireturn, 1) := by decide +kernel
theorem dX4_sworn_29 : decode cX4_sworn 29 = .ok (.aload_n 0, 1) := by decide +kernel
theorem dX4_sworn_30 : decode cX4_sworn 30 = .ok (.iload_n 2, 1) := by decide +kernel
theorem dX4_sworn_31 : decode cX4_sworn 31 = .ok (.iload_n 3, 1) := by decide +kernel
theorem dX4_sworn_32 : decode cX4_sworn 32 = .ok (.iload 4, 2) := by decide +kernel
theorem dX4_sworn_34 : decode cX4_sworn 34 = .ok (.invokevirtual 74, 3) := by decide +kernel
theorem dX4_sworn_37 : decode cX4_sworn 37 = .ok (.istore 5, 2) := by decide +kernel
theorem dX4_sworn_39 : decode cX4_sworn 39 = .ok (.iload 5, 2) := by decide +kernel
theorem dX4_sworn_41 : decode cX4_sworn 41 = .ok (.ifCond .eq 10, 3) := by decide +kernel
theorem dX4_sworn_44 : decode cX4_sworn 44 = .ok (.aload_n 0, 1) := by decide +kernel
theorem dX4_sworn_45 : decode cX4_sworn 45 = .ok (.iload 5, 2) := by decide +kernel
theorem dX4_sworn_47 : decode cX4_sworn 47 = .ok (.invokevirtual 63, 3) := by decide +kernel
theorem dX4_sworn_50 : decode cX4_sworn 50 = .ok (.ireturn, 1) := by decide +kernel
theorem dX4_sworn_51 : decode cX4_sworn 51 = .ok (.aload_n 0, 1) := by decide +kernel
theorem dX4_sworn_52 : decode cX4_sworn 52 = .ok (.getfield 25, 3) := by decide +kernel
theorem dX4_sworn_55 : decode cX4_sworn 55 = .ok (.getfield 166, 3) := by decide +kernel
theorem dX4_sworn_58 : decode cX4_sworn 58 = .ok (.iload_n 1, 1) := by decide +kernel
theorem dX4_sworn_59 : decode cX4_sworn 59 = .ok (.iaload, 1) := by decide +kernel
theorem dX4_sworn_60 : decode cX4_sworn 60 = .ok (.ifCond .eq 6, 3) := by decide +kernel
theorem dX4_sworn_63 : decode cX4_sworn 63 = .ok (.ldc 137, 2) := by decide +kernel
theorem dX4_sworn_65 : decode cX4_sworn 65 = .ok (.ireturn, 1) := by decide +kernel
theorem dX4_sworn_66 : decode cX4_sworn 66 = .ok (.iconst 0, 1) := by decide +kernel
theorem dX4_sworn_67 : decode cX4_sworn 67 = .ok (.istore 6, 2) := by decide +kernel
theorem dX4_sworn_69 : decode cX4_sworn 69 = .ok (.iconst 0, 1) := by decide +kernel
theorem dX4_sworn_70 : decode cX4_sworn 70 = .ok (.istore 7, 2) := by decide +kernel
theorem dX4_sworn_72 : decode cX4_sworn 72 = .ok (.iload 7, 2) := by decide +kernel
theorem dX4_sworn_74 : decode cX4_sworn 74 = .ok (.bipush 10, 2) := by decide +kernel
theorem dX4_sworn_76 : decode cX4_sworn 76 = .ok (.if_icmp .ge 63, 3) := by decide +kernel
theorem dX4_sworn_79 : decode cX4_sworn 79 = .ok (.aload_n 0, 1) := by decide +kernel
theorem dX4_sworn_80 : decode cX4_sworn 80 = .ok (.getfield 29, 3) := by decide +kernel
theorem dX4_sworn_83 : decode cX4_sworn 83 = .ok (.aload_n 0, 1) := by decide +kernel
theorem dX4_sworn_84 : decode cX4_sworn 84 = .ok (.getfield 25, 3) := by decide +kernel
theorem dX4_sworn_87 : decode cX4_sworn 87 = .ok (.invokevirtual 123, 3) := by decide +kernel
theorem dX4_sworn_90 : decode cX4_sworn 90 = .ok (.aload_n 0, 1) := by decide +kernel
theorem dX4_sworn_91 : decode cX4_sworn 91 = .ok (.getfield 29, 3) := by decide +kernel
theorem dX4_sworn_94 : decode cX4_sworn 94 = .ok (.getfield 183, 3) := by decide +kernel
theorem dX4_sworn_97 : decode cX4_sworn 97 = .ok (.iload_n 1, 1) := by decide +kernel
theorem dX4_sworn_98 : decode cX4_sworn 98 = .ok (.iload 7, 2) := by decide +kernel
theorem dX4_sworn_100 : decode cX4_sworn 100 = .ok (.iastore, 1) := by decide +kernel
theorem dX4_sworn_101 : decode cX4_sworn 101 = .ok (.iload 6, 2) := by decide +kernel
theorem dX4_sworn_103 : decode cX4_sworn 103 = .ok (.aload_n 0, 1) := by decide +kernel
theorem dX4_sworn_104 : decode cX4_sworn 104 = .ok (.getfield 29, 3) := by decide +kernel
theorem dX4_sworn_107 : decode cX4_sworn 107 = .ok (.aload_n 0, 1) := by decide +kernel
theorem dX4_sworn_108 : decode cX4_sworn 108 = .ok (.getfield 11, 3) := by decide +kernel
theorem dX4_sworn_111 : decode cX4_sworn 111 = .ok (.iload_n 2, 1) := by decide +kernel
theorem dX4_sworn_112 : decode cX4_sworn 112 = .ok (.aaload, 1) := by decide +kernel
theorem dX4_sworn_113 : decode cX4_sworn 113 = .ok (.iload_n 3, 1) := by decide +kernel
theorem dX4_sworn_114 : decode cX4_sworn 114 = .ok (.iload 4, 2) := by decide +kernel
theorem dX4_sworn_116 : decode cX4_sworn 116 = .ok (.invokevirtual 209, 3) := by decide +kernel
theorem dX4_sworn_119 : decode cX4_sworn 119 = .ok (.ifCond .eq 10, 3) := by decide +kernel
theorem dX4_sworn_122 : decode cX4_sworn 122 = .ok (.iconst 1, 1) := by decide +kernel
theorem dX4_sworn_123 : decode cX4_sworn 123 = .ok (.iload 7, 2) := by decide +kernel
theorem dX4_sworn_125 : decode cX4_sworn 125 = .ok (.ishl, 1) := by decide +kernel
theorem dX4_sworn_126 : decode cX4_sworn 126 = .ok (.goto 4, 3) := by decide +kernel
theorem dX4_sworn_129 : decode cX4_sworn 129 = .ok (.iconst 0, 1) := by decide +kernel
theorem dX4_sworn_130 : decode cX4_sworn 130 = .ok (.ior, 1) := by decide +kernel
theorem dX4_sworn_131 : decode cX4_sworn 131 = .ok (.istore 6, 2) := by decide +kernel
theorem dX4_sworn_133 : decode cX4_sworn 133 = .ok (.iinc 7 1, 3) := by decide +kernel
theorem dX4_sworn_136 : decode cX4_sworn 136 = .ok (.goto (-64), 3) := by decide +kernel
theorem dX4_sworn_139 : decode cX4_sworn 139 = .ok (.aload_n 0, 1) := by decide +kernel
theorem dX4_sworn_140 : decode cX4_sworn 140 = .ok (.iload 6, 2) := by decide +kernel
theorem dX4_sworn_142 : decode cX4_sworn 142 = .ok (.invokevirtual 71, 3) := by decide +kernel
theorem dX4_sworn_145 : decode cX4_sworn 145 = .ok (.ireturn, 1) := by decide +kernel
set_option maxRecDepth 20000 in
theorem ggX4_who_X4_isOath : GoodIn wsX4_who wsX4_isOath := goodIn_r _ [10, 3, 11, 94, 95, 96, 97, 98, 99, 100, 101, 102, 103, 104, 105, 106, 107, 108, 109, 110, 111, 112, 113, 114, 115] (by decide +kernel) (by decide +kernel)
set_option maxRecDepth 20000 in
theorem gX4_who_X4_isOath : GoodIn wsX4_who (wsV RX4 153 RX4 yX4_isOath wsX4_isOath) := goodIn_app (goodIn_of _ (by decide +kernel)) ggX4_who_X4_isOath
set_option maxRecDepth 20000 in
theorem ggX4_who_X4_isRow : GoodIn wsX4_who wsX4_isRow := goodIn_r _ [14, 15, 16, 9, 17] (by decide +kernel) (by decide +kernel)
set_option maxRecDepth 20000 in
theorem gX4_who_X4_isRow : GoodIn wsX4_who (va_wsS RX4 58 yX4_isRow wsX4_isRow) := goodIn_app (goodIn_of _ (by decide +kernel)) ggX4_who_X4_isRow
set_option maxRecDepth 20000 in
theorem ggX4_who_X4_isWithin : GoodIn wsX4_who wsX4_isWithin := goodIn_r _ [17] (by decide +kernel) (by decide +kernel)
set_option maxRecDepth 20000 in
theorem gX4_who_X4_isWithin : GoodIn wsX4_who (va_wsS RX4 198 yX4_isWithin wsX4_isWithin) := goodIn_app (goodIn_of _ (by decide +kernel)) ggX4_who_X4_isWithin
set_option maxRecDepth 20000 in
theorem ggX4_who_X4_findingOf : GoodIn wsX4_who wsX4_findingOf := goodIn_r _ [21, 5, 22, 23, 24, 25, 26, 27, 28, 94, 95, 96, 97, 98, 99, 100, 101, 102, 103, 116, 117, 118, 119] (by decide +kernel) (by decide +kernel)
set_option maxRecDepth 20000 in
theorem gX4_who_X4_findingOf : GoodIn wsX4_who (wsV RX4 74 RX4 yX4_findingOf wsX4_findingOf) := goodIn_app (goodIn_of _ (by decide +kernel)) ggX4_who_X4_findingOf
set_option maxRecDepth 20000 in
theorem ggX4_who_X4_found : GoodIn wsX4_who wsX4_found := goodIn_r _ [32, 33, 34, 94, 95, 96, 97, 98, 99, 100, 101, 102, 103] (by decide +kernel) (by decide +kernel)
set_option maxRecDepth 20000 in
theorem gX4_who_X4_found : GoodIn wsX4_who (wsV RX4 63 RX4 yX4_found wsX4_found) := goodIn_app (goodIn_of _ (by decide +kernel)) ggX4_who_X4_found
set_option maxRecDepth 20000 in
theorem ggX4_who_X1_become : GoodIn wsX4_who wsX1_become := goodIn_r _ [39, 40, 41, 42, 43, 44, 45, 46, 47, 48, 49, 50, 51, 52, 53, 54, 55, 104, 105, 106, 107, 108, 109, 110, 111, 112, 113, 114, 115] (by decide +kernel) (by decide +kernel)
set_option maxRecDepth 20000 in
theorem gX4_who_X1_become : GoodIn wsX4_who (wsV RX4 123 RX1 yX1_become wsX1_become) := goodIn_app (goodIn_of _ (by decide +kernel)) ggX4_who_X1_become
set_option maxRecDepth 20000 in
theorem ggX4_who_X1_goesAlong : GoodIn wsX4_who wsX1_goesAlong := goodIn_r _ [59, 40, 60, 61, 62, 63, 38, 64, 42, 65, 66, 67, 68, 52, 69, 70, 71, 72, 73, 44, 74, 75, 76, 77, 55, 43, 54, 47, 53, 78, 79, 80, 81, 82, 83, 84, 85, 46, 45, 86, 87, 88, 89, 104, 105, 106, 107, 108, 109, 110, 111, 112, 113, 114, 115, 116, 117, 118, 119] (by decide +kernel) (by decide +kernel)
set_option maxRecDepth 20000 in
theorem gX4_who_X1_goesAlong : GoodIn wsX4_who (wsV RX4 209 RX1 yX1_goesAlong wsX1_goesAlong) := goodIn_app (goodIn_of _ (by decide +kernel)) ggX4_who_X1_goesAlong
set_option maxRecDepth 20000 in
theorem ggX4_who_X4_unfound : GoodIn wsX4_who wsX4_unfound := goodIn_r _ [93, 33, 94, 95, 96, 97, 98, 99, 100, 101, 102, 103] (by decide +kernel) (by decide +kernel)
set_option maxRecDepth 20000 in
theorem gX4_who_X4_unfound : GoodIn wsX4_who (wsV RX4 71 RX4 yX4_unfound wsX4_unfound) := goodIn_app (goodIn_of _ (by decide +kernel)) ggX4_who_X4_unfound
theorem dX4_who_0 : decode cX4_who 0 = .ok (.aload_n 0, 1) := by decide +kernel
theorem dX4_who_1 : decode cX4_who 1 = .ok (.iload_n 1, 1) := by decide +kernel
theorem dX4_who_2 : decode cX4_who 2 = .ok (.invokevirtual 153, 3) := by decide +kernel
theorem dX4_who_5 : decode cX4_who 5 = .ok (.ifCond .eq 21, 3) := by decide +kernel
theorem dX4_who_8 : decode cX4_who 8 = .ok (.iload_n 2, 1) := by decide +kernel
theorem dX4_who_9 : decode cX4_who 9 = .ok (.invokestatic 58, 3) := by decide +kernel
theorem dX4_who_12 : decode cX4_who 12 = .ok (.ifCond .eq 14, 3) := by decide +kernel
theorem dX4_who_15 : decode cX4_who 15 = .ok (.iload 4, 2) := by decide +kernel
theorem dX4_who_17 : decode cX4_who 17 = .ok (.iconst 1, 1) := by decide +kernel
theorem dX4_who_18 : decode cX4_who 18 = .ok (.bipush 12, 2) := by decide +kernel
theorem dX4_who_20 : decode cX4_who 20 = .ok (.invokestatic 198, 3) := by decide +kernel
theorem dX4_who_23 : decode cX4_who 23 = .ok (.ifCond .ne 6, 3) := by decide +kernel
theorem dX4_who_26 : decode cX4_who 26 = .ok (.ldc 62, 2) := by decide +kernel
theorem dX4_who_28 : decode cX4_who 28 = .ok (.ireturn, 1) := by decide +kernel
theorem dX4_who_29 : decode cX4_who 29 = .ok (.aload_n 0, 1) := by decide +kernel
theorem dX4_who_30 : decode cX4_who 30 = .ok (.iload_n 2, 1) := by decide +kernel
theorem dX4_who_31 : decode cX4_who 31 = .ok (.iload_n 3, 1) := by decide +kernel
theorem dX4_who_32 : decode cX4_who 32 = .ok (.iload 4, 2) := by decide +kernel
theorem dX4_who_34 : decode cX4_who 34 = .ok (.invokevirtual 74, 3) := by decide +kernel
theorem dX4_who_37 : decode cX4_who 37 = .ok (.istore 5, 2) := by decide +kernel
theorem dX4_who_39 : decode cX4_who 39 = .ok (.iload 5, 2) := by decide +kernel
theorem dX4_who_41 : decode cX4_who 41 = .ok (.ifCond .eq 10, 3) := by decide +kernel
theorem dX4_who_44 : decode cX4_who 44 = .ok (.aload_n 0, 1) := by decide +kernel
theorem dX4_who_45 : decode cX4_who 45 = .ok (.iload 5, 2) := by decide +kernel
theorem dX4_who_47 : decode cX4_who 47 = .ok (.invokevirtual 63, 3) := by decide +kernel
theorem dX4_who_50 : decode cX4_who 50 = .ok (.ireturn, 1) := by decide +kernel
theorem dX4_who_51 : decode cX4_who 51 = .ok (.iconst 0, 1) := by decide +kernel
theorem dX4_who_52 : decode cX4_who 52 = .ok (.istore 6, 2) := by decide +kernel
theorem dX4_who_54 : decode cX4_who 54 = .ok (.iconst 1, 1) := by decide +kernel
theorem dX4_who_55 : decode cX4_who 55 = .ok (.istore 7, 2) := by decide +kernel
theorem dX4_who_57 : decode cX4_who 57 = .ok (.iload 7, 2) := by decide +kernel
theorem dX4_who_59 : decode cX4_who 59 = .ok (.bipush 6, 2) := by decide +kernel
theorem dX4_who_61 : decode cX4_who 61 = .ok (.if_icmp .ge 63, 3) := by decide +kernel
theorem dX4_who_64 : decode cX4_who 64 = .ok (.aload_n 0, 1) := by decide +kernel
theorem dX4_who_65 : decode cX4_who 65 = .ok (.getfield 29, 3) := by decide +kernel
theorem dX4_who_68 : decode cX4_who 68 = .ok (.aload_n 0, 1) := by decide +kernel
theorem dX4_who_69 : decode cX4_who 69 = .ok (.getfield 25, 3) := by decide +kernel
theorem dX4_who_72 : decode cX4_who 72 = .ok (.invokevirtual 123, 3) := by decide +kernel
theorem dX4_who_75 : decode cX4_who 75 = .ok (.aload_n 0, 1) := by decide +kernel
theorem dX4_who_76 : decode cX4_who 76 = .ok (.getfield 29, 3) := by decide +kernel
theorem dX4_who_79 : decode cX4_who 79 = .ok (.getfield 213, 3) := by decide +kernel
theorem dX4_who_82 : decode cX4_who 82 = .ok (.iload_n 1, 1) := by decide +kernel
theorem dX4_who_83 : decode cX4_who 83 = .ok (.iload 7, 2) := by decide +kernel
theorem dX4_who_85 : decode cX4_who 85 = .ok (.iastore, 1) := by decide +kernel
theorem dX4_who_86 : decode cX4_who 86 = .ok (.iload 6, 2) := by decide +kernel
theorem dX4_who_88 : decode cX4_who 88 = .ok (.aload_n 0, 1) := by decide +kernel
theorem dX4_who_89 : decode cX4_who 89 = .ok (.getfield 29, 3) := by decide +kernel
theorem dX4_who_92 : decode cX4_who 92 = .ok (.aload_n 0, 1) := by decide +kernel
theorem dX4_who_93 : decode cX4_who 93 = .ok (.getfield 11, 3) := by decide +kernel
theorem dX4_who_96 : decode cX4_who 96 = .ok (.iload_n 2, 1) := by decide +kernel
theorem dX4_who_97 : decode cX4_who 97 = .ok (.aaload, 1) := by decide +kernel
theorem dX4_who_98 : decode cX4_who 98 = .ok (.iload_n 3, 1) := by decide +kernel
theorem dX4_who_99 : decode cX4_who 99 = .ok (.iload 4, 2) := by decide +kernel
theorem dX4_who_101 : decode cX4_who 101 = .ok (.invokevirtual 209, 3) := by decide +kernel
theorem dX4_who_104 : decode cX4_who 104 = .ok (.ifCond .eq 10, 3) := by decide +kernel
theorem dX4_who_107 : decode cX4_who 107 = .ok (.iconst 1, 1) := by decide +kernel
theorem dX4_who_108 : decode cX4_who 108 = .ok (.iload 7, 2) := by decide +kernel
theorem dX4_who_110 : decode cX4_who 110 = .ok (.ishl, 1) := by decide +kernel
theorem dX4_who_111 : decode cX4_who 111 = .ok (.goto 4, 3) := by decide +kernel
theorem dX4_who_114 : decode cX4_who 114 = .ok (.iconst 0, 1) := by decide +kernel
theorem dX4_who_115 : decode cX4_who 115 = .ok (.ior, 1) := by decide +kernel
theorem dX4_who_116 : decode cX4_who 116 = .ok (.istore 6, 2) := by decide +kernel
theorem dX4_who_118 : decode cX4_who 118 = .ok (.iinc 7 1, 3) := by decide +kernel
theorem dX4_who_121 : decode cX4_who 121 = .ok (.goto (-64), 3) := by decide +kernel
theorem dX4_who_124 : decode cX4_who 124 = .ok (.aload_n 0, 1) := by decide +kernel
theorem dX4_who_125 : decode cX4_who 125 = .ok (.iload 6, 2) := by decide +kernel
theorem dX4_who_127 : decode cX4_who 127 = .ok (.invokevirtual 71, 3) := by decide +kernel
theorem dX4_who_130 : decode cX4_who 130 = .ok (.ireturn, 1) := by decide +kernel
set_option maxRecDepth 20000 in
theorem ggX4_late_X4_noRoute : GoodIn wsX4_late wsX4_noRoute := goodIn_r _ [13, 4, 5, 17, 18, 19, 20, 21, 22, 23, 24, 25, 26, 27, 28, 29, 30, 31, 32, 33, 34, 35, 36, 37, 38] (by decide +kernel) (by decide +kernel)
set_option maxRecDepth 20000 in
theorem gX4_late_X4_noRoute : GoodIn wsX4_late (wsV RX4 139 RX4 yX4_noRoute wsX4_noRoute) := goodIn_app (goodIn_of _ (by decide +kernel)) ggX4_late_X4_noRoute
set_option maxRecDepth 20000 in
theorem ggX4_late_X4_isEither : GoodIn wsX4_late wsX4_isEither := goodIn_r _ [16] (by decide +kernel) (by decide +kernel)
set_option maxRecDepth 20000 in
theorem gX4_late_X4_isEither : GoodIn wsX4_late (va_wsS RX4 177 yX4_isEither wsX4_isEither) := goodIn_app (goodIn_of _ (by decide +kernel)) ggX4_late_X4_isEither
theorem dX4_late_0 : decode cX4_late 0 = .ok (.aload_n 0, 1) := by decide +kernel
theorem dX4_late_1 : decode cX4_late 1 = .ok (.invokevirtual 139, 3) := by decide +kernel
theorem dX4_late_4 : decode cX4_late 4 = .ok (.ifCond .eq 6, 3) := by decide +kernel
theorem dX4_late_7 : decode cX4_late 7 = .ok (.ldc 137, 2) := by decide +kernel
theorem dX4_late_9 : decode cX4_late 9 = .ok (.ireturn, 1) := by decide +kernel
theorem dX4_late_10 : decode cX4_late 10 = .ok (.iload_n 1, 1) := by decide +kernel
theorem dX4_late_11 : decode cX4_late 11 = .ok (.invokestatic 177, 3) := by decide +kernel
theorem dX4_late_14 : decode cX4_late 14 = .ok (.ifCond .ne 6, 3) := by decide +kernel
theorem dX4_late_17 : decode cX4_late 17 = .ok (.ldc 62, 2) := by decide +kernel
theorem dX4_late_19 : decode cX4_late 19 = .ok (.ireturn, 1) := by decide +kernel
theorem dX4_late_20 : decode cX4_late 20 = .ok (.ldc 205, 2) := by decide +kernel
theorem dX4_late_22 : decode cX4_late 22 = .ok (.istore_n 2, 1) := by decide +kernel
theorem dX4_late_23 : decode cX4_late 23 = .ok (.iconst 0, 1) := by decide +kernel
theorem dX4_late_24 : decode cX4_late 24 = .ok (.istore_n 3, 1) := by decide +kernel
theorem dX4_late_25 : decode cX4_late 25 = .ok (.iconst 0, 1) := by decide +kernel
theorem dX4_late_26 : decode cX4_late 26 = .ok (.istore 4, 2) := by decide +kernel
theorem dX4_late_28 : decode cX4_late 28 = .ok (.iload 4, 2) := by decide +kernel
theorem dX4_late_30 : decode cX4_late 30 = .ok (.aload_n 0, 1) := by decide +kernel
theorem dX4_late_31 : decode cX4_late 31 = .ok (.getfield 25, 3) := by decide +kernel
theorem dX4_late_34 : decode cX4_late 34 = .ok (.getfield 130, 3) := by decide +kernel
theorem dX4_late_37 : decode cX4_late 37 = .ok (.if_icmp .ge 54, 3) := by decide +kernel
theorem dX4_late_40 : decode cX4_late 40 = .ok (.aload_n 0, 1) := by decide +kernel
theorem dX4_late_41 : decode cX4_late 41 = .ok (.getfield 25, 3) := by decide +kernel
theorem dX4_late_44 : decode cX4_late 44 = .ok (.getfield 142, 3) := by decide +kernel
theorem dX4_late_47 : decode cX4_late 47 = .ok (.aload_n 0, 1) := by decide +kernel
theorem dX4_late_48 : decode cX4_late 48 = .ok (.getfield 25, 3) := by decide +kernel
theorem dX4_late_51 : decode cX4_late 51 = .ok (.getfield 189, 3) := by decide +kernel
theorem dX4_late_54 : decode cX4_late 54 = .ok (.iload 4, 2) := by decide +kernel
theorem dX4_late_56 : decode cX4_late 56 = .ok (.iaload, 1) := by decide +kernel
theorem dX4_late_57 : decode cX4_late 57 = .ok (.isub, 1) := by decide +kernel
theorem dX4_late_58 : decode cX4_late 58 = .ok (.istore 5, 2) := by decide +kernel
theorem dX4_late_60 : decode cX4_late 60 = .ok (.aload_n 0, 1) := by decide +kernel
theorem dX4_late_61 : decode cX4_late 61 = .ok (.getfield 25, 3) := by decide +kernel
theorem dX4_late_64 : decode cX4_late 64 = .ok (.getfield 166, 3) := by decide +kernel
theorem dX4_late_67 : decode cX4_late 67 = .ok (.iload 4, 2) := by decide +kernel
theorem dX4_late_69 : decode cX4_late 69 = .ok (.iaload, 1) := by decide +kernel
theorem dX4_late_70 : decode cX4_late 70 = .ok (.ifCond .ne 15, 3) := by decide +kernel
theorem dX4_late_73 : decode cX4_late 73 = .ok (.iload 5, 2) := by decide +kernel
theorem dX4_late_75 : decode cX4_late 75 = .ok (.iload_n 3, 1) := by decide +kernel
theorem dX4_late_76 : decode cX4_late 76 = .ok (.if_icmp .le 9, 3) := by decide +kernel
theorem dX4_late_79 : decode cX4_late 79 = .ok (.iload 4, 2) := by decide +kernel
theorem dX4_late_81 : decode cX4_late 81 = .ok (.istore_n 2, 1) := by decide +kernel
theorem dX4_late_82 : decode cX4_late 82 = .ok (.iload 5, 2) := by decide +kernel
theorem dX4_late_84 : decode cX4_late 84 = .ok (.istore_n 3, 1) := by decide +kernel
theorem dX4_late_85 : decode cX4_late 85 = .ok (.iinc 4 1, 3) := by decide +kernel
theorem dX4_late_88 : decode cX4_late 88 = .ok (.goto (-60), 3) := by decide +kernel
theorem dX4_late_91 : decode cX4_late 91 = .ok (.iload_n 1, 1) := by decide +kernel
theorem dX4_late_92 : decode cX4_late 92 = .ok (.iconst 1, 1) := by decide +kernel
theorem dX4_late_93 : decode cX4_late 93 = .ok (.if_icmp .eq 9, 3) := by decide +kernel
theorem dX4_late_96 : decode cX4_late 96 = .ok (.iload_n 2, 1) := by decide +kernel
theorem dX4_late_97 : decode cX4_late 97 = .ok (.ldc 205, 2) := by decide +kernel
theorem dX4_late_99 : decode cX4_late 99 = .ok (.if_icmp .ne 7, 3) := by decide +kernel
theorem dX4_late_102 : decode cX4_late 102 = .ok (.iload_n 2, 1) := by decide +kernel
theorem dX4_late_103 : decode cX4_late 103 = .ok (.goto 4, 3) := by decide +kernel
theorem dX4_late_106 : decode cX4_late 106 = .ok (.iload_n 3, 1) := by decide +kernel
theorem dX4_late_107 : decode cX4_late 107 = .ok (.ireturn, 1) := by decide +kernel
set_option maxRecDepth 20000 in
theorem ggX4_lies_X4_noRoute : GoodIn wsX4_lies wsX4_noRoute := goodIn_r _ [8, 3, 9, 62, 63, 64, 65, 66, 67, 68, 69, 70, 71, 72, 73, 74, 75, 76, 77, 78, 79, 80, 81, 82, 83] (by decide +kernel) (by decide +kernel)
set_option maxRecDepth 20000 in
theorem gX4_lies_X4_noRoute : GoodIn wsX4_lies (wsV RX4 139 RX4 yX4_noRoute wsX4_noRoute) := goodIn_app (goodIn_of _ (by decide +kernel)) ggX4_lies_X4_noRoute
set_option maxRecDepth 20000 in
theorem ggX4_lies_X4_isPlace : GoodIn wsX4_lies wsX4_isPlace := goodIn_r _ [12, 13, 14, 7, 15] (by decide +kernel) (by decide +kernel)
set_option maxRecDepth 20000 in
theorem gX4_lies_X4_isPlace : GoodIn wsX4_lies (va_wsS RX4 156 yX4_isPlace wsX4_isPlace) := goodIn_app (goodIn_of _ (by decide +kernel)) ggX4_lies_X4_isPlace
set_option maxRecDepth 20000 in
theorem ggX4_lies_X4_isWithin : GoodIn wsX4_lies wsX4_isWithin := goodIn_r _ [15] (by decide +kernel) (by decide +kernel)
set_option maxRecDepth 20000 in
theorem gX4_lies_X4_isWithin : GoodIn wsX4_lies (va_wsS RX4 198 yX4_isWithin wsX4_isWithin) := goodIn_app (goodIn_of _ (by decide +kernel)) ggX4_lies_X4_isWithin
set_option maxRecDepth 20000 in
theorem ggX4_lies_X4_isEither : GoodIn wsX4_lies wsX4_isEither := goodIn_r _ [18] (by decide +kernel) (by decide +kernel)
set_option maxRecDepth 20000 in
theorem gX4_lies_X4_isEither : GoodIn wsX4_lies (va_wsS RX4 177 yX4_isEither wsX4_isEither) := goodIn_app (goodIn_of _ (by decide +kernel)) ggX4_lies_X4_isEither
set_option maxRecDepth 20000 in
theorem ggX4_lies_X1_openBits : GoodIn wsX4_lies wsX1_openBits := goodIn_r _ [23, 24, 25, 72, 73, 74, 75, 76, 77, 78, 79, 80, 81, 82, 83] (by decide +kernel) (by decide +kernel)
set_option maxRecDepth 20000 in
theorem gX4_lies_X1_openBits : GoodIn wsX4_lies (wsV RX4 169 RX1 yX1_openBits wsX1_openBits) := goodIn_app (goodIn_of _ (by decide +kernel)) ggX4_lies_X1_openBits
set_option maxRecDepth 20000 in
theorem ggX4_lies_J6_bitCount_0f7a4 : GoodIn wsX4_lies wsJ6_bitCount_0f7a4 := goodIn_r _ [29, 30, 31, 32] (by decide +kernel) (by decide +kernel)
set_option maxRecDepth 20000 in
theorem gX4_lies_J6_bitCount_0f7a4 : GoodIn wsX4_lies (va_wsS RX4 172 yJ6_bitCount_0f7a4 wsJ6_bitCount_0f7a4) := goodIn_app (goodIn_of _ (by decide +kernel)) ggX4_lies_J6_bitCount_0f7a4
set_option maxRecDepth 20000 in
theorem ggX4_lies_X1_placeNext : GoodIn wsX4_lies wsX1_placeNext := goodIn_r _ [36, 37, 38, 39, 40, 41, 22, 42, 43, 24, 44, 45, 46, 47, 25, 48, 49, 50, 51, 52, 53, 54, 28, 55, 72, 73, 74, 75, 76, 77, 78, 79, 80, 81, 82, 83] (by decide +kernel) (by decide +kernel)
set_option maxRecDepth 20000 in
theorem gX4_lies_X1_placeNext : GoodIn wsX4_lies (wsV RX4 220 RX1 yX1_placeNext wsX1_placeNext) := goodIn_app (goodIn_of _ (by decide +kernel)) ggX4_lies_X1_placeNext
set_option maxRecDepth 20000 in
theorem ggX4_lies_X4_power : GoodIn wsX4_lies wsX4_power := goodIn_r _ [58] (by decide +kernel) (by decide +kernel)
set_option maxRecDepth 20000 in
theorem gX4_lies_X4_power : GoodIn wsX4_lies (va_wsS RX4 223 yX4_power wsX4_power) := goodIn_app (goodIn_of _ (by decide +kernel)) ggX4_lies_X4_power
set_option maxRecDepth 20000 in
theorem ggX4_lies_X4_commonDivisor : GoodIn wsX4_lies wsX4_commonDivisor := goodIn_r _ [61] (by decide +kernel) (by decide +kernel)
set_option maxRecDepth 20000 in
theorem gX4_lies_X4_commonDivisor : GoodIn wsX4_lies (va_wsS RX4 227 yX4_commonDivisor wsX4_commonDivisor) := goodIn_app (goodIn_of _ (by decide +kernel)) ggX4_lies_X4_commonDivisor
theorem dX4_lies_0 : decode cX4_lies 0 = .ok (.aload_n 0, 1) := by decide +kernel
theorem dX4_lies_1 : decode cX4_lies 1 = .ok (.invokevirtual 139, 3) := by decide +kernel
theorem dX4_lies_4 : decode cX4_lies 4 = .ok (.ifCond .eq 7, 3) := by decide +kernel
theorem dX4_lies_7 : decode cX4_lies 7 = .ok (.ldc2_w 216, 3) := by decide +kernel
theorem dX4_lies_10 : decode cX4_lies 10 = .ok (.lreturn, 1) := by decide +kernel
theorem dX4_lies_11 : decode cX4_lies 11 = .ok (.iload_n 1, 1) := by decide +kernel
theorem dX4_lies_12 : decode cX4_lies 12 = .ok (.invokestatic 156, 3) := by decide +kernel
theorem dX4_lies_15 : decode cX4_lies 15 = .ok (.ifCond .eq 20, 3) := by decide +kernel
theorem dX4_lies_18 : decode cX4_lies 18 = .ok (.iload_n 2, 1) := by decide +kernel
theorem dX4_lies_19 : decode cX4_lies 19 = .ok (.iconst 0, 1) := by decide +kernel
theorem dX4_lies_20 : decode cX4_lies 20 = .ok (.bipush 10, 2) := by decide +kernel
theorem dX4_lies_22 : decode cX4_lies 22 = .ok (.invokestatic 198, 3) := by decide +kernel
theorem dX4_lies_25 : decode cX4_lies 25 = .ok (.ifCond .eq 10, 3) := by decide +kernel
theorem dX4_lies_28 : decode cX4_lies 28 = .ok (.iload_n 3, 1) := by decide +kernel
theorem dX4_lies_29 : decode cX4_lies 29 = .ok (.invokestatic 177, 3) := by decide +kernel
theorem dX4_lies_32 : decode cX4_lies 32 = .ok (.ifCond .ne 7, 3) := by decide +kernel
theorem dX4_lies_35 : decode cX4_lies 35 = .ok (.ldc2_w 218, 3) := by decide +kernel
theorem dX4_lies_38 : decode cX4_lies 38 = .ok (.lreturn, 1) := by decide +kernel
theorem dX4_lies_39 : decode cX4_lies 39 = .ok (.aload_n 0, 1) := by decide +kernel
theorem dX4_lies_40 : decode cX4_lies 40 = .ok (.getfield 25, 3) := by decide +kernel
theorem dX4_lies_43 : decode cX4_lies 43 = .ok (.invokevirtual 169, 3) := by decide +kernel
theorem dX4_lies_46 : decode cX4_lies 46 = .ok (.istore 4, 2) := by decide +kernel
theorem dX4_lies_48 : decode cX4_lies 48 = .ok (.iload 4, 2) := by decide +kernel
theorem dX4_lies_50 : decode cX4_lies 50 = .ok (.invokestatic 172, 3) := by decide +kernel
theorem dX4_lies_53 : decode cX4_lies 53 = .ok (.istore 5, 2) := by decide +kernel
theorem dX4_lies_55 : decode cX4_lies 55 = .ok (.lconst 0, 1) := by decide +kernel
theorem dX4_lies_56 : decode cX4_lies 56 = .ok (.lstore 6, 2) := by decide +kernel
theorem dX4_lies_58 : decode cX4_lies 58 = .ok (.iconst 0, 1) := by decide +kernel
theorem dX4_lies_59 : decode cX4_lies 59 = .ok (.istore 8, 2) := by decide +kernel
theorem dX4_lies_61 : decode cX4_lies 61 = .ok (.iload 8, 2) := by decide +kernel
theorem dX4_lies_63 : decode cX4_lies 63 = .ok (.iload 4, 2) := by decide +kernel
theorem dX4_lies_65 : decode cX4_lies 65 = .ok (.if_icmp .gt 63, 3) := by decide +kernel
theorem dX4_lies_68 : decode cX4_lies 68 = .ok (.iload 8, 2) := by decide +kernel
theorem dX4_lies_70 : decode cX4_lies 70 = .ok (.iload 4, 2) := by decide +kernel
theorem dX4_lies_72 : decode cX4_lies 72 = .ok (.iand, 1) := by decide +kernel
theorem dX4_lies_73 : decode cX4_lies 73 = .ok (.iload 8, 2) := by decide +kernel
theorem dX4_lies_75 : decode cX4_lies 75 = .ok (.if_icmp .ne 47, 3) := by decide +kernel
theorem dX4_lies_78 : decode cX4_lies 78 = .ok (.aload_n 0, 1) := by decide +kernel
theorem dX4_lies_79 : decode cX4_lies 79 = .ok (.getfield 25, 3) := by decide +kernel
theorem dX4_lies_82 : decode cX4_lies 82 = .ok (.iload 8, 2) := by decide +kernel
theorem dX4_lies_84 : decode cX4_lies 84 = .ok (.invokevirtual 220, 3) := by decide +kernel
theorem dX4_lies_87 : decode cX4_lies 87 = .ok (.iload_n 1, 1) := by decide +kernel
theorem dX4_lies_88 : decode cX4_lies 88 = .ok (.if_icmp .ne 34, 3) := by decide +kernel
theorem dX4_lies_91 : decode cX4_lies 91 = .ok (.iload 8, 2) := by decide +kernel
theorem dX4_lies_93 : decode cX4_lies 93 = .ok (.invokestatic 172, 3) := by decide +kernel
theorem dX4_lies_96 : decode cX4_lies 96 = .ok (.istore 9, 2) := by decide +kernel
theorem dX4_lies_98 : decode cX4_lies 98 = .ok (.lload 6, 2) := by decide +kernel
theorem dX4_lies_100 : decode cX4_lies 100 = .ok (.iload_n 2, 1) := by decide +kernel
theorem dX4_lies_101 : decode cX4_lies 101 = .ok (.iload 9, 2) := by decide +kernel
theorem dX4_lies_103 : decode cX4_lies 103 = .ok (.invokestatic 223, 3) := by decide +kernel
theorem dX4_lies_106 : decode cX4_lies 106 = .ok (.bipush 10, 2) := by decide +kernel
theorem dX4_lies_108 : decode cX4_lies 108 = .ok (.iload_n 2, 1) := by decide +kernel
theorem dX4_lies_109 : decode cX4_lies 109 = .ok (.isub, 1) := by decide +kernel
theorem dX4_lies_110 : decode cX4_lies 110 = .ok (.iload 5, 2) := by decide +kernel
theorem dX4_lies_112 : decode cX4_lies 112 = .ok (.iload 9, 2) := by decide +kernel
theorem dX4_lies_114 : decode cX4_lies 114 = .ok (.isub, 1) := by decide +kernel
theorem dX4_lies_115 : decode cX4_lies 115 = .ok (.invokestatic 223, 3) := by decide +kernel
theorem dX4_lies_118 : decode cX4_lies 118 = .ok (.lmul, 1) := by decide +kernel
theorem dX4_lies_119 : decode cX4_lies 119 = .ok (.ladd, 1) := by decide +kernel
theorem dX4_lies_120 : decode cX4_lies 120 = .ok (.lstore 6, 2) := by decide +kernel
theorem dX4_lies_122 : decode cX4_lies 122 = .ok (.iinc 8 1, 3) := by decide +kernel
theorem dX4_lies_125 : decode cX4_lies 125 = .ok (.goto (-64), 3) := by decide +kernel
theorem dX4_lies_128 : decode cX4_lies 128 = .ok (.bipush 10, 2) := by decide +kernel
theorem dX4_lies_130 : decode cX4_lies 130 = .ok (.iload 5, 2) := by decide +kernel
theorem dX4_lies_132 : decode cX4_lies 132 = .ok (.invokestatic 223, 3) := by decide +kernel
theorem dX4_lies_135 : decode cX4_lies 135 = .ok (.lstore 8, 2) := by decide +kernel
theorem dX4_lies_137 : decode cX4_lies 137 = .ok (.lload 8, 2) := by decide +kernel
theorem dX4_lies_139 : decode cX4_lies 139 = .ok (.lload 6, 2) := by decide +kernel
theorem dX4_lies_141 : decode cX4_lies 141 = .ok (.invokestatic 227, 3) := by decide +kernel
theorem dX4_lies_144 : decode cX4_lies 144 = .ok (.lstore 10, 2) := by decide +kernel
theorem dX4_lies_146 : decode cX4_lies 146 = .ok (.lload 10, 2) := by decide +kernel
theorem dX4_lies_148 : decode cX4_lies 148 = .ok (.lconst 1, 1) := by decide +kernel
theorem dX4_lies_149 : decode cX4_lies 149 = .ok (.lcmp, 1) := by decide +kernel
theorem dX4_lies_150 : decode cX4_lies 150 = .ok (.ifCond .ge 7, 3) := by decide +kernel
theorem dX4_lies_153 : decode cX4_lies 153 = .ok (.ldc2_w 218, 3) := by decide +kernel
theorem dX4_lies_156 : decode cX4_lies 156 = .ok (.lreturn, 1) := by decide +kernel
theorem dX4_lies_157 : decode cX4_lies 157 = .ok (.iload_n 3, 1) := by decide +kernel
theorem dX4_lies_158 : decode cX4_lies 158 = .ok (.ifCond .ne 11, 3) := by decide +kernel
theorem dX4_lies_161 : decode cX4_lies 161 = .ok (.lload 6, 2) := by decide +kernel
theorem dX4_lies_163 : decode cX4_lies 163 = .ok (.lload 10, 2) := by decide +kernel
theorem dX4_lies_165 : decode cX4_lies 165 = .ok (.ldiv, 1) := by decide +kernel
theorem dX4_lies_166 : decode cX4_lies 166 = .ok (.goto 8, 3) := by decide +kernel
theorem dX4_lies_169 : decode cX4_lies 169 = .ok (.lload 8, 2) := by decide +kernel
theorem dX4_lies_171 : decode cX4_lies 171 = .ok (.lload 10, 2) := by decide +kernel
theorem dX4_lies_173 : decode cX4_lies 173 = .ok (.ldiv, 1) := by decide +kernel
theorem dX4_lies_174 : decode cX4_lies 174 = .ok (.lreturn, 1) := by decide +kernel
set_option maxRecDepth 20000 in
theorem ggX4_order_X4_noRoute : GoodIn wsX4_order wsX4_noRoute := goodIn_r _ [10, 4, 11, 71, 72, 73, 74, 75, 76, 77, 78, 79, 80, 81, 82, 83, 84, 85, 86, 87, 88, 89, 90, 91, 92] (by decide +kernel) (by decide +kernel)
set_option maxRecDepth 20000 in
theorem gX4_order_X4_noRoute : GoodIn wsX4_order (wsV RX4 139 RX4 yX4_noRoute wsX4_noRoute) := goodIn_app (goodIn_of _ (by decide +kernel)) ggX4_order_X4_noRoute
set_option maxRecDepth 20000 in
theorem ggX4_order_X1_become : GoodIn wsX4_order wsX1_become := goodIn_r _ [16, 17, 18, 19, 20, 21, 22, 23, 24, 25, 26, 27, 28, 29, 30, 31, 32, 81, 82, 83, 84, 85, 86, 87, 88, 89, 90, 91, 92] (by decide +kernel) (by decide +kernel)
set_option maxRecDepth 20000 in
theorem gX4_order_X1_become : GoodIn wsX4_order (wsV RX4 123 RX1 yX1_become wsX1_become) := goodIn_app (goodIn_of _ (by decide +kernel)) ggX4_order_X1_become
set_option maxRecDepth 20000 in
theorem ggX4_order_X1_passHour : GoodIn wsX4_order wsX1_passHour := goodIn_r _ [36, 17, 19, 37, 38, 39, 15, 40, 29, 41, 42, 43, 44, 45, 21, 46, 47, 48, 49, 32, 20, 31, 24, 30, 50, 51, 52, 53, 54, 55, 56, 57, 23, 22, 58, 59, 60, 61, 81, 82, 83, 84, 85, 86, 87, 88, 89, 90, 91, 92] (by decide +kernel) (by decide +kernel)
set_option maxRecDepth 20000 in
theorem gX4_order_X1_passHour : GoodIn wsX4_order (wsV RX4 148 RX1 yX1_passHour wsX1_passHour) := goodIn_app (goodIn_of _ (by decide +kernel)) ggX4_order_X1_passHour
set_option maxRecDepth 20000 in
theorem ggX4_order_J6_bitCount_0f7a4 : GoodIn wsX4_order wsJ6_bitCount_0f7a4 := goodIn_r _ [64, 65, 66, 67] (by decide +kernel) (by decide +kernel)
set_option maxRecDepth 20000 in
theorem gX4_order_J6_bitCount_0f7a4 : GoodIn wsX4_order (va_wsS RX4 172 yJ6_bitCount_0f7a4 wsJ6_bitCount_0f7a4) := goodIn_app (goodIn_of _ (by decide +kernel)) ggX4_order_J6_bitCount_0f7a4
set_option maxRecDepth 20000 in
theorem ggX4_order_X4_bitAt : GoodIn wsX4_order wsX4_bitAt := goodIn_r _ [70, 5] (by decide +kernel) (by decide +kernel)
set_option maxRecDepth 20000 in
theorem gX4_order_X4_bitAt : GoodIn wsX4_order (va_wsS RX4 231 yX4_bitAt wsX4_bitAt) := goodIn_app (goodIn_of _ (by decide +kernel)) ggX4_order_X4_bitAt
theorem dX4_order_0 : decode cX4_order 0 = .ok (.aload_n 0, 1) := by decide +kernel
theorem dX4_order_1 : decode cX4_order 1 = .ok (.invokevirtual 139, 3) := by decide +kernel
theorem dX4_order_4 : decode cX4_order 4 = .ok (.ifCond .eq 6, 3) := by decide +kernel
theorem dX4_order_7 : decode cX4_order 7 = .ok (.ldc 137, 2) := by decide +kernel
theorem dX4_order_9 : decode cX4_order 9 = .ok (.ireturn, 1) := by decide +kernel
theorem dX4_order_10 : decode cX4_order 10 = .ok (.iload_n 1, 1) := by decide +kernel
theorem dX4_order_11 : decode cX4_order 11 = .ok (.ifCond .ge 6, 3) := by decide +kernel
theorem dX4_order_14 : decode cX4_order 14 = .ok (.ldc 62, 2) := by decide +kernel
theorem dX4_order_16 : decode cX4_order 16 = .ok (.ireturn, 1) := by decide +kernel
theorem dX4_order_17 : decode cX4_order 17 = .ok (.aload_n 0, 1) := by decide +kernel
theorem dX4_order_18 : decode cX4_order 18 = .ok (.getfield 29, 3) := by decide +kernel
theorem dX4_order_21 : decode cX4_order 21 = .ok (.aload_n 0, 1) := by decide +kernel
theorem dX4_order_22 : decode cX4_order 22 = .ok (.getfield 25, 3) := by decide +kernel
theorem dX4_order_25 : decode cX4_order 25 = .ok (.invokevirtual 123, 3) := by decide +kernel
theorem dX4_order_28 : decode cX4_order 28 = .ok (.iload_n 1, 1) := by decide +kernel
theorem dX4_order_29 : decode cX4_order 29 = .ok (.istore_n 2, 1) := by decide +kernel
theorem dX4_order_30 : decode cX4_order 30 = .ok (.iconst 0, 1) := by decide +kernel
theorem dX4_order_31 : decode cX4_order 31 = .ok (.istore_n 3, 1) := by decide +kernel
theorem dX4_order_32 : decode cX4_order 32 = .ok (.iload_n 3, 1) := by decide +kernel
theorem dX4_order_33 : decode cX4_order 33 = .ok (.bipush 60, 2) := by decide +kernel
theorem dX4_order_35 : decode cX4_order 35 = .ok (.if_icmp .ge 43, 3) := by decide +kernel
theorem dX4_order_38 : decode cX4_order 38 = .ok (.aload_n 0, 1) := by decide +kernel
theorem dX4_order_39 : decode cX4_order 39 = .ok (.getfield 29, 3) := by decide +kernel
theorem dX4_order_42 : decode cX4_order 42 = .ok (.invokevirtual 148, 3) := by decide +kernel
theorem dX4_order_45 : decode cX4_order 45 = .ok (.istore 4, 2) := by decide +kernel
theorem dX4_order_47 : decode cX4_order 47 = .ok (.iload 4, 2) := by decide +kernel
theorem dX4_order_49 : decode cX4_order 49 = .ok (.invokestatic 172, 3) := by decide +kernel
theorem dX4_order_52 : decode cX4_order 52 = .ok (.istore 5, 2) := by decide +kernel
theorem dX4_order_54 : decode cX4_order 54 = .ok (.iload_n 2, 1) := by decide +kernel
theorem dX4_order_55 : decode cX4_order 55 = .ok (.iload 5, 2) := by decide +kernel
theorem dX4_order_57 : decode cX4_order 57 = .ok (.if_icmp .ge 10, 3) := by decide +kernel
theorem dX4_order_60 : decode cX4_order 60 = .ok (.iload 4, 2) := by decide +kernel
theorem dX4_order_62 : decode cX4_order 62 = .ok (.iload_n 2, 1) := by decide +kernel
theorem dX4_order_63 : decode cX4_order 63 = .ok (.invokestatic 231, 3) := by decide +kernel
theorem dX4_order_66 : decode cX4_order 66 = .ok (.ireturn, 1) := by decide +kernel
theorem dX4_order_67 : decode cX4_order 67 = .ok (.iload_n 2, 1) := by decide +kernel
theorem dX4_order_68 : decode cX4_order 68 = .ok (.iload 5, 2) := by decide +kernel
theorem dX4_order_70 : decode cX4_order 70 = .ok (.isub, 1) := by decide +kernel
theorem dX4_order_71 : decode cX4_order 71 = .ok (.istore_n 2, 1) := by decide +kernel
theorem dX4_order_72 : decode cX4_order 72 = .ok (.iinc 3 1, 3) := by decide +kernel
theorem dX4_order_75 : decode cX4_order 75 = .ok (.goto (-43), 3) := by decide +kernel
theorem dX4_order_78 : decode cX4_order 78 = .ok (.ldc 205, 2) := by decide +kernel
theorem dX4_order_80 : decode cX4_order 80 = .ok (.ireturn, 1) := by decide +kernel
set_option maxRecDepth 20000 in
theorem ggX4_drawn_X4_noRoute : GoodIn wsX4_drawn wsX4_noRoute := goodIn_r _ [14, 5, 15, 91, 92, 93, 94, 95, 96, 97, 98, 99, 100, 101, 102, 103, 104, 105, 106, 107, 108, 109, 110, 111, 112] (by decide +kernel) (by decide +kernel)
set_option maxRecDepth 20000 in
theorem gX4_drawn_X4_noRoute : GoodIn wsX4_drawn (wsV RX4 139 RX4 yX4_noRoute wsX4_noRoute) := goodIn_app (goodIn_of _ (by decide +kernel)) ggX4_drawn_X4_noRoute
set_option maxRecDepth 20000 in
theorem ggX4_drawn_X4_isWithin : GoodIn wsX4_drawn wsX4_isWithin := goodIn_r _ [18] (by decide +kernel) (by decide +kernel)
set_option maxRecDepth 20000 in
theorem gX4_drawn_X4_isWithin : GoodIn wsX4_drawn (va_wsS RX4 198 yX4_isWithin wsX4_isWithin) := goodIn_app (goodIn_of _ (by decide +kernel)) ggX4_drawn_X4_isWithin
set_option maxRecDepth 20000 in
theorem ggX4_drawn_X4_isEither : GoodIn wsX4_drawn wsX4_isEither := goodIn_r _ [21] (by decide +kernel) (by decide +kernel)
set_option maxRecDepth 20000 in
theorem gX4_drawn_X4_isEither : GoodIn wsX4_drawn (va_wsS RX4 177 yX4_isEither wsX4_isEither) := goodIn_app (goodIn_of _ (by decide +kernel)) ggX4_drawn_X4_isEither
set_option maxRecDepth 20000 in
theorem ggX4_drawn_X1_become : GoodIn wsX4_drawn wsX1_become := goodIn_r _ [26, 27, 28, 29, 30, 31, 32, 33, 34, 35, 36, 37, 38, 39, 40, 41, 42, 101, 102, 103, 104, 105, 106, 107, 108, 109, 110, 111, 112] (by decide +kernel) (by decide +kernel)
set_option maxRecDepth 20000 in
theorem gX4_drawn_X1_become : GoodIn wsX4_drawn (wsV RX4 123 RX1 yX1_become wsX1_become) := goodIn_app (goodIn_of _ (by decide +kernel)) ggX4_drawn_X1_become
set_option maxRecDepth 20000 in
theorem ggX4_drawn_X1_openByDraw : GoodIn wsX4_drawn wsX1_openByDraw := goodIn_r _ [46, 31, 47, 40, 48, 49, 50, 25, 51, 39, 42, 101, 102, 103, 104, 105, 106, 107, 108, 109, 110, 111, 112] (by decide +kernel) (by decide +kernel)
set_option maxRecDepth 20000 in
theorem gX4_drawn_X1_openByDraw : GoodIn wsX4_drawn (wsV RX4 241 RX1 yX1_openByDraw wsX1_openByDraw) := goodIn_app (goodIn_of _ (by decide +kernel)) ggX4_drawn_X1_openByDraw
set_option maxRecDepth 20000 in
theorem ggX4_drawn_X1_passHour : GoodIn wsX4_drawn wsX1_passHour := goodIn_r _ [55, 27, 29, 56, 57, 58, 25, 59, 39, 60, 61, 62, 63, 64, 31, 65, 66, 67, 68, 42, 30, 41, 34, 40, 69, 70, 71, 72, 73, 74, 75, 76, 33, 32, 77, 78, 79, 80, 101, 102, 103, 104, 105, 106, 107, 108, 109, 110, 111, 112] (by decide +kernel) (by decide +kernel)
set_option maxRecDepth 20000 in
theorem gX4_drawn_X1_passHour : GoodIn wsX4_drawn (wsV RX4 148 RX1 yX1_passHour wsX1_passHour) := goodIn_app (goodIn_of _ (by decide +kernel)) ggX4_drawn_X1_passHour
set_option maxRecDepth 20000 in
theorem ggX4_drawn_X1_openBits : GoodIn wsX4_drawn wsX1_openBits := goodIn_r _ [84, 31, 42, 101, 102, 103, 104, 105, 106, 107, 108, 109, 110, 111, 112] (by decide +kernel) (by decide +kernel)
set_option maxRecDepth 20000 in
theorem gX4_drawn_X1_openBits : GoodIn wsX4_drawn (wsV RX4 169 RX1 yX1_openBits wsX1_openBits) := goodIn_app (goodIn_of _ (by decide +kernel)) ggX4_drawn_X1_openBits
set_option maxRecDepth 20000 in
theorem ggX4_drawn_J6_bitCount_0f7a4 : GoodIn wsX4_drawn wsJ6_bitCount_0f7a4 := goodIn_r _ [87, 88, 89, 90] (by decide +kernel) (by decide +kernel)
set_option maxRecDepth 20000 in
theorem gX4_drawn_J6_bitCount_0f7a4 : GoodIn wsX4_drawn (va_wsS RX4 172 yJ6_bitCount_0f7a4 wsJ6_bitCount_0f7a4) := goodIn_app (goodIn_of _ (by decide +kernel)) ggX4_drawn_J6_bitCount_0f7a4
theorem dX4_drawn_0 : decode cX4_drawn 0 = .ok (.aload_n 0, 1) := by decide +kernel
theorem dX4_drawn_1 : decode cX4_drawn 1 = .ok (.invokevirtual 139, 3) := by decide +kernel
theorem dX4_drawn_4 : decode cX4_drawn 4 = .ok (.ifCond .eq 6, 3) := by decide +kernel
theorem dX4_drawn_7 : decode cX4_drawn 7 = .ok (.ldc 137, 2) := by decide +kernel
theorem dX4_drawn_9 : decode cX4_drawn 9 = .ok (.ireturn, 1) := by decide +kernel
theorem dX4_drawn_10 : decode cX4_drawn 10 = .ok (.iload_n 1, 1) := by decide +kernel
theorem dX4_drawn_11 : decode cX4_drawn 11 = .ok (.iconst 0, 1) := by decide +kernel
theorem dX4_drawn_12 : decode cX4_drawn 12 = .ok (.bipush 60, 2) := by decide +kernel
theorem dX4_drawn_14 : decode cX4_drawn 14 = .ok (.invokestatic 198, 3) := by decide +kernel
theorem dX4_drawn_17 : decode cX4_drawn 17 = .ok (.ifCond .eq 20, 3) := by decide +kernel
theorem dX4_drawn_20 : decode cX4_drawn 20 = .ok (.iload_n 2, 1) := by decide +kernel
theorem dX4_drawn_21 : decode cX4_drawn 21 = .ok (.iconst 1, 1) := by decide +kernel
theorem dX4_drawn_22 : decode cX4_drawn 22 = .ok (.ldc 234, 2) := by decide +kernel
theorem dX4_drawn_24 : decode cX4_drawn 24 = .ok (.invokestatic 198, 3) := by decide +kernel
theorem dX4_drawn_27 : decode cX4_drawn 27 = .ok (.ifCond .eq 10, 3) := by decide +kernel
theorem dX4_drawn_30 : decode cX4_drawn 30 = .ok (.iload_n 3, 1) := by decide +kernel
theorem dX4_drawn_31 : decode cX4_drawn 31 = .ok (.invokestatic 177, 3) := by decide +kernel
theorem dX4_drawn_34 : decode cX4_drawn 34 = .ok (.ifCond .ne 6, 3) := by decide +kernel
theorem dX4_drawn_37 : decode cX4_drawn 37 = .ok (.ldc 62, 2) := by decide +kernel
theorem dX4_drawn_39 : decode cX4_drawn 39 = .ok (.ireturn, 1) := by decide +kernel
theorem dX4_drawn_40 : decode cX4_drawn 40 = .ok (.aload_n 0, 1) := by decide +kernel
theorem dX4_drawn_41 : decode cX4_drawn 41 = .ok (.getfield 29, 3) := by decide +kernel
theorem dX4_drawn_44 : decode cX4_drawn 44 = .ok (.aload_n 0, 1) := by decide +kernel
theorem dX4_drawn_45 : decode cX4_drawn 45 = .ok (.getfield 25, 3) := by decide +kernel
theorem dX4_drawn_48 : decode cX4_drawn 48 = .ok (.invokevirtual 123, 3) := by decide +kernel
theorem dX4_drawn_51 : decode cX4_drawn 51 = .ok (.iload_n 2, 1) := by decide +kernel
theorem dX4_drawn_52 : decode cX4_drawn 52 = .ok (.i2l, 1) := by decide +kernel
theorem dX4_drawn_53 : decode cX4_drawn 53 = .ok (.lstore 4, 2) := by decide +kernel
theorem dX4_drawn_55 : decode cX4_drawn 55 = .ok (.iconst 0, 1) := by decide +kernel
theorem dX4_drawn_56 : decode cX4_drawn 56 = .ok (.istore 6, 2) := by decide +kernel
theorem dX4_drawn_58 : decode cX4_drawn 58 = .ok (.iload 6, 2) := by decide +kernel
theorem dX4_drawn_60 : decode cX4_drawn 60 = .ok (.iload_n 1, 1) := by decide +kernel
theorem dX4_drawn_61 : decode cX4_drawn 61 = .ok (.if_icmp .ge 49, 3) := by decide +kernel
theorem dX4_drawn_64 : decode cX4_drawn 64 = .ok (.lload 4, 2) := by decide +kernel
theorem dX4_drawn_66 : decode cX4_drawn 66 = .ok (.ldc2_w 235, 3) := by decide +kernel
theorem dX4_drawn_69 : decode cX4_drawn 69 = .ok (.lmul, 1) := by decide +kernel
theorem dX4_drawn_70 : decode cX4_drawn 70 = .ok (.ldc2_w 237, 3) := by decide +kernel
theorem dX4_drawn_73 : decode cX4_drawn 73 = .ok (.lrem, 1) := by decide +kernel
theorem dX4_drawn_74 : decode cX4_drawn 74 = .ok (.lstore 4, 2) := by decide +kernel
theorem dX4_drawn_76 : decode cX4_drawn 76 = .ok (.lload 4, 2) := by decide +kernel
theorem dX4_drawn_78 : decode cX4_drawn 78 = .ok (.ldc2_w 239, 3) := by decide +kernel
theorem dX4_drawn_81 : decode cX4_drawn 81 = .ok (.lrem, 1) := by decide +kernel
theorem dX4_drawn_82 : decode cX4_drawn 82 = .ok (.lconst 0, 1) := by decide +kernel
theorem dX4_drawn_83 : decode cX4_drawn 83 = .ok (.lcmp, 1) := by decide +kernel
theorem dX4_drawn_84 : decode cX4_drawn 84 = .ok (.ifCond .ne 12, 3) := by decide +kernel
theorem dX4_drawn_87 : decode cX4_drawn 87 = .ok (.aload_n 0, 1) := by decide +kernel
theorem dX4_drawn_88 : decode cX4_drawn 88 = .ok (.getfield 29, 3) := by decide +kernel
theorem dX4_drawn_91 : decode cX4_drawn 91 = .ok (.lload 4, 2) := by decide +kernel
theorem dX4_drawn_93 : decode cX4_drawn 93 = .ok (.invokevirtual 241, 3) := by decide +kernel
theorem dX4_drawn_96 : decode cX4_drawn 96 = .ok (.aload_n 0, 1) := by decide +kernel
theorem dX4_drawn_97 : decode cX4_drawn 97 = .ok (.getfield 29, 3) := by decide +kernel
theorem dX4_drawn_100 : decode cX4_drawn 100 = .ok (.invokevirtual 148, 3) := by decide +kernel
theorem dX4_drawn_103 : decode cX4_drawn 103 = .ok (.pop, 1) := by decide +kernel
theorem dX4_drawn_104 : decode cX4_drawn 104 = .ok (.iinc 6 1, 3) := by decide +kernel
theorem dX4_drawn_107 : decode cX4_drawn 107 = .ok (.goto (-49), 3) := by decide +kernel
theorem dX4_drawn_110 : decode cX4_drawn 110 = .ok (.iload_n 3, 1) := by decide +kernel
theorem dX4_drawn_111 : decode cX4_drawn 111 = .ok (.ifCond .ne 13, 3) := by decide +kernel
theorem dX4_drawn_114 : decode cX4_drawn 114 = .ok (.aload_n 0, 1) := by decide +kernel
theorem dX4_drawn_115 : decode cX4_drawn 115 = .ok (.getfield 29, 3) := by decide +kernel
theorem dX4_drawn_118 : decode cX4_drawn 118 = .ok (.getfield 152, 3) := by decide +kernel
theorem dX4_drawn_121 : decode cX4_drawn 121 = .ok (.goto 13, 3) := by decide +kernel
theorem dX4_drawn_124 : decode cX4_drawn 124 = .ok (.aload_n 0, 1) := by decide +kernel
theorem dX4_drawn_125 : decode cX4_drawn 125 = .ok (.getfield 29, 3) := by decide +kernel
theorem dX4_drawn_128 : decode cX4_drawn 128 = .ok (.invokevirtual 169, 3) := by decide +kernel
theorem dX4_drawn_131 : decode cX4_drawn 131 = .ok (.invokestatic 172, 3) := by decide +kernel
theorem dX4_drawn_134 : decode cX4_drawn 134 = .ok (.ireturn, 1) := by decide +kernel
set_option maxRecDepth 20000 in
theorem ggX4_image_X4_isWithin : GoodIn wsX4_image wsX4_isWithin := goodIn_r _ [11] (by decide +kernel) (by decide +kernel)
set_option maxRecDepth 20000 in
theorem gX4_image_X4_isWithin : GoodIn wsX4_image (va_wsS RX4 198 yX4_isWithin wsX4_isWithin) := goodIn_app (goodIn_of _ (by decide +kernel)) ggX4_image_X4_isWithin
set_option maxRecDepth 20000 in
theorem ggX4_image_X4_noRoute : GoodIn wsX4_image wsX4_noRoute := goodIn_r _ [15, 7, 16, 43, 44, 45, 46, 47, 48, 49, 50, 51, 52, 53, 54, 55, 56, 57, 58, 59, 60, 61, 62, 63, 64] (by decide +kernel) (by decide +kernel)
set_option maxRecDepth 20000 in
theorem gX4_image_X4_noRoute : GoodIn wsX4_image (wsV RX4 139 RX4 yX4_noRoute wsX4_noRoute) := goodIn_app (goodIn_of _ (by decide +kernel)) ggX4_image_X4_noRoute
set_option maxRecDepth 20000 in
theorem ggX4_image_X1_init : GoodIn wsX4_image wsX1_init := goodIn_r _ [18, 19, 20, 21, 22, 23, 24, 25, 26, 27, 28, 29, 30, 31, 32, 33, 34, 53, 54, 55, 56, 57, 58, 59, 60, 61, 62, 63, 64] (by decide +kernel) (by decide +kernel)
set_option maxRecDepth 20000 in
theorem gX4_image_X1_init_n24 : GoodIn wsX4_image (wsX1_init) := ggX4_image_X1_init
set_option maxRecDepth 20000 in
theorem ggX4_image_X1_become : GoodIn wsX4_image wsX1_become := goodIn_r _ [38, 22, 23, 24, 25, 26, 27, 28, 30, 39, 40, 41, 42, 31, 32, 33, 34, 53, 54, 55, 56, 57, 58, 59, 60, 61, 62, 63, 64] (by decide +kernel) (by decide +kernel)
set_option maxRecDepth 20000 in
theorem gX4_image_X1_become : GoodIn wsX4_image (wsV RX4 123 RX1 yX1_become wsX1_become) := goodIn_app (goodIn_of _ (by decide +kernel)) ggX4_image_X1_become
theorem dX4_image_0 : decode cX4_image 0 = .ok (.iload_n 1, 1) := by decide +kernel
theorem dX4_image_1 : decode cX4_image 1 = .ok (.iconst 0, 1) := by decide +kernel
theorem dX4_image_2 : decode cX4_image 2 = .ok (.iconst 1, 1) := by decide +kernel
theorem dX4_image_3 : decode cX4_image 3 = .ok (.invokestatic 198, 3) := by decide +kernel
theorem dX4_image_6 : decode cX4_image 6 = .ok (.ifCond .ne 6, 3) := by decide +kernel
theorem dX4_image_9 : decode cX4_image 9 = .ok (.ldc 62, 2) := by decide +kernel
theorem dX4_image_11 : decode cX4_image 11 = .ok (.ireturn, 1) := by decide +kernel
theorem dX4_image_12 : decode cX4_image 12 = .ok (.aload_n 0, 1) := by decide +kernel
theorem dX4_image_13 : decode cX4_image 13 = .ok (.invokevirtual 139, 3) := by decide +kernel
theorem dX4_image_16 : decode cX4_image 16 = .ok (.ifCond .eq 6, 3) := by decide +kernel
theorem dX4_image_19 : decode cX4_image 19 = .ok (.ldc 137, 2) := by decide +kernel
theorem dX4_image_21 : decode cX4_image 21 = .ok (.ireturn, 1) := by decide +kernel
theorem dX4_image_22 : decode cX4_image 22 = .ok (.aload_n 0, 1) := by decide +kernel
theorem dX4_image_23 : decode cX4_image 23 = .ok (.getfield 39, 3) := by decide +kernel
theorem dX4_image_26 : decode cX4_image 26 = .ok (.iload_n 1, 1) := by decide +kernel
theorem dX4_image_27 : decode cX4_image 27 = .ok (.aaload, 1) := by decide +kernel
theorem dX4_image_28 : decode cX4_image 28 = .ok (.ifnonnull 16, 3) := by decide +kernel
theorem dX4_image_31 : decode cX4_image 31 = .ok (.aload_n 0, 1) := by decide +kernel
theorem dX4_image_32 : decode cX4_image 32 = .ok (.getfield 39, 3) := by decide +kernel
theorem dX4_image_35 : decode cX4_image 35 = .ok (.iload_n 1, 1) := by decide +kernel
theorem dX4_image_36 : decode cX4_image 36 = .ok (.new 22, 3) := by decide +kernel
theorem dX4_image_39 : decode cX4_image 39 = .ok (.dup, 1) := by decide +kernel
theorem dX4_image_40 : decode cX4_image 40 = .ok (.invokespecial 24, 3) := by decide +kernel
theorem dX4_image_43 : decode cX4_image 43 = .ok (.aastore, 1) := by decide +kernel
theorem dX4_image_44 : decode cX4_image 44 = .ok (.aload_n 0, 1) := by decide +kernel
theorem dX4_image_45 : decode cX4_image 45 = .ok (.getfield 39, 3) := by decide +kernel
theorem dX4_image_48 : decode cX4_image 48 = .ok (.iload_n 1, 1) := by decide +kernel
theorem dX4_image_49 : decode cX4_image 49 = .ok (.aaload, 1) := by decide +kernel
