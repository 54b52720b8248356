theorem dX0_init_0 : decode cX0_init 0 = .ok (.aload_n 0, 1) := by decide +kernel
theorem dX0_init_1 : decode cX0_init 1 = .ok (.invokespecial 3, 3) := by decide +kernel
theorem dX0_init_4 : decode cX0_init 4 = .ok (.aload_n 0, 1) := by decide +kernel
theorem dX0_init_5 : decode cX0_init 5 = .ok (.bipush 24, 2) := by decide +kernel
theorem dX0_init_7 : decode cX0_init 7 = .ok (.anewarray 9, 3) := by decide +kernel
theorem dX0_init_10 : decode cX0_init 10 = .ok (.putfield 11, 3) := by decide +kernel
theorem dX0_init_13 : decode cX0_init 13 = .ok (.aload_n 0, 1) := by decide +kernel
theorem dX0_init_14 : decode cX0_init 14 = .ok (.iconst 0, 1) := by decide +kernel
theorem dX0_init_15 : decode cX0_init 15 = .ok (.putfield 17, 3) := by decide +kernel
theorem dX0_init_18 : decode cX0_init 18 = .ok (.aload_n 0, 1) := by decide +kernel
theorem dX0_init_19 : decode cX0_init 19 = .ok (.iconst 0, 1) := by decide +kernel
theorem dX0_init_20 : decode cX0_init 20 = .ok (.putfield 21, 3) := by decide +kernel
theorem dX0_init_23 : decode cX0_init 23 = .ok (.return_, 1) := by decide +kernel
set_option maxRecDepth 20000 in
theorem ggX0_remember_X1_init : GoodIn wsX0_remember wsX1_init := goodIn_r _ [8, 9, 10, 11, 12, 13, 14, 15, 16, 17, 18, 19, 20, 21, 22, 23, 24, 36, 37, 38, 39, 40, 41, 42, 43, 44, 45, 46, 47] (by decide +kernel) (by decide +kernel)
set_option maxRecDepth 20000 in
theorem gX0_remember_X1_init_n24 : GoodIn wsX0_remember (wsX1_init) := ggX0_remember_X1_init
set_option maxRecDepth 20000 in
theorem ggX0_remember_X1_become : GoodIn wsX0_remember wsX1_become := goodIn_r _ [28, 12, 13, 14, 15, 16, 17, 18, 20, 29, 30, 31, 32, 21, 22, 23, 24, 36, 37, 38, 39, 40, 41, 42, 43, 44, 45, 46, 47] (by decide +kernel) (by decide +kernel)
set_option maxRecDepth 20000 in
theorem gX0_remember_X1_become : GoodIn wsX0_remember (wsV RX0 25 RX1 yX1_become wsX1_become) := goodIn_app (goodIn_of _ (by decide +kernel)) ggX0_remember_X1_become
theorem dX0_remember_0 : decode cX0_remember 0 = .ok (.aload_n 0, 1) := by decide +kernel
theorem dX0_remember_1 : decode cX0_remember 1 = .ok (.getfield 17, 3) := by decide +kernel
theorem dX0_remember_4 : decode cX0_remember 4 = .ok (.aload_n 0, 1) := by decide +kernel
theorem dX0_remember_5 : decode cX0_remember 5 = .ok (.getfield 21, 3) := by decide +kernel
theorem dX0_remember_8 : decode cX0_remember 8 = .ok (.iadd, 1) := by decide +kernel
theorem dX0_remember_9 : decode cX0_remember 9 = .ok (.bipush 24, 2) := by decide +kernel
theorem dX0_remember_11 : decode cX0_remember 11 = .ok (.irem, 1) := by decide +kernel
theorem dX0_remember_12 : decode cX0_remember 12 = .ok (.istore_n 2, 1) := by decide +kernel
theorem dX0_remember_13 : decode cX0_remember 13 = .ok (.aload_n 0, 1) := by decide +kernel
theorem dX0_remember_14 : decode cX0_remember 14 = .ok (.getfield 11, 3) := by decide +kernel
theorem dX0_remember_17 : decode cX0_remember 17 = .ok (.iload_n 2, 1) := by decide +kernel
theorem dX0_remember_18 : decode cX0_remember 18 = .ok (.aaload, 1) := by decide +kernel
theorem dX0_remember_19 : decode cX0_remember 19 = .ok (.ifnonnull 16, 3) := by decide +kernel
theorem dX0_remember_22 : decode cX0_remember 22 = .ok (.aload_n 0, 1) := by decide +kernel
theorem dX0_remember_23 : decode cX0_remember 23 = .ok (.getfield 11, 3) := by decide +kernel
theorem dX0_remember_26 : decode cX0_remember 26 = .ok (.iload_n 2, 1) := by decide +kernel
theorem dX0_remember_27 : decode cX0_remember 27 = .ok (.new 9, 3) := by decide +kernel
theorem dX0_remember_30 : decode cX0_remember 30 = .ok (.dup, 1) := by decide +kernel
theorem dX0_remember_31 : decode cX0_remember 31 = .ok (.invokespecial 24, 3) := by decide +kernel
theorem dX0_remember_34 : decode cX0_remember 34 = .ok (.aastore, 1) := by decide +kernel
theorem dX0_remember_35 : decode cX0_remember 35 = .ok (.aload_n 0, 1) := by decide +kernel
theorem dX0_remember_36 : decode cX0_remember 36 = .ok (.getfield 11, 3) := by decide +kernel
theorem dX0_remember_39 : decode cX0_remember 39 = .ok (.iload_n 2, 1) := by decide +kernel
theorem dX0_remember_40 : decode cX0_remember 40 = .ok (.aaload, 1) := by decide +kernel
theorem dX0_remember_41 : decode cX0_remember 41 = .ok (.aload_n 1, 1) := by decide +kernel
theorem dX0_remember_42 : decode cX0_remember 42 = .ok (.invokevirtual 25, 3) := by decide +kernel
theorem dX0_remember_45 : decode cX0_remember 45 = .ok (.aload_n 0, 1) := by decide +kernel
theorem dX0_remember_46 : decode cX0_remember 46 = .ok (.getfield 21, 3) := by decide +kernel
theorem dX0_remember_49 : decode cX0_remember 49 = .ok (.bipush 24, 2) := by decide +kernel
theorem dX0_remember_51 : decode cX0_remember 51 = .ok (.if_icmp .ge 16, 3) := by decide +kernel
theorem dX0_remember_54 : decode cX0_remember 54 = .ok (.aload_n 0, 1) := by decide +kernel
theorem dX0_remember_55 : decode cX0_remember 55 = .ok (.dup, 1) := by decide +kernel
theorem dX0_remember_56 : decode cX0_remember 56 = .ok (.getfield 21, 3) := by decide +kernel
theorem dX0_remember_59 : decode cX0_remember 59 = .ok (.iconst 1, 1) := by decide +kernel
theorem dX0_remember_60 : decode cX0_remember 60 = .ok (.iadd, 1) := by decide +kernel
theorem dX0_remember_61 : decode cX0_remember 61 = .ok (.putfield 21, 3) := by decide +kernel
theorem dX0_remember_64 : decode cX0_remember 64 = .ok (.goto 16, 3) := by decide +kernel
theorem dX0_remember_67 : decode cX0_remember 67 = .ok (.aload_n 0, 1) := by decide +kernel
theorem dX0_remember_68 : decode cX0_remember 68 = .ok (.aload_n 0, 1) := by decide +kernel
theorem dX0_remember_69 : decode cX0_remember 69 = .ok (.getfield 17, 3) := by decide +kernel
theorem dX0_remember_72 : decode cX0_remember 72 = .ok (.iconst 1, 1) := by decide +kernel
theorem dX0_remember_73 : decode cX0_remember 73 = .ok (.iadd, 1) := by decide +kernel
theorem dX0_remember_74 : decode cX0_remember 74 = .ok (.bipush 24, 2) := by decide +kernel
theorem dX0_remember_76 : decode cX0_remember 76 = .ok (.irem, 1) := by decide +kernel
theorem dX0_remember_77 : decode cX0_remember 77 = .ok (.putfield 17, 3) := by decide +kernel
theorem dX0_remember_80 : decode cX0_remember 80 = .ok (.return_, 1) := by decide +kernel
set_option maxRecDepth 20000 in
theorem ggX0_takeBack_X1_become : GoodIn wsX0_takeBack wsX1_become := goodIn_r _ [8, 9, 10, 11, 12, 13, 14, 15, 16, 17, 18, 19, 20, 21, 22, 23, 24, 28, 29, 30, 31, 32, 33, 34, 35, 36, 37, 38, 39] (by decide +kernel) (by decide +kernel)
set_option maxRecDepth 20000 in
theorem gX0_takeBack_X1_become : GoodIn wsX0_takeBack (wsV RX0 25 RX1 yX1_become wsX1_become) := goodIn_app (goodIn_of _ (by decide +kernel)) ggX0_takeBack_X1_become
theorem dX0_takeBack_0 : decode cX0_takeBack 0 = .ok (.aload_n 0, 1) := by decide +kernel
theorem dX0_takeBack_1 : decode cX0_takeBack 1 = .ok (.getfield 21, 3) := by decide +kernel
theorem dX0_takeBack_4 : decode cX0_takeBack 4 = .ok (.ifCond .ne 5, 3) := by decide +kernel
theorem dX0_takeBack_7 : decode cX0_takeBack 7 = .ok (.iconst 0, 1) := by decide +kernel
theorem dX0_takeBack_8 : decode cX0_takeBack 8 = .ok (.ireturn, 1) := by decide +kernel
theorem dX0_takeBack_9 : decode cX0_takeBack 9 = .ok (.aload_n 0, 1) := by decide +kernel
theorem dX0_takeBack_10 : decode cX0_takeBack 10 = .ok (.dup, 1) := by decide +kernel
theorem dX0_takeBack_11 : decode cX0_takeBack 11 = .ok (.getfield 21, 3) := by decide +kernel
theorem dX0_takeBack_14 : decode cX0_takeBack 14 = .ok (.iconst 1, 1) := by decide +kernel
theorem dX0_takeBack_15 : decode cX0_takeBack 15 = .ok (.isub, 1) := by decide +kernel
theorem dX0_takeBack_16 : decode cX0_takeBack 16 = .ok (.putfield 21, 3) := by decide +kernel
theorem dX0_takeBack_19 : decode cX0_takeBack 19 = .ok (.aload_n 0, 1) := by decide +kernel
theorem dX0_takeBack_20 : decode cX0_takeBack 20 = .ok (.getfield 11, 3) := by decide +kernel
theorem dX0_takeBack_23 : decode cX0_takeBack 23 = .ok (.aload_n 0, 1) := by decide +kernel
theorem dX0_takeBack_24 : decode cX0_takeBack 24 = .ok (.getfield 17, 3) := by decide +kernel
theorem dX0_takeBack_27 : decode cX0_takeBack 27 = .ok (.aload_n 0, 1) := by decide +kernel
theorem dX0_takeBack_28 : decode cX0_takeBack 28 = .ok (.getfield 21, 3) := by decide +kernel
theorem dX0_takeBack_31 : decode cX0_takeBack 31 = .ok (.iadd, 1) := by decide +kernel
theorem dX0_takeBack_32 : decode cX0_takeBack 32 = .ok (.bipush 24, 2) := by decide +kernel
theorem dX0_takeBack_34 : decode cX0_takeBack 34 = .ok (.irem, 1) := by decide +kernel
theorem dX0_takeBack_35 : decode cX0_takeBack 35 = .ok (.aaload, 1) := by decide +kernel
theorem dX0_takeBack_36 : decode cX0_takeBack 36 = .ok (.astore_n 2, 1) := by decide +kernel
theorem dX0_takeBack_37 : decode cX0_takeBack 37 = .ok (.aload_n 2, 1) := by decide +kernel
theorem dX0_takeBack_38 : decode cX0_takeBack 38 = .ok (.ifnonnull 5, 3) := by decide +kernel
theorem dX0_takeBack_41 : decode cX0_takeBack 41 = .ok (.iconst 0, 1) := by decide +kernel
theorem dX0_takeBack_42 : decode cX0_takeBack 42 = .ok (.ireturn, 1) := by decide +kernel
theorem dX0_takeBack_43 : decode cX0_takeBack 43 = .ok (.aload_n 1, 1) := by decide +kernel
theorem dX0_takeBack_44 : decode cX0_takeBack 44 = .ok (.aload_n 2, 1) := by decide +kernel
theorem dX0_takeBack_45 : decode cX0_takeBack 45 = .ok (.invokevirtual 25, 3) := by decide +kernel
theorem dX0_takeBack_48 : decode cX0_takeBack 48 = .ok (.iconst 1, 1) := by decide +kernel
theorem dX0_takeBack_49 : decode cX0_takeBack 49 = .ok (.ireturn, 1) := by decide +kernel
theorem dX0_forgetAll_0 : decode cX0_forgetAll 0 = .ok (.aload_n 0, 1) := by decide +kernel
theorem dX0_forgetAll_1 : decode cX0_forgetAll 1 = .ok (.iconst 0, 1) := by decide +kernel
theorem dX0_forgetAll_2 : decode cX0_forgetAll 2 = .ok (.putfield 17, 3) := by decide +kernel
theorem dX0_forgetAll_5 : decode cX0_forgetAll 5 = .ok (.aload_n 0, 1) := by decide +kernel
theorem dX0_forgetAll_6 : decode cX0_forgetAll 6 = .ok (.iconst 0, 1) := by decide +kernel
theorem dX0_forgetAll_7 : decode cX0_forgetAll 7 = .ok (.putfield 21, 3) := by decide +kernel
theorem dX0_forgetAll_10 : decode cX0_forgetAll 10 = .ok (.return_, 1) := by decide +kernel
theorem dX1_init_0 : decode cX1_init 0 = .ok (.aload_n 0, 1) := by decide +kernel
theorem dX1_init_1 : decode cX1_init 1 = .ok (.invokespecial 3, 3) := by decide +kernel
theorem dX1_init_4 : decode cX1_init 4 = .ok (.aload_n 0, 1) := by decide +kernel
theorem dX1_init_5 : decode cX1_init 5 = .ok (.iconst 0, 1) := by decide +kernel
theorem dX1_init_6 : decode cX1_init 6 = .ok (.putfield 9, 3) := by decide +kernel
theorem dX1_init_9 : decode cX1_init 9 = .ok (.aload_n 0, 1) := by decide +kernel
theorem dX1_init_10 : decode cX1_init 10 = .ok (.iconst 0, 1) := by decide +kernel
theorem dX1_init_11 : decode cX1_init 11 = .ok (.putfield 15, 3) := by decide +kernel
theorem dX1_init_14 : decode cX1_init 14 = .ok (.aload_n 0, 1) := by decide +kernel
theorem dX1_init_15 : decode cX1_init 15 = .ok (.iconst 0, 1) := by decide +kernel
theorem dX1_init_16 : decode cX1_init 16 = .ok (.putfield 18, 3) := by decide +kernel
theorem dX1_init_19 : decode cX1_init 19 = .ok (.aload_n 0, 1) := by decide +kernel
theorem dX1_init_20 : decode cX1_init 20 = .ok (.iconst 0, 1) := by decide +kernel
theorem dX1_init_21 : decode cX1_init 21 = .ok (.putfield 21, 3) := by decide +kernel
theorem dX1_init_24 : decode cX1_init 24 = .ok (.aload_n 0, 1) := by decide +kernel
theorem dX1_init_25 : decode cX1_init 25 = .ok (.iconst 0, 1) := by decide +kernel
theorem dX1_init_26 : decode cX1_init 26 = .ok (.putfield 24, 3) := by decide +kernel
theorem dX1_init_29 : decode cX1_init 29 = .ok (.aload_n 0, 1) := by decide +kernel
theorem dX1_init_30 : decode cX1_init 30 = .ok (.iconst 0, 1) := by decide +kernel
theorem dX1_init_31 : decode cX1_init 31 = .ok (.putfield 27, 3) := by decide +kernel
theorem dX1_init_34 : decode cX1_init 34 = .ok (.aload_n 0, 1) := by decide +kernel
theorem dX1_init_35 : decode cX1_init 35 = .ok (.iconst 0, 1) := by decide +kernel
theorem dX1_init_36 : decode cX1_init 36 = .ok (.putfield 30, 3) := by decide +kernel
theorem dX1_init_39 : decode cX1_init 39 = .ok (.aload_n 0, 1) := by decide +kernel
theorem dX1_init_40 : decode cX1_init 40 = .ok (.bipush 7, 2) := by decide +kernel
theorem dX1_init_42 : decode cX1_init 42 = .ok (.newarray .int, 2) := by decide +kernel
theorem dX1_init_44 : decode cX1_init 44 = .ok (.putfield 33, 3) := by decide +kernel
theorem dX1_init_47 : decode cX1_init 47 = .ok (.aload_n 0, 1) := by decide +kernel
theorem dX1_init_48 : decode cX1_init 48 = .ok (.bipush 7, 2) := by decide +kernel
theorem dX1_init_50 : decode cX1_init 50 = .ok (.newarray .int, 2) := by decide +kernel
theorem dX1_init_52 : decode cX1_init 52 = .ok (.putfield 37, 3) := by decide +kernel
theorem dX1_init_55 : decode cX1_init 55 = .ok (.aload_n 0, 1) := by decide +kernel
theorem dX1_init_56 : decode cX1_init 56 = .ok (.bipush 7, 2) := by decide +kernel
theorem dX1_init_58 : decode cX1_init 58 = .ok (.newarray .int, 2) := by decide +kernel
theorem dX1_init_60 : decode cX1_init 60 = .ok (.putfield 40, 3) := by decide +kernel
theorem dX1_init_63 : decode cX1_init 63 = .ok (.aload_n 0, 1) := by decide +kernel
theorem dX1_init_64 : decode cX1_init 64 = .ok (.bipush 7, 2) := by decide +kernel
theorem dX1_init_66 : decode cX1_init 66 = .ok (.newarray .int, 2) := by decide +kernel
theorem dX1_init_68 : decode cX1_init 68 = .ok (.putfield 43, 3) := by decide +kernel
theorem dX1_init_71 : decode cX1_init 71 = .ok (.aload_n 0, 1) := by decide +kernel
theorem dX1_init_72 : decode cX1_init 72 = .ok (.bipush 7, 2) := by decide +kernel
theorem dX1_init_74 : decode cX1_init 74 = .ok (.newarray .int, 2) := by decide +kernel
theorem dX1_init_76 : decode cX1_init 76 = .ok (.putfield 46, 3) := by decide +kernel
theorem dX1_init_79 : decode cX1_init 79 = .ok (.return_, 1) := by decide +kernel
theorem dX1_clear_0 : decode cX1_clear 0 = .ok (.aload_n 0, 1) := by decide +kernel
theorem dX1_clear_1 : decode cX1_clear 1 = .ok (.iconst 0, 1) := by decide +kernel
theorem dX1_clear_2 : decode cX1_clear 2 = .ok (.putfield 9, 3) := by decide +kernel
theorem dX1_clear_5 : decode cX1_clear 5 = .ok (.aload_n 0, 1) := by decide +kernel
theorem dX1_clear_6 : decode cX1_clear 6 = .ok (.iconst 0, 1) := by decide +kernel
theorem dX1_clear_7 : decode cX1_clear 7 = .ok (.putfield 15, 3) := by decide +kernel
theorem dX1_clear_10 : decode cX1_clear 10 = .ok (.aload_n 0, 1) := by decide +kernel
theorem dX1_clear_11 : decode cX1_clear 11 = .ok (.iconst 0, 1) := by decide +kernel
theorem dX1_clear_12 : decode cX1_clear 12 = .ok (.putfield 18, 3) := by decide +kernel
theorem dX1_clear_15 : decode cX1_clear 15 = .ok (.aload_n 0, 1) := by decide +kernel
theorem dX1_clear_16 : decode cX1_clear 16 = .ok (.iconst 0, 1) := by decide +kernel
theorem dX1_clear_17 : decode cX1_clear 17 = .ok (.putfield 21, 3) := by decide +kernel
theorem dX1_clear_20 : decode cX1_clear 20 = .ok (.aload_n 0, 1) := by decide +kernel
theorem dX1_clear_21 : decode cX1_clear 21 = .ok (.iconst 0, 1) := by decide +kernel
theorem dX1_clear_22 : decode cX1_clear 22 = .ok (.putfield 24, 3) := by decide +kernel
theorem dX1_clear_25 : decode cX1_clear 25 = .ok (.aload_n 0, 1) := by decide +kernel
theorem dX1_clear_26 : decode cX1_clear 26 = .ok (.iconst 0, 1) := by decide +kernel
theorem dX1_clear_27 : decode cX1_clear 27 = .ok (.putfield 27, 3) := by decide +kernel
theorem dX1_clear_30 : decode cX1_clear 30 = .ok (.aload_n 0, 1) := by decide +kernel
theorem dX1_clear_31 : decode cX1_clear 31 = .ok (.iconst 0, 1) := by decide +kernel
theorem dX1_clear_32 : decode cX1_clear 32 = .ok (.putfield 30, 3) := by decide +kernel
theorem dX1_clear_35 : decode cX1_clear 35 = .ok (.return_, 1) := by decide +kernel
theorem dX1_become_0 : decode cX1_become 0 = .ok (.aload_n 0, 1) := by decide +kernel
theorem dX1_become_1 : decode cX1_become 1 = .ok (.aload_n 1, 1) := by decide +kernel
theorem dX1_become_2 : decode cX1_become 2 = .ok (.getfield 9, 3) := by decide +kernel
theorem dX1_become_5 : decode cX1_become 5 = .ok (.putfield 9, 3) := by decide +kernel
theorem dX1_become_8 : decode cX1_become 8 = .ok (.aload_n 0, 1) := by decide +kernel
theorem dX1_become_9 : decode cX1_become 9 = .ok (.aload_n 1, 1) := by decide +kernel
theorem dX1_become_10 : decode cX1_become 10 = .ok (.getfield 15, 3) := by decide +kernel
theorem dX1_become_13 : decode cX1_become 13 = .ok (.putfield 15, 3) := by decide +kernel
theorem dX1_become_16 : decode cX1_become 16 = .ok (.aload_n 0, 1) := by decide +kernel
theorem dX1_become_17 : decode cX1_become 17 = .ok (.aload_n 1, 1) := by decide +kernel
theorem dX1_become_18 : decode cX1_become 18 = .ok (.getfield 18, 3) := by decide +kernel
theorem dX1_become_21 : decode cX1_become 21 = .ok (.putfield 18, 3) := by decide +kernel
theorem dX1_become_24 : decode cX1_become 24 = .ok (.aload_n 0, 1) := by decide +kernel
theorem dX1_become_25 : decode cX1_become 25 = .ok (.aload_n 1, 1) := by decide +kernel
theorem dX1_become_26 : decode cX1_become 26 = .ok (.getfield 21, 3) := by decide +kernel
theorem dX1_become_29 : decode cX1_become 29 = .ok (.putfield 21, 3) := by decide +kernel
theorem dX1_become_32 : decode cX1_become 32 = .ok (.aload_n 0, 1) := by decide +kernel
theorem dX1_become_33 : decode cX1_become 33 = .ok (.aload_n 1, 1) := by decide +kernel
theorem dX1_become_34 : decode cX1_become 34 = .ok (.getfield 24, 3) := by decide +kernel
theorem dX1_become_37 : decode cX1_become 37 = .ok (.putfield 24, 3) := by decide +kernel
theorem dX1_become_40 : decode cX1_become 40 = .ok (.aload_n 0, 1) := by decide +kernel
theorem dX1_become_41 : decode cX1_become 41 = .ok (.aload_n 1, 1) := by decide +kernel
theorem dX1_become_42 : decode cX1_become 42 = .ok (.getfield 27, 3) := by decide +kernel
theorem dX1_become_45 : decode cX1_become 45 = .ok (.putfield 27, 3) := by decide +kernel
theorem dX1_become_48 : decode cX1_become 48 = .ok (.aload_n 0, 1) := by decide +kernel
theorem dX1_become_49 : decode cX1_become 49 = .ok (.aload_n 1, 1) := by decide +kernel
theorem dX1_become_50 : decode cX1_become 50 = .ok (.getfield 30, 3) := by decide +kernel
theorem dX1_become_53 : decode cX1_become 53 = .ok (.putfield 30, 3) := by decide +kernel
theorem dX1_become_56 : decode cX1_become 56 = .ok (.aload_n 1, 1) := by decide +kernel
theorem dX1_become_57 : decode cX1_become 57 = .ok (.getfield 33, 3) := by decide +kernel
theorem dX1_become_60 : decode cX1_become 60 = .ok (.iconst 0, 1) := by decide +kernel
theorem dX1_become_61 : decode cX1_become 61 = .ok (.aload_n 0, 1) := by decide +kernel
theorem dX1_become_62 : decode cX1_become 62 = .ok (.getfield 33, 3) := by decide +kernel
theorem dX1_become_65 : decode cX1_become 65 = .ok (.iconst 0, 1) := by decide +kernel
theorem dX1_become_66 : decode cX1_become 66 = .ok (.bipush 7, 2) := by decide +kernel
theorem dX1_become_68 : decode cX1_become 68 = .ok (.invokestatic 49, 3) := by decide +kernel
theorem dX1_become_71 : decode cX1_become 71 = .ok (.aload_n 1, 1) := by decide +kernel
theorem dX1_become_72 : decode cX1_become 72 = .ok (.getfield 37, 3) := by decide +kernel
theorem dX1_become_75 : decode cX1_become 75 = .ok (.iconst 0, 1) := by decide +kernel
theorem dX1_become_76 : decode cX1_become 76 = .ok (.aload_n 0, 1) := by decide +kernel
theorem dX1_become_77 : decode cX1_become 77 = .ok (.getfield 37, 3) := by decide +kernel
theorem dX1_become_80 : decode cX1_become 80 = .ok (.iconst 0, 1) := by decide +kernel
theorem dX1_become_81 : decode cX1_become 81 = .ok (.bipush 7, 2) := by decide +kernel
theorem dX1_become_83 : decode cX1_become 83 = .ok (.invokestatic 49, 3) := by decide +kernel
theorem dX1_become_86 : decode cX1_become 86 = .ok (.aload_n 1, 1) := by decide +kernel
theorem dX1_become_87 : decode cX1_become 87 = .ok (.getfield 40, 3) := by decide +kernel
theorem dX1_become_90 : decode cX1_become 90 = .ok (.iconst 0, 1) := by decide +kernel
theorem dX1_become_91 : decode cX1_become 91 = .ok (.aload_n 0, 1) := by decide +kernel
theorem dX1_become_92 : decode cX1_become 92 = .ok (.getfield 40, 3) := by decide +kernel
theorem dX1_become_95 : decode cX1_become 95 = .ok (.iconst 0, 1) := by decide +kernel
theorem dX1_become_96 : decode cX1_become 96 = .ok (.bipush 7, 2) := by decide +kernel
theorem dX1_become_98 : decode cX1_become 98 = .ok (.invokestatic 49, 3) := by decide +kernel
theorem dX1_become_101 : decode cX1_become 101 = .ok (.aload_n 1, 1) := by decide +kernel
theorem dX1_become_102 : decode cX1_become 102 = .ok (.getfield 43, 3) := by decide +kernel
theorem dX1_become_105 : decode cX1_become 105 = .ok (.iconst 0, 1) := by decide +kernel
theorem dX1_become_106 : decode cX1_become 106 = .ok (.aload_n 0, 1) := by decide +kernel
theorem dX1_become_107 : decode cX1_become 107 = .ok (.getfield 43, 3) := by decide +kernel
theorem dX1_become_110 : decode cX1_become 110 = .ok (.iconst 0, 1) := by decide +kernel
theorem dX1_become_111 : decode cX1_become 111 = .ok (.bipush 7, 2) := by decide +kernel
theorem dX1_become_113 : decode cX1_become 113 = .ok (.invokestatic 49, 3) := by decide +kernel
theorem dX1_become_116 : decode cX1_become 116 = .ok (.aload_n 1, 1) := by decide +kernel
theorem dX1_become_117 : decode cX1_become 117 = .ok (.getfield 46, 3) := by decide +kernel
theorem dX1_become_120 : decode cX1_become 120 = .ok (.iconst 0, 1) := by decide +kernel
theorem dX1_become_121 : decode cX1_become 121 = .ok (.aload_n 0, 1) := by decide +kernel
theorem dX1_become_122 : decode cX1_become 122 = .ok (.getfield 46, 3) := by decide +kernel
theorem dX1_become_125 : decode cX1_become 125 = .ok (.iconst 0, 1) := by decide +kernel
theorem dX1_become_126 : decode cX1_become 126 = .ok (.bipush 7, 2) := by decide +kernel
theorem dX1_become_128 : decode cX1_become 128 = .ok (.invokestatic 49, 3) := by decide +kernel
theorem dX1_become_131 : decode cX1_become 131 = .ok (.return_, 1) := by decide +kernel
set_option maxRecDepth 20000 in
theorem ggX1_addOath_X1_openTo : GoodIn wsX1_addOath wsX1_openTo := goodIn_r _ [8, 9, 10, 11, 12, 13, 14, 15, 16, 17, 18, 19, 20, 21, 22, 23] (by decide +kernel) (by decide +kernel)
set_option maxRecDepth 20000 in
theorem gX1_addOath_X1_openTo : GoodIn wsX1_addOath (wsV RX1 55 RX1 yX1_openTo wsX1_openTo) := goodIn_app (goodIn_of _ (by decide +kernel)) ggX1_addOath_X1_openTo
theorem dX1_addOath_0 : decode cX1_addOath 0 = .ok (.aload_n 0, 1) := by decide +kernel
theorem dX1_addOath_1 : decode cX1_addOath 1 = .ok (.getfield 24, 3) := by decide +kernel
theorem dX1_addOath_4 : decode cX1_addOath 4 = .ok (.bipush 7, 2) := by decide +kernel
theorem dX1_addOath_6 : decode cX1_addOath 6 = .ok (.if_icmp .lt 4, 3) := by decide +kernel
theorem dX1_addOath_9 : decode cX1_addOath 9 = .ok (.return_, 1) := by decide +kernel
theorem dX1_addOath_10 : decode cX1_addOath 10 = .ok (.aload_n 0, 1) := by decide +kernel
theorem dX1_addOath_11 : decode cX1_addOath 11 = .ok (.getfield 33, 3) := by decide +kernel
theorem dX1_addOath_14 : decode cX1_addOath 14 = .ok (.aload_n 0, 1) := by decide +kernel
theorem dX1_addOath_15 : decode cX1_addOath 15 = .ok (.getfield 24, 3) := by decide +kernel
theorem dX1_addOath_18 : decode cX1_addOath 18 = .ok (.iload_n 1, 1) := by decide +kernel
theorem dX1_addOath_19 : decode cX1_addOath 19 = .ok (.iastore, 1) := by decide +kernel
theorem dX1_addOath_20 : decode cX1_addOath 20 = .ok (.aload_n 0, 1) := by decide +kernel
theorem dX1_addOath_21 : decode cX1_addOath 21 = .ok (.getfield 43, 3) := by decide +kernel
theorem dX1_addOath_24 : decode cX1_addOath 24 = .ok (.aload_n 0, 1) := by decide +kernel
theorem dX1_addOath_25 : decode cX1_addOath 25 = .ok (.getfield 24, 3) := by decide +kernel
theorem dX1_addOath_28 : decode cX1_addOath 28 = .ok (.iload 4, 2) := by decide +kernel
theorem dX1_addOath_30 : decode cX1_addOath 30 = .ok (.iastore, 1) := by decide +kernel
theorem dX1_addOath_31 : decode cX1_addOath 31 = .ok (.aload_n 0, 1) := by decide +kernel
theorem dX1_addOath_32 : decode cX1_addOath 32 = .ok (.aload_n 0, 1) := by decide +kernel
theorem dX1_addOath_33 : decode cX1_addOath 33 = .ok (.getfield 24, 3) := by decide +kernel
theorem dX1_addOath_36 : decode cX1_addOath 36 = .ok (.iload_n 2, 1) := by decide +kernel
theorem dX1_addOath_37 : decode cX1_addOath 37 = .ok (.iload_n 3, 1) := by decide +kernel
theorem dX1_addOath_38 : decode cX1_addOath 38 = .ok (.invokevirtual 55, 3) := by decide +kernel
theorem dX1_addOath_41 : decode cX1_addOath 41 = .ok (.aload_n 0, 1) := by decide +kernel
theorem dX1_addOath_42 : decode cX1_addOath 42 = .ok (.dup, 1) := by decide +kernel
theorem dX1_addOath_43 : decode cX1_addOath 43 = .ok (.getfield 24, 3) := by decide +kernel
theorem dX1_addOath_46 : decode cX1_addOath 46 = .ok (.iconst 1, 1) := by decide +kernel
theorem dX1_addOath_47 : decode cX1_addOath 47 = .ok (.iadd, 1) := by decide +kernel
theorem dX1_addOath_48 : decode cX1_addOath 48 = .ok (.putfield 24, 3) := by decide +kernel
theorem dX1_addOath_51 : decode cX1_addOath 51 = .ok (.return_, 1) := by decide +kernel
theorem dX1_openTo_0 : decode cX1_openTo 0 = .ok (.aload_n 0, 1) := by decide +kernel
theorem dX1_openTo_1 : decode cX1_openTo 1 = .ok (.getfield 37, 3) := by decide +kernel
theorem dX1_openTo_4 : decode cX1_openTo 4 = .ok (.iload_n 1, 1) := by decide +kernel
theorem dX1_openTo_5 : decode cX1_openTo 5 = .ok (.iload_n 2, 1) := by decide +kernel
theorem dX1_openTo_6 : decode cX1_openTo 6 = .ok (.iastore, 1) := by decide +kernel
theorem dX1_openTo_7 : decode cX1_openTo 7 = .ok (.aload_n 0, 1) := by decide +kernel
theorem dX1_openTo_8 : decode cX1_openTo 8 = .ok (.getfield 40, 3) := by decide +kernel
theorem dX1_openTo_11 : decode cX1_openTo 11 = .ok (.iload_n 1, 1) := by decide +kernel
theorem dX1_openTo_12 : decode cX1_openTo 12 = .ok (.iload_n 3, 1) := by decide +kernel
theorem dX1_openTo_13 : decode cX1_openTo 13 = .ok (.iastore, 1) := by decide +kernel
theorem dX1_openTo_14 : decode cX1_openTo 14 = .ok (.aload_n 0, 1) := by decide +kernel
theorem dX1_openTo_15 : decode cX1_openTo 15 = .ok (.getfield 46, 3) := by decide +kernel
theorem dX1_openTo_18 : decode cX1_openTo 18 = .ok (.iload_n 1, 1) := by decide +kernel
theorem dX1_openTo_19 : decode cX1_openTo 19 = .ok (.iconst 0, 1) := by decide +kernel
theorem dX1_openTo_20 : decode cX1_openTo 20 = .ok (.iastore, 1) := by decide +kernel
theorem dX1_openTo_21 : decode cX1_openTo 21 = .ok (.return_, 1) := by decide +kernel
set_option maxRecDepth 20000 in
theorem ggX1_openByDraw_X1_openTo : GoodIn wsX1_openByDraw wsX1_openTo := goodIn_r _ [8, 9, 3, 10, 11, 12, 13, 14, 15, 16, 17, 18, 19, 20, 21, 22] (by decide +kernel) (by decide +kernel)
set_option maxRecDepth 20000 in
theorem gX1_openByDraw_X1_openTo : GoodIn wsX1_openByDraw (wsV RX1 55 RX1 yX1_openTo wsX1_openTo) := goodIn_app (goodIn_of _ (by decide +kernel)) ggX1_openByDraw_X1_openTo
theorem dX1_openByDraw_0 : decode cX1_openByDraw 0 = .ok (.aload_n 0, 1) := by decide +kernel
theorem dX1_openByDraw_1 : decode cX1_openByDraw 1 = .ok (.getfield 24, 3) := by decide +kernel
theorem dX1_openByDraw_4 : decode cX1_openByDraw 4 = .ok (.ifCond .le 35, 3) := by decide +kernel
theorem dX1_openByDraw_7 : decode cX1_openByDraw 7 = .ok (.lload_n 1, 1) := by decide +kernel
theorem dX1_openByDraw_8 : decode cX1_openByDraw 8 = .ok (.lconst 0, 1) := by decide +kernel
theorem dX1_openByDraw_9 : decode cX1_openByDraw 9 = .ok (.lcmp, 1) := by decide +kernel
theorem dX1_openByDraw_10 : decode cX1_openByDraw 10 = .ok (.ifCond .lt 29, 3) := by decide +kernel
theorem dX1_openByDraw_13 : decode cX1_openByDraw 13 = .ok (.lload_n 1, 1) := by decide +kernel
theorem dX1_openByDraw_14 : decode cX1_openByDraw 14 = .ok (.aload_n 0, 1) := by decide +kernel
theorem dX1_openByDraw_15 : decode cX1_openByDraw 15 = .ok (.getfield 24, 3) := by decide +kernel
theorem dX1_openByDraw_18 : decode cX1_openByDraw 18 = .ok (.i2l, 1) := by decide +kernel
theorem dX1_openByDraw_19 : decode cX1_openByDraw 19 = .ok (.lrem, 1) := by decide +kernel
theorem dX1_openByDraw_20 : decode cX1_openByDraw 20 = .ok (.l2i, 1) := by decide +kernel
theorem dX1_openByDraw_21 : decode cX1_openByDraw 21 = .ok (.istore_n 3, 1) := by decide +kernel
theorem dX1_openByDraw_22 : decode cX1_openByDraw 22 = .ok (.aload_n 0, 1) := by decide +kernel
theorem dX1_openByDraw_23 : decode cX1_openByDraw 23 = .ok (.iload_n 3, 1) := by decide +kernel
theorem dX1_openByDraw_24 : decode cX1_openByDraw 24 = .ok (.lload_n 1, 1) := by decide +kernel
theorem dX1_openByDraw_25 : decode cX1_openByDraw 25 = .ok (.ldc2_w 59, 3) := by decide +kernel
theorem dX1_openByDraw_28 : decode cX1_openByDraw 28 = .ok (.lrem, 1) := by decide +kernel
theorem dX1_openByDraw_29 : decode cX1_openByDraw 29 = .ok (.l2i, 1) := by decide +kernel
theorem dX1_openByDraw_30 : decode cX1_openByDraw 30 = .ok (.aload_n 0, 1) := by decide +kernel
theorem dX1_openByDraw_31 : decode cX1_openByDraw 31 = .ok (.getfield 40, 3) := by decide +kernel
theorem dX1_openByDraw_34 : decode cX1_openByDraw 34 = .ok (.iload_n 3, 1) := by decide +kernel
theorem dX1_openByDraw_35 : decode cX1_openByDraw 35 = .ok (.iaload, 1) := by decide +kernel
theorem dX1_openByDraw_36 : decode cX1_openByDraw 36 = .ok (.invokevirtual 55, 3) := by decide +kernel
theorem dX1_openByDraw_39 : decode cX1_openByDraw 39 = .ok (.return_, 1) := by decide +kernel
theorem dX1_openBits_0 : decode cX1_openBits 0 = .ok (.iconst 0, 1) := by decide +kernel
theorem dX1_openBits_1 : decode cX1_openBits 1 = .ok (.istore_n 1, 1) := by decide +kernel
theorem dX1_openBits_2 : decode cX1_openBits 2 = .ok (.iconst 0, 1) := by decide +kernel
theorem dX1_openBits_3 : decode cX1_openBits 3 = .ok (.istore_n 2, 1) := by decide +kernel
theorem dX1_openBits_4 : decode cX1_openBits 4 = .ok (.iload_n 2, 1) := by decide +kernel
theorem dX1_openBits_5 : decode cX1_openBits 5 = .ok (.aload_n 0, 1) := by decide +kernel
theorem dX1_openBits_6 : decode cX1_openBits 6 = .ok (.getfield 24, 3) := by decide +kernel
theorem dX1_openBits_9 : decode cX1_openBits 9 = .ok (.if_icmp .ge 24, 3) := by decide +kernel
theorem dX1_openBits_12 : decode cX1_openBits 12 = .ok (.aload_n 0, 1) := by decide +kernel
theorem dX1_openBits_13 : decode cX1_openBits 13 = .ok (.getfield 46, 3) := by decide +kernel
theorem dX1_openBits_16 : decode cX1_openBits 16 = .ok (.iload_n 2, 1) := by decide +kernel
theorem dX1_openBits_17 : decode cX1_openBits 17 = .ok (.iaload, 1) := by decide +kernel
theorem dX1_openBits_18 : decode cX1_openBits 18 = .ok (.ifCond .ne 9, 3) := by decide +kernel
theorem dX1_openBits_21 : decode cX1_openBits 21 = .ok (.iload_n 1, 1) := by decide +kernel
theorem dX1_openBits_22 : decode cX1_openBits 22 = .ok (.iconst 1, 1) := by decide +kernel
theorem dX1_openBits_23 : decode cX1_openBits 23 = .ok (.iload_n 2, 1) := by decide +kernel
theorem dX1_openBits_24 : decode cX1_openBits 24 = .ok (.ishl, 1) := by decide +kernel
theorem dX1_openBits_25 : decode cX1_openBits 25 = .ok (.ior, 1) := by decide +kernel
theorem dX1_openBits_26 : decode cX1_openBits 26 = .ok (.istore_n 1, 1) := by decide +kernel
theorem dX1_openBits_27 : decode cX1_openBits 27 = .ok (.iinc 2 1, 3) := by decide +kernel
theorem dX1_openBits_30 : decode cX1_openBits 30 = .ok (.goto (-26), 3) := by decide +kernel
theorem dX1_openBits_33 : decode cX1_openBits 33 = .ok (.iload_n 1, 1) := by decide +kernel
theorem dX1_openBits_34 : decode cX1_openBits 34 = .ok (.ireturn, 1) := by decide +kernel
theorem dX1_pullOf_0 : decode cX1_pullOf 0 = .ok (.aload_n 0, 1) := by decide +kernel
theorem dX1_pullOf_1 : decode cX1_pullOf 1 = .ok (.getfield 46, 3) := by decide +kernel
theorem dX1_pullOf_4 : decode cX1_pullOf 4 = .ok (.iload_n 1, 1) := by decide +kernel
theorem dX1_pullOf_5 : decode cX1_pullOf 5 = .ok (.iaload, 1) := by decide +kernel
theorem dX1_pullOf_6 : decode cX1_pullOf 6 = .ok (.ifCond .ne 19, 3) := by decide +kernel
theorem dX1_pullOf_9 : decode cX1_pullOf 9 = .ok (.aload_n 0, 1) := by decide +kernel
theorem dX1_pullOf_10 : decode cX1_pullOf 10 = .ok (.getfield 21, 3) := by decide +kernel
theorem dX1_pullOf_13 : decode cX1_pullOf 13 = .ok (.aload_n 0, 1) := by decide +kernel
theorem dX1_pullOf_14 : decode cX1_pullOf 14 = .ok (.getfield 37, 3) := by decide +kernel
theorem dX1_pullOf_17 : decode cX1_pullOf 17 = .ok (.iload_n 1, 1) := by decide +kernel
theorem dX1_pullOf_18 : decode cX1_pullOf 18 = .ok (.iaload, 1) := by decide +kernel
theorem dX1_pullOf_19 : decode cX1_pullOf 19 = .ok (.ishr, 1) := by decide +kernel
theorem dX1_pullOf_20 : decode cX1_pullOf 20 = .ok (.iconst 1, 1) := by decide +kernel
theorem dX1_pullOf_21 : decode cX1_pullOf 21 = .ok (.iand, 1) := by decide +kernel
theorem dX1_pullOf_22 : decode cX1_pullOf 22 = .ok (.ifCond .eq 5, 3) := by decide +kernel
theorem dX1_pullOf_25 : decode cX1_pullOf 25 = .ok (.iconst 0, 1) := by decide +kernel
theorem dX1_pullOf_26 : decode cX1_pullOf 26 = .ok (.ireturn, 1) := by decide +kernel
theorem dX1_pullOf_27 : decode cX1_pullOf 27 = .ok (.aload_n 0, 1) := by decide +kernel
theorem dX1_pullOf_28 : decode cX1_pullOf 28 = .ok (.getfield 18, 3) := by decide +kernel
theorem dX1_pullOf_31 : decode cX1_pullOf 31 = .ok (.aload_n 0, 1) := by decide +kernel
theorem dX1_pullOf_32 : decode cX1_pullOf 32 = .ok (.getfield 43, 3) := by decide +kernel
theorem dX1_pullOf_35 : decode cX1_pullOf 35 = .ok (.iload_n 1, 1) := by decide +kernel
theorem dX1_pullOf_36 : decode cX1_pullOf 36 = .ok (.iaload, 1) := by decide +kernel
theorem dX1_pullOf_37 : decode cX1_pullOf 37 = .ok (.if_icmp .lt 8, 3) := by decide +kernel
theorem dX1_pullOf_40 : decode cX1_pullOf 40 = .ok (.bipush 10, 2) := by decide +kernel
theorem dX1_pullOf_42 : decode cX1_pullOf 42 = .ok (.goto 4, 3) := by decide +kernel
theorem dX1_pullOf_45 : decode cX1_pullOf 45 = .ok (.iconst 0, 1) := by decide +kernel
theorem dX1_pullOf_46 : decode cX1_pullOf 46 = .ok (.istore_n 2, 1) := by decide +kernel
theorem dX1_pullOf_47 : decode cX1_pullOf 47 = .ok (.aload_n 0, 1) := by decide +kernel
theorem dX1_pullOf_48 : decode cX1_pullOf 48 = .ok (.getfield 33, 3) := by decide +kernel
theorem dX1_pullOf_51 : decode cX1_pullOf 51 = .ok (.iload_n 1, 1) := by decide +kernel
theorem dX1_pullOf_52 : decode cX1_pullOf 52 = .ok (.iaload, 1) := by decide +kernel
theorem dX1_pullOf_53 : decode cX1_pullOf 53 = .ok (.tableswitch 93 1 5 #[35, 44, 55, 93, 66], 35) := by decide +kernel
theorem dX1_pullOf_88 : decode cX1_pullOf 88 = .ok (.aload_n 0, 1) := by decide +kernel
theorem dX1_pullOf_89 : decode cX1_pullOf 89 = .ok (.getfield 40, 3) := by decide +kernel
theorem dX1_pullOf_92 : decode cX1_pullOf 92 = .ok (.iload_n 1, 1) := by decide +kernel
theorem dX1_pullOf_93 : decode cX1_pullOf 93 = .ok (.iaload, 1) := by decide +kernel
theorem dX1_pullOf_94 : decode cX1_pullOf 94 = .ok (.iload_n 2, 1) := by decide +kernel
theorem dX1_pullOf_95 : decode cX1_pullOf 95 = .ok (.iadd, 1) := by decide +kernel
theorem dX1_pullOf_96 : decode cX1_pullOf 96 = .ok (.ireturn, 1) := by decide +kernel
theorem dX1_pullOf_97 : decode cX1_pullOf 97 = .ok (.iconst 3, 1) := by decide +kernel
theorem dX1_pullOf_98 : decode cX1_pullOf 98 = .ok (.aload_n 0, 1) := by decide +kernel
theorem dX1_pullOf_99 : decode cX1_pullOf 99 = .ok (.getfield 40, 3) := by decide +kernel
theorem dX1_pullOf_102 : decode cX1_pullOf 102 = .ok (.iload_n 1, 1) := by decide +kernel
theorem dX1_pullOf_103 : decode cX1_pullOf 103 = .ok (.iaload, 1) := by decide +kernel
theorem dX1_pullOf_104 : decode cX1_pullOf 104 = .ok (.imul, 1) := by decide +kernel
theorem dX1_pullOf_105 : decode cX1_pullOf 105 = .ok (.iload_n 2, 1) := by decide +kernel
theorem dX1_pullOf_106 : decode cX1_pullOf 106 = .ok (.iadd, 1) := by decide +kernel
theorem dX1_pullOf_107 : decode cX1_pullOf 107 = .ok (.ireturn, 1) := by decide +kernel
theorem dX1_pullOf_108 : decode cX1_pullOf 108 = .ok (.aload_n 0, 1) := by decide +kernel
theorem dX1_pullOf_109 : decode cX1_pullOf 109 = .ok (.getfield 40, 3) := by decide +kernel
theorem dX1_pullOf_112 : decode cX1_pullOf 112 = .ok (.iload_n 1, 1) := by decide +kernel
theorem dX1_pullOf_113 : decode cX1_pullOf 113 = .ok (.iaload, 1) := by decide +kernel
theorem dX1_pullOf_114 : decode cX1_pullOf 114 = .ok (.iconst 2, 1) := by decide +kernel
theorem dX1_pullOf_115 : decode cX1_pullOf 115 = .ok (.idiv, 1) := by decide +kernel
theorem dX1_pullOf_116 : decode cX1_pullOf 116 = .ok (.iload_n 2, 1) := by decide +kernel
theorem dX1_pullOf_117 : decode cX1_pullOf 117 = .ok (.iadd, 1) := by decide +kernel
theorem dX1_pullOf_118 : decode cX1_pullOf 118 = .ok (.ireturn, 1) := by decide +kernel
theorem dX1_pullOf_119 : decode cX1_pullOf 119 = .ok (.aload_n 0, 1) := by decide +kernel
theorem dX1_pullOf_120 : decode cX1_pullOf 120 = .ok (.getfield 18, 3) := by decide +kernel
theorem dX1_pullOf_123 : decode cX1_pullOf 123 = .ok (.iconst 2, 1) := by decide +kernel
theorem dX1_pullOf_124 : decode cX1_pullOf 124 = .ok (.irem, 1) := by decide +kernel
theorem dX1_pullOf_125 : decode cX1_pullOf 125 = .ok (.ifCond .ne 14, 3) := by decide +kernel
theorem dX1_pullOf_128 : decode cX1_pullOf 128 = .ok (.aload_n 0, 1) := by decide +kernel
theorem dX1_pullOf_129 : decode cX1_pullOf 129 = .ok (.getfield 40, 3) := by decide +kernel
theorem dX1_pullOf_132 : decode cX1_pullOf 132 = .ok (.iload_n 1, 1) := by decide +kernel
theorem dX1_pullOf_133 : decode cX1_pullOf 133 = .ok (.iaload, 1) := by decide +kernel
theorem dX1_pullOf_134 : decode cX1_pullOf 134 = .ok (.iconst 5, 1) := by decide +kernel
theorem dX1_pullOf_135 : decode cX1_pullOf 135 = .ok (.iadd, 1) := by decide +kernel
theorem dX1_pullOf_136 : decode cX1_pullOf 136 = .ok (.goto 9, 3) := by decide +kernel
theorem dX1_pullOf_139 : decode cX1_pullOf 139 = .ok (.aload_n 0, 1) := by decide +kernel
theorem dX1_pullOf_140 : decode cX1_pullOf 140 = .ok (.getfield 40, 3) := by decide +kernel
theorem dX1_pullOf_143 : decode cX1_pullOf 143 = .ok (.iload_n 1, 1) := by decide +kernel
theorem dX1_pullOf_144 : decode cX1_pullOf 144 = .ok (.iaload, 1) := by decide +kernel
theorem dX1_pullOf_145 : decode cX1_pullOf 145 = .ok (.ireturn, 1) := by decide +kernel
theorem dX1_pullOf_146 : decode cX1_pullOf 146 = .ok (.aload_n 0, 1) := by decide +kernel
theorem dX1_pullOf_147 : decode cX1_pullOf 147 = .ok (.getfield 40, 3) := by decide +kernel
theorem dX1_pullOf_150 : decode cX1_pullOf 150 = .ok (.iload_n 1, 1) := by decide +kernel
theorem dX1_pullOf_151 : decode cX1_pullOf 151 = .ok (.iaload, 1) := by decide +kernel
theorem dX1_pullOf_152 : decode cX1_pullOf 152 = .ok (.iconst 5, 1) := by decide +kernel
theorem dX1_pullOf_153 : decode cX1_pullOf 153 = .ok (.iadd, 1) := by decide +kernel
theorem dX1_pullOf_154 : decode cX1_pullOf 154 = .ok (.ireturn, 1) := by decide +kernel
set_option maxRecDepth 20000 in
theorem ggX1_puller_X1_pullOf : GoodIn wsX1_puller wsX1_pullOf := goodIn_r _ [7, 8, 9, 10, 11, 12, 13, 14, 15, 16, 17, 18, 19, 20, 21, 22, 23, 24, 25, 26] (by decide +kernel) (by decide +kernel)
set_option maxRecDepth 20000 in
theorem gX1_puller_X1_pullOf : GoodIn wsX1_puller (wsV RX1 62 RX1 yX1_pullOf wsX1_pullOf) := goodIn_app (goodIn_of _ (by decide +kernel)) ggX1_puller_X1_pullOf
theorem dX1_puller_0 : decode cX1_puller 0 = .ok (.ldc 61, 2) := by decide +kernel
theorem dX1_puller_2 : decode cX1_puller 2 = .ok (.istore_n 2, 1) := by decide +kernel
theorem dX1_puller_3 : decode cX1_puller 3 = .ok (.iconst 0, 1) := by decide +kernel
theorem dX1_puller_4 : decode cX1_puller 4 = .ok (.istore_n 3, 1) := by decide +kernel
theorem dX1_puller_5 : decode cX1_puller 5 = .ok (.iconst 0, 1) := by decide +kernel
theorem dX1_puller_6 : decode cX1_puller 6 = .ok (.istore 4, 2) := by decide +kernel
theorem dX1_puller_8 : decode cX1_puller 8 = .ok (.iload 4, 2) := by decide +kernel
theorem dX1_puller_10 : decode cX1_puller 10 = .ok (.aload_n 0, 1) := by decide +kernel
theorem dX1_puller_11 : decode cX1_puller 11 = .ok (.getfield 24, 3) := by decide +kernel
theorem dX1_puller_14 : decode cX1_puller 14 = .ok (.if_icmp .ge 42, 3) := by decide +kernel
theorem dX1_puller_17 : decode cX1_puller 17 = .ok (.iload_n 1, 1) := by decide +kernel
theorem dX1_puller_18 : decode cX1_puller 18 = .ok (.iload 4, 2) := by decide +kernel
theorem dX1_puller_20 : decode cX1_puller 20 = .ok (.ishr, 1) := by decide +kernel
theorem dX1_puller_21 : decode cX1_puller 21 = .ok (.iconst 1, 1) := by decide +kernel
theorem dX1_puller_22 : decode cX1_puller 22 = .ok (.iand, 1) := by decide +kernel
theorem dX1_puller_23 : decode cX1_puller 23 = .ok (.ifCond .eq 7, 3) := by decide +kernel
theorem dX1_puller_26 : decode cX1_puller 26 = .ok (.iconst 0, 1) := by decide +kernel
theorem dX1_puller_27 : decode cX1_puller 27 = .ok (.goto 9, 3) := by decide +kernel
theorem dX1_puller_30 : decode cX1_puller 30 = .ok (.aload_n 0, 1) := by decide +kernel
theorem dX1_puller_31 : decode cX1_puller 31 = .ok (.iload 4, 2) := by decide +kernel
theorem dX1_puller_33 : decode cX1_puller 33 = .ok (.invokevirtual 62, 3) := by decide +kernel
theorem dX1_puller_36 : decode cX1_puller 36 = .ok (.istore 5, 2) := by decide +kernel
theorem dX1_puller_38 : decode cX1_puller 38 = .ok (.iload 5, 2) := by decide +kernel
theorem dX1_puller_40 : decode cX1_puller 40 = .ok (.iload_n 3, 1) := by decide +kernel
theorem dX1_puller_41 : decode cX1_puller 41 = .ok (.if_icmp .le 9, 3) := by decide +kernel
theorem dX1_puller_44 : decode cX1_puller 44 = .ok (.iload 4, 2) := by decide +kernel
theorem dX1_puller_46 : decode cX1_puller 46 = .ok (.istore_n 2, 1) := by decide +kernel
theorem dX1_puller_47 : decode cX1_puller 47 = .ok (.iload 5, 2) := by decide +kernel
theorem dX1_puller_49 : decode cX1_puller 49 = .ok (.istore_n 3, 1) := by decide +kernel
theorem dX1_puller_50 : decode cX1_puller 50 = .ok (.iinc 4 1, 3) := by decide +kernel
theorem dX1_puller_53 : decode cX1_puller 53 = .ok (.goto (-45), 3) := by decide +kernel
theorem dX1_puller_56 : decode cX1_puller 56 = .ok (.iload_n 2, 1) := by decide +kernel
theorem dX1_puller_57 : decode cX1_puller 57 = .ok (.ireturn, 1) := by decide +kernel
set_option maxRecDepth 20000 in
theorem ggX1_placeNext_X1_puller : GoodIn wsX1_placeNext wsX1_puller := goodIn_r _ [7, 8, 9, 10, 11, 12, 6, 13, 14, 15, 2, 16, 17, 18, 19, 24, 25, 26, 27, 28, 29, 30, 31, 32, 33, 34, 35] (by decide +kernel) (by decide +kernel)
set_option maxRecDepth 20000 in
theorem gX1_placeNext_X1_puller : GoodIn wsX1_placeNext (wsV RX1 66 RX1 yX1_puller wsX1_puller) := goodIn_app (goodIn_of _ (by decide +kernel)) ggX1_placeNext_X1_puller
set_option maxRecDepth 20000 in
theorem ggX1_placeNext_J6_signum_0f7a4 : GoodIn wsX1_placeNext wsJ6_signum_0f7a4 := goodIn_r _ [23] (by decide +kernel) (by decide +kernel)
set_option maxRecDepth 20000 in
theorem gX1_placeNext_J6_signum_0f7a4 : GoodIn wsX1_placeNext (va_wsS RX1 69 yJ6_signum_0f7a4 wsJ6_signum_0f7a4) := goodIn_app (goodIn_of _ (by decide +kernel)) ggX1_placeNext_J6_signum_0f7a4
theorem dX1_placeNext_0 : decode cX1_placeNext 0 = .ok (.aload_n 0, 1) := by decide +kernel
theorem dX1_placeNext_1 : decode cX1_placeNext 1 = .ok (.iload_n 1, 1) := by decide +kernel
theorem dX1_placeNext_2 : decode cX1_placeNext 2 = .ok (.invokevirtual 66, 3) := by decide +kernel
theorem dX1_placeNext_5 : decode cX1_placeNext 5 = .ok (.istore_n 2, 1) := by decide +kernel
theorem dX1_placeNext_6 : decode cX1_placeNext 6 = .ok (.iload_n 2, 1) := by decide +kernel
theorem dX1_placeNext_7 : decode cX1_placeNext 7 = .ok (.ifCond .ge 10, 3) := by decide +kernel
theorem dX1_placeNext_10 : decode cX1_placeNext 10 = .ok (.aload_n 0, 1) := by decide +kernel
theorem dX1_placeNext_11 : decode cX1_placeNext 11 = .ok (.getfield 9, 3) := by decide +kernel
theorem dX1_placeNext_14 : decode cX1_placeNext 14 = .ok (.goto 22, 3) := by decide +kernel
theorem dX1_placeNext_17 : decode cX1_placeNext 17 = .ok (.aload_n 0, 1) := by decide +kernel
theorem dX1_placeNext_18 : decode cX1_placeNext 18 = .ok (.getfield 9, 3) := by decide +kernel
theorem dX1_placeNext_21 : decode cX1_placeNext 21 = .ok (.aload_n 0, 1) := by decide +kernel
theorem dX1_placeNext_22 : decode cX1_placeNext 22 = .ok (.getfield 37, 3) := by decide +kernel
theorem dX1_placeNext_25 : decode cX1_placeNext 25 = .ok (.iload_n 2, 1) := by decide +kernel
theorem dX1_placeNext_26 : decode cX1_placeNext 26 = .ok (.iaload, 1) := by decide +kernel
theorem dX1_placeNext_27 : decode cX1_placeNext 27 = .ok (.aload_n 0, 1) := by decide +kernel
theorem dX1_placeNext_28 : decode cX1_placeNext 28 = .ok (.getfield 9, 3) := by decide +kernel
theorem dX1_placeNext_31 : decode cX1_placeNext 31 = .ok (.isub, 1) := by decide +kernel
theorem dX1_placeNext_32 : decode cX1_placeNext 32 = .ok (.invokestatic 69, 3) := by decide +kernel
theorem dX1_placeNext_35 : decode cX1_placeNext 35 = .ok (.iadd, 1) := by decide +kernel
theorem dX1_placeNext_36 : decode cX1_placeNext 36 = .ok (.ireturn, 1) := by decide +kernel
set_option maxRecDepth 20000 in
theorem ggX1_passHour_X1_placeNext : GoodIn wsX1_passHour wsX1_placeNext := goodIn_r _ [7, 1, 8, 9, 10, 11, 6, 12, 13, 14, 15, 16, 17, 18, 19, 20, 2, 21, 22, 23, 24, 25, 26, 27, 38, 39, 40, 41, 42, 43, 44, 45, 46, 47, 48, 49] (by decide +kernel) (by decide +kernel)
set_option maxRecDepth 20000 in
theorem gX1_passHour_X1_placeNext : GoodIn wsX1_passHour (wsV RX1 74 RX1 yX1_placeNext wsX1_placeNext) := goodIn_app (goodIn_of _ (by decide +kernel)) ggX1_passHour_X1_placeNext
set_option maxRecDepth 20000 in
theorem ggX1_passHour_X1_meet : GoodIn wsX1_passHour wsX1_meet := goodIn_r _ [31, 14, 19, 8, 1, 22, 32, 33, 38, 39, 40, 41, 42, 43, 44, 45, 46, 47, 48, 49] (by decide +kernel) (by decide +kernel)
set_option maxRecDepth 20000 in
theorem gX1_passHour_X1_meet : GoodIn wsX1_passHour (wsV RX1 77 RX1 yX1_meet wsX1_meet) := goodIn_app (goodIn_of _ (by decide +kernel)) ggX1_passHour_X1_meet
set_option maxRecDepth 20000 in
theorem ggX1_passHour_X1_reopenVows : GoodIn wsX1_passHour wsX1_reopenVows := goodIn_r _ [37, 14, 23, 22, 19, 2, 38, 39, 40, 41, 42, 43, 44, 45, 46, 47, 48, 49] (by decide +kernel) (by decide +kernel)
set_option maxRecDepth 20000 in
theorem gX1_passHour_X1_reopenVows : GoodIn wsX1_passHour (wsV RX1 81 RX1 yX1_reopenVows wsX1_reopenVows) := goodIn_app (goodIn_of _ (by decide +kernel)) ggX1_passHour_X1_reopenVows
theorem dX1_passHour_0 : decode cX1_passHour 0 = .ok (.aload_n 0, 1) := by decide +kernel
theorem dX1_passHour_1 : decode cX1_passHour 1 = .ok (.aload_n 0, 1) := by decide +kernel
theorem dX1_passHour_2 : decode cX1_passHour 2 = .ok (.iconst 0, 1) := by decide +kernel
theorem dX1_passHour_3 : decode cX1_passHour 3 = .ok (.invokevirtual 74, 3) := by decide +kernel
theorem dX1_passHour_6 : decode cX1_passHour 6 = .ok (.putfield 9, 3) := by decide +kernel
theorem dX1_passHour_9 : decode cX1_passHour 9 = .ok (.aload_n 0, 1) := by decide +kernel
theorem dX1_passHour_10 : decode cX1_passHour 10 = .ok (.invokevirtual 77, 3) := by decide +kernel
theorem dX1_passHour_13 : decode cX1_passHour 13 = .ok (.istore_n 1, 1) := by decide +kernel
theorem dX1_passHour_14 : decode cX1_passHour 14 = .ok (.aload_n 0, 1) := by decide +kernel
theorem dX1_passHour_15 : decode cX1_passHour 15 = .ok (.dup, 1) := by decide +kernel
theorem dX1_passHour_16 : decode cX1_passHour 16 = .ok (.getfield 18, 3) := by decide +kernel
theorem dX1_passHour_19 : decode cX1_passHour 19 = .ok (.iconst 1, 1) := by decide +kernel
theorem dX1_passHour_20 : decode cX1_passHour 20 = .ok (.iadd, 1) := by decide +kernel
theorem dX1_passHour_21 : decode cX1_passHour 21 = .ok (.putfield 18, 3) := by decide +kernel
theorem dX1_passHour_24 : decode cX1_passHour 24 = .ok (.aload_n 0, 1) := by decide +kernel
theorem dX1_passHour_25 : decode cX1_passHour 25 = .ok (.invokevirtual 81, 3) := by decide +kernel
theorem dX1_passHour_28 : decode cX1_passHour 28 = .ok (.iload_n 1, 1) := by decide +kernel
theorem dX1_passHour_29 : decode cX1_passHour 29 = .ok (.ireturn, 1) := by decide +kernel
set_option maxRecDepth 20000 in
theorem ggX1_passHours_X1_passHour : GoodIn wsX1_passHours wsX1_passHour := goodIn_r _ [5, 6, 7, 8, 9, 10, 4, 11, 12, 13, 14, 15, 16, 17, 18, 19, 20, 21, 22, 23, 24, 25, 26, 27, 28, 29, 30, 31, 32, 33, 34, 35, 36, 37, 38, 39, 40, 41, 42, 43, 44, 45, 46, 47, 48, 49, 50, 51, 52, 53] (by decide +kernel) (by decide +kernel)
set_option maxRecDepth 20000 in
theorem gX1_passHours_X1_passHour : GoodIn wsX1_passHours (wsV RX1 84 RX1 yX1_passHour wsX1_passHour) := goodIn_app (goodIn_of _ (by decide +kernel)) ggX1_passHours_X1_passHour
theorem dX1_passHours_0 : decode cX1_passHours 0 = .ok (.iconst 0, 1) := by decide +kernel
theorem dX1_passHours_1 : decode cX1_passHours 1 = .ok (.istore_n 2, 1) := by decide +kernel
theorem dX1_passHours_2 : decode cX1_passHours 2 = .ok (.iload_n 2, 1) := by decide +kernel
theorem dX1_passHours_3 : decode cX1_passHours 3 = .ok (.iload_n 1, 1) := by decide +kernel
theorem dX1_passHours_4 : decode cX1_passHours 4 = .ok (.if_icmp .ge 14, 3) := by decide +kernel
theorem dX1_passHours_7 : decode cX1_passHours 7 = .ok (.aload_n 0, 1) := by decide +kernel
theorem dX1_passHours_8 : decode cX1_passHours 8 = .ok (.invokevirtual 84, 3) := by decide +kernel
theorem dX1_passHours_11 : decode cX1_passHours 11 = .ok (.pop, 1) := by decide +kernel
theorem dX1_passHours_12 : decode cX1_passHours 12 = .ok (.iinc 2 1, 3) := by decide +kernel
theorem dX1_passHours_15 : decode cX1_passHours 15 = .ok (.goto (-13), 3) := by decide +kernel
theorem dX1_passHours_18 : decode cX1_passHours 18 = .ok (.return_, 1) := by decide +kernel
theorem dX1_meet_0 : decode cX1_meet 0 = .ok (.iconst 0, 1) := by decide +kernel
theorem dX1_meet_1 : decode cX1_meet 1 = .ok (.istore_n 1, 1) := by decide +kernel
theorem dX1_meet_2 : decode cX1_meet 2 = .ok (.iconst 0, 1) := by decide +kernel
theorem dX1_meet_3 : decode cX1_meet 3 = .ok (.istore_n 2, 1) := by decide +kernel
theorem dX1_meet_4 : decode cX1_meet 4 = .ok (.iload_n 2, 1) := by decide +kernel
theorem dX1_meet_5 : decode cX1_meet 5 = .ok (.aload_n 0, 1) := by decide +kernel
theorem dX1_meet_6 : decode cX1_meet 6 = .ok (.getfield 24, 3) := by decide +kernel
theorem dX1_meet_9 : decode cX1_meet 9 = .ok (.if_icmp .ge 84, 3) := by decide +kernel
theorem dX1_meet_12 : decode cX1_meet 12 = .ok (.aload_n 0, 1) := by decide +kernel
theorem dX1_meet_13 : decode cX1_meet 13 = .ok (.getfield 46, 3) := by decide +kernel
theorem dX1_meet_16 : decode cX1_meet 16 = .ok (.iload_n 2, 1) := by decide +kernel
theorem dX1_meet_17 : decode cX1_meet 17 = .ok (.iaload, 1) := by decide +kernel
theorem dX1_meet_18 : decode cX1_meet 18 = .ok (.ifCond .ne 69, 3) := by decide +kernel
theorem dX1_meet_21 : decode cX1_meet 21 = .ok (.aload_n 0, 1) := by decide +kernel
theorem dX1_meet_22 : decode cX1_meet 22 = .ok (.getfield 37, 3) := by decide +kernel
theorem dX1_meet_25 : decode cX1_meet 25 = .ok (.iload_n 2, 1) := by decide +kernel
theorem dX1_meet_26 : decode cX1_meet 26 = .ok (.iaload, 1) := by decide +kernel
theorem dX1_meet_27 : decode cX1_meet 27 = .ok (.aload_n 0, 1) := by decide +kernel
theorem dX1_meet_28 : decode cX1_meet 28 = .ok (.getfield 9, 3) := by decide +kernel
theorem dX1_meet_31 : decode cX1_meet 31 = .ok (.if_icmp .ne 56, 3) := by decide +kernel
theorem dX1_meet_34 : decode cX1_meet 34 = .ok (.iload_n 1, 1) := by decide +kernel
theorem dX1_meet_35 : decode cX1_meet 35 = .ok (.iconst 1, 1) := by decide +kernel
theorem dX1_meet_36 : decode cX1_meet 36 = .ok (.iload_n 2, 1) := by decide +kernel
theorem dX1_meet_37 : decode cX1_meet 37 = .ok (.ishl, 1) := by decide +kernel
theorem dX1_meet_38 : decode cX1_meet 38 = .ok (.ior, 1) := by decide +kernel
theorem dX1_meet_39 : decode cX1_meet 39 = .ok (.istore_n 1, 1) := by decide +kernel
theorem dX1_meet_40 : decode cX1_meet 40 = .ok (.aload_n 0, 1) := by decide +kernel
theorem dX1_meet_41 : decode cX1_meet 41 = .ok (.getfield 33, 3) := by decide +kernel
theorem dX1_meet_44 : decode cX1_meet 44 = .ok (.iload_n 2, 1) := by decide +kernel
theorem dX1_meet_45 : decode cX1_meet 45 = .ok (.iaload, 1) := by decide +kernel
theorem dX1_meet_46 : decode cX1_meet 46 = .ok (.iconst 4, 1) := by decide +kernel
theorem dX1_meet_47 : decode cX1_meet 47 = .ok (.if_icmp .ne 23, 3) := by decide +kernel
theorem dX1_meet_50 : decode cX1_meet 50 = .ok (.aload_n 0, 1) := by decide +kernel
theorem dX1_meet_51 : decode cX1_meet 51 = .ok (.getfield 46, 3) := by decide +kernel
theorem dX1_meet_54 : decode cX1_meet 54 = .ok (.iload_n 2, 1) := by decide +kernel
theorem dX1_meet_55 : decode cX1_meet 55 = .ok (.iconst 2, 1) := by decide +kernel
theorem dX1_meet_56 : decode cX1_meet 56 = .ok (.iastore, 1) := by decide +kernel
theorem dX1_meet_57 : decode cX1_meet 57 = .ok (.aload_n 0, 1) := by decide +kernel
theorem dX1_meet_58 : decode cX1_meet 58 = .ok (.dup, 1) := by decide +kernel
theorem dX1_meet_59 : decode cX1_meet 59 = .ok (.getfield 30, 3) := by decide +kernel
theorem dX1_meet_62 : decode cX1_meet 62 = .ok (.iconst 1, 1) := by decide +kernel
theorem dX1_meet_63 : decode cX1_meet 63 = .ok (.iadd, 1) := by decide +kernel
theorem dX1_meet_64 : decode cX1_meet 64 = .ok (.putfield 30, 3) := by decide +kernel
theorem dX1_meet_67 : decode cX1_meet 67 = .ok (.goto 20, 3) := by decide +kernel
theorem dX1_meet_70 : decode cX1_meet 70 = .ok (.aload_n 0, 1) := by decide +kernel
theorem dX1_meet_71 : decode cX1_meet 71 = .ok (.getfield 46, 3) := by decide +kernel
theorem dX1_meet_74 : decode cX1_meet 74 = .ok (.iload_n 2, 1) := by decide +kernel
theorem dX1_meet_75 : decode cX1_meet 75 = .ok (.iconst 1, 1) := by decide +kernel
theorem dX1_meet_76 : decode cX1_meet 76 = .ok (.iastore, 1) := by decide +kernel
theorem dX1_meet_77 : decode cX1_meet 77 = .ok (.aload_n 0, 1) := by decide +kernel
theorem dX1_meet_78 : decode cX1_meet 78 = .ok (.dup, 1) := by decide +kernel
theorem dX1_meet_79 : decode cX1_meet 79 = .ok (.getfield 27, 3) := by decide +kernel
theorem dX1_meet_82 : decode cX1_meet 82 = .ok (.iconst 1, 1) := by decide +kernel
theorem dX1_meet_83 : decode cX1_meet 83 = .ok (.iadd, 1) := by decide +kernel
theorem dX1_meet_84 : decode cX1_meet 84 = .ok (.putfield 27, 3) := by decide +kernel
theorem dX1_meet_87 : decode cX1_meet 87 = .ok (.iinc 2 1, 3) := by decide +kernel
theorem dX1_meet_90 : decode cX1_meet 90 = .ok (.goto (-86), 3) := by decide +kernel
theorem dX1_meet_93 : decode cX1_meet 93 = .ok (.iload_n 1, 1) := by decide +kernel
theorem dX1_meet_94 : decode cX1_meet 94 = .ok (.ireturn, 1) := by decide +kernel
theorem dX1_reopenVows_0 : decode cX1_reopenVows 0 = .ok (.iconst 0, 1) := by decide +kernel
theorem dX1_reopenVows_1 : decode cX1_reopenVows 1 = .ok (.istore_n 1, 1) := by decide +kernel
theorem dX1_reopenVows_2 : decode cX1_reopenVows 2 = .ok (.iload_n 1, 1) := by decide +kernel
theorem dX1_reopenVows_3 : decode cX1_reopenVows 3 = .ok (.aload_n 0, 1) := by decide +kernel
theorem dX1_reopenVows_4 : decode cX1_reopenVows 4 = .ok (.getfield 24, 3) := by decide +kernel
theorem dX1_reopenVows_7 : decode cX1_reopenVows 7 = .ok (.if_icmp .ge 58, 3) := by decide +kernel
theorem dX1_reopenVows_10 : decode cX1_reopenVows 10 = .ok (.aload_n 0, 1) := by decide +kernel
theorem dX1_reopenVows_11 : decode cX1_reopenVows 11 = .ok (.getfield 40, 3) := by decide +kernel
theorem dX1_reopenVows_14 : decode cX1_reopenVows 14 = .ok (.iload_n 1, 1) := by decide +kernel
theorem dX1_reopenVows_15 : decode cX1_reopenVows 15 = .ok (.iaload, 1) := by decide +kernel
theorem dX1_reopenVows_16 : decode cX1_reopenVows 16 = .ok (.iconst 1, 1) := by decide +kernel
theorem dX1_reopenVows_17 : decode cX1_reopenVows 17 = .ok (.iadd, 1) := by decide +kernel
theorem dX1_reopenVows_18 : decode cX1_reopenVows 18 = .ok (.istore_n 2, 1) := by decide +kernel
theorem dX1_reopenVows_19 : decode cX1_reopenVows 19 = .ok (.aload_n 0, 1) := by decide +kernel
theorem dX1_reopenVows_20 : decode cX1_reopenVows 20 = .ok (.getfield 33, 3) := by decide +kernel
theorem dX1_reopenVows_23 : decode cX1_reopenVows 23 = .ok (.iload_n 1, 1) := by decide +kernel
theorem dX1_reopenVows_24 : decode cX1_reopenVows 24 = .ok (.iaload, 1) := by decide +kernel
theorem dX1_reopenVows_25 : decode cX1_reopenVows 25 = .ok (.iconst 5, 1) := by decide +kernel
theorem dX1_reopenVows_26 : decode cX1_reopenVows 26 = .ok (.if_icmp .ne 33, 3) := by decide +kernel
theorem dX1_reopenVows_29 : decode cX1_reopenVows 29 = .ok (.aload_n 0, 1) := by decide +kernel
theorem dX1_reopenVows_30 : decode cX1_reopenVows 30 = .ok (.getfield 46, 3) := by decide +kernel
theorem dX1_reopenVows_33 : decode cX1_reopenVows 33 = .ok (.iload_n 1, 1) := by decide +kernel
theorem dX1_reopenVows_34 : decode cX1_reopenVows 34 = .ok (.iaload, 1) := by decide +kernel
theorem dX1_reopenVows_35 : decode cX1_reopenVows 35 = .ok (.iconst 1, 1) := by decide +kernel
theorem dX1_reopenVows_36 : decode cX1_reopenVows 36 = .ok (.if_icmp .ne 23, 3) := by decide +kernel
theorem dX1_reopenVows_39 : decode cX1_reopenVows 39 = .ok (.iload_n 2, 1) := by decide +kernel
theorem dX1_reopenVows_40 : decode cX1_reopenVows 40 = .ok (.ifCond .le 19, 3) := by decide +kernel
theorem dX1_reopenVows_43 : decode cX1_reopenVows 43 = .ok (.aload_n 0, 1) := by decide +kernel
theorem dX1_reopenVows_44 : decode cX1_reopenVows 44 = .ok (.getfield 18, 3) := by decide +kernel
theorem dX1_reopenVows_47 : decode cX1_reopenVows 47 = .ok (.iload_n 2, 1) := by decide +kernel
theorem dX1_reopenVows_48 : decode cX1_reopenVows 48 = .ok (.irem, 1) := by decide +kernel
theorem dX1_reopenVows_49 : decode cX1_reopenVows 49 = .ok (.ifCond .ne 10, 3) := by decide +kernel
theorem dX1_reopenVows_52 : decode cX1_reopenVows 52 = .ok (.aload_n 0, 1) := by decide +kernel
theorem dX1_reopenVows_53 : decode cX1_reopenVows 53 = .ok (.getfield 46, 3) := by decide +kernel
theorem dX1_reopenVows_56 : decode cX1_reopenVows 56 = .ok (.iload_n 1, 1) := by decide +kernel
theorem dX1_reopenVows_57 : decode cX1_reopenVows 57 = .ok (.iconst 0, 1) := by decide +kernel
theorem dX1_reopenVows_58 : decode cX1_reopenVows 58 = .ok (.iastore, 1) := by decide +kernel
theorem dX1_reopenVows_59 : decode cX1_reopenVows 59 = .ok (.iinc 1 1, 3) := by decide +kernel
theorem dX1_reopenVows_62 : decode cX1_reopenVows 62 = .ok (.goto (-60), 3) := by decide +kernel
theorem dX1_reopenVows_65 : decode cX1_reopenVows 65 = .ok (.return_, 1) := by decide +kernel
set_option maxRecDepth 20000 in
theorem ggX1_goesAlong_X1_passHour : GoodIn wsX1_goesAlong wsX1_passHour := goodIn_r _ [7, 1, 8, 9, 10, 11, 6, 12, 13, 14, 15, 16, 17, 18, 19, 20, 21, 22, 23, 24, 25, 26, 27, 28, 29, 30, 31, 32, 33, 34, 35, 36, 37, 38, 39, 40, 41, 42, 43, 44, 45, 46, 47, 48, 49, 50, 51, 52, 53, 54] (by decide +kernel) (by decide +kernel)
set_option maxRecDepth 20000 in
theorem gX1_goesAlong_X1_passHour : GoodIn wsX1_goesAlong (wsV RX1 84 RX1 yX1_passHour wsX1_passHour) := goodIn_app (goodIn_of _ (by decide +kernel)) ggX1_goesAlong_X1_passHour
theorem dX1_goesAlong_0 : decode cX1_goesAlong 0 = .ok (.iconst 0, 1) := by decide +kernel
theorem dX1_goesAlong_1 : decode cX1_goesAlong 1 = .ok (.istore 4, 2) := by decide +kernel
theorem dX1_goesAlong_3 : decode cX1_goesAlong 3 = .ok (.iload 4, 2) := by decide +kernel
theorem dX1_goesAlong_5 : decode cX1_goesAlong 5 = .ok (.iload_n 3, 1) := by decide +kernel
theorem dX1_goesAlong_6 : decode cX1_goesAlong 6 = .ok (.if_icmp .ge 32, 3) := by decide +kernel
theorem dX1_goesAlong_9 : decode cX1_goesAlong 9 = .ok (.aload_n 0, 1) := by decide +kernel
theorem dX1_goesAlong_10 : decode cX1_goesAlong 10 = .ok (.invokevirtual 84, 3) := by decide +kernel
theorem dX1_goesAlong_13 : decode cX1_goesAlong 13 = .ok (.pop, 1) := by decide +kernel
theorem dX1_goesAlong_14 : decode cX1_goesAlong 14 = .ok (.aload_n 0, 1) := by decide +kernel
theorem dX1_goesAlong_15 : decode cX1_goesAlong 15 = .ok (.getfield 9, 3) := by decide +kernel
theorem dX1_goesAlong_18 : decode cX1_goesAlong 18 = .ok (.aload_n 1, 1) := by decide +kernel
theorem dX1_goesAlong_19 : decode cX1_goesAlong 19 = .ok (.getfield 87, 3) := by decide +kernel
theorem dX1_goesAlong_22 : decode cX1_goesAlong 22 = .ok (.iload_n 2, 1) := by decide +kernel
theorem dX1_goesAlong_23 : decode cX1_goesAlong 23 = .ok (.iload 4, 2) := by decide +kernel
theorem dX1_goesAlong_25 : decode cX1_goesAlong 25 = .ok (.iadd, 1) := by decide +kernel
theorem dX1_goesAlong_26 : decode cX1_goesAlong 26 = .ok (.iaload, 1) := by decide +kernel
theorem dX1_goesAlong_27 : decode cX1_goesAlong 27 = .ok (.if_icmp .eq 5, 3) := by decide +kernel
theorem dX1_goesAlong_30 : decode cX1_goesAlong 30 = .ok (.iconst 0, 1) := by decide +kernel
theorem dX1_goesAlong_31 : decode cX1_goesAlong 31 = .ok (.ireturn, 1) := by decide +kernel
theorem dX1_goesAlong_32 : decode cX1_goesAlong 32 = .ok (.iinc 4 1, 3) := by decide +kernel
theorem dX1_goesAlong_35 : decode cX1_goesAlong 35 = .ok (.goto (-32), 3) := by decide +kernel
theorem dX1_goesAlong_38 : decode cX1_goesAlong 38 = .ok (.iconst 1, 1) := by decide +kernel
theorem dX1_goesAlong_39 : decode cX1_goesAlong 39 = .ok (.ireturn, 1) := by decide +kernel
theorem dX2_init_0 : decode cX2_init 0 = .ok (.aload_n 0, 1) := by decide +kernel
theorem dX2_init_1 : decode cX2_init 1 = .ok (.invokespecial 3, 3) := by decide +kernel
theorem dX2_init_4 : decode cX2_init 4 = .ok (.aload_n 0, 1) := by decide +kernel
theorem dX2_init_5 : decode cX2_init 5 = .ok (.iconst 1, 1) := by decide +kernel
theorem dX2_init_6 : decode cX2_init 6 = .ok (.putfield 9, 3) := by decide +kernel
theorem dX2_init_9 : decode cX2_init 9 = .ok (.aload_n 0, 1) := by decide +kernel
theorem dX2_init_10 : decode cX2_init 10 = .ok (.iconst 0, 1) := by decide +kernel
theorem dX2_init_11 : decode cX2_init 11 = .ok (.putfield 15, 3) := by decide +kernel
theorem dX2_init_14 : decode cX2_init 14 = .ok (.aload_n 0, 1) := by decide +kernel
theorem dX2_init_15 : decode cX2_init 15 = .ok (.iconst 0, 1) := by decide +kernel
theorem dX2_init_16 : decode cX2_init 16 = .ok (.putfield 19, 3) := by decide +kernel
theorem dX2_init_19 : decode cX2_init 19 = .ok (.aload_n 0, 1) := by decide +kernel
theorem dX2_init_20 : decode cX2_init 20 = .ok (.bipush 40, 2) := by decide +kernel
theorem dX2_init_22 : decode cX2_init 22 = .ok (.newarray .int, 2) := by decide +kernel
theorem dX2_init_24 : decode cX2_init 24 = .ok (.putfield 22, 3) := by decide +kernel
theorem dX2_init_27 : decode cX2_init 27 = .ok (.return_, 1) := by decide +kernel
set_option maxRecDepth 20000 in
theorem ggX2_begin_J7_fill_53178 : GoodIn wsX2_begin wsJ7_fill_53178 := goodIn_r _ [8] (by decide +kernel) (by decide +kernel)
set_option maxRecDepth 20000 in
theorem gX2_begin_J7_fill_53178 : GoodIn wsX2_begin (va_wsS RX2 26 yJ7_fill_53178 wsJ7_fill_53178) := goodIn_app (goodIn_of _ (by decide +kernel)) ggX2_begin_J7_fill_53178
theorem dX2_begin_0 : decode cX2_begin 0 = .ok (.aload_n 0, 1) := by decide +kernel
theorem dX2_begin_1 : decode cX2_begin 1 = .ok (.iconst 0, 1) := by decide +kernel
theorem dX2_begin_2 : decode cX2_begin 2 = .ok (.putfield 9, 3) := by decide +kernel
theorem dX2_begin_5 : decode cX2_begin 5 = .ok (.aload_n 0, 1) := by decide +kernel
theorem dX2_begin_6 : decode cX2_begin 6 = .ok (.iload_n 1, 1) := by decide +kernel
theorem dX2_begin_7 : decode cX2_begin 7 = .ok (.putfield 15, 3) := by decide +kernel
theorem dX2_begin_10 : decode cX2_begin 10 = .ok (.aload_n 0, 1) := by decide +kernel
theorem dX2_begin_11 : decode cX2_begin 11 = .ok (.iload_n 2, 1) := by decide +kernel
theorem dX2_begin_12 : decode cX2_begin 12 = .ok (.putfield 19, 3) := by decide +kernel
theorem dX2_begin_15 : decode cX2_begin 15 = .ok (.aload_n 0, 1) := by decide +kernel
theorem dX2_begin_16 : decode cX2_begin 16 = .ok (.getfield 22, 3) := by decide +kernel
theorem dX2_begin_19 : decode cX2_begin 19 = .ok (.iconst 0, 1) := by decide +kernel
theorem dX2_begin_20 : decode cX2_begin 20 = .ok (.invokestatic 26, 3) := by decide +kernel
theorem dX2_begin_23 : decode cX2_begin 23 = .ok (.return_, 1) := by decide +kernel
theorem dX2_has_0 : decode cX2_has 0 = .ok (.iload_n 1, 1) := by decide +kernel
theorem dX2_has_1 : decode cX2_has 1 = .ok (.ifCond .lt 29, 3) := by decide +kernel
theorem dX2_has_4 : decode cX2_has 4 = .ok (.iload_n 2, 1) := by decide +kernel
theorem dX2_has_5 : decode cX2_has 5 = .ok (.ifCond .lt 25, 3) := by decide +kernel
theorem dX2_has_8 : decode cX2_has 8 = .ok (.iload_n 1, 1) := by decide +kernel
theorem dX2_has_9 : decode cX2_has 9 = .ok (.aload_n 0, 1) := by decide +kernel
theorem dX2_has_10 : decode cX2_has 10 = .ok (.getfield 19, 3) := by decide +kernel
theorem dX2_has_13 : decode cX2_has 13 = .ok (.if_icmp .gt 17, 3) := by decide +kernel
theorem dX2_has_16 : decode cX2_has 16 = .ok (.iload_n 2, 1) := by decide +kernel
theorem dX2_has_17 : decode cX2_has 17 = .ok (.aload_n 0, 1) := by decide +kernel
theorem dX2_has_18 : decode cX2_has 18 = .ok (.getfield 19, 3) := by decide +kernel
theorem dX2_has_21 : decode cX2_has 21 = .ok (.iload_n 1, 1) := by decide +kernel
theorem dX2_has_22 : decode cX2_has 22 = .ok (.isub, 1) := by decide +kernel
theorem dX2_has_23 : decode cX2_has 23 = .ok (.if_icmp .gt 7, 3) := by decide +kernel
theorem dX2_has_26 : decode cX2_has 26 = .ok (.iconst 1, 1) := by decide +kernel
theorem dX2_has_27 : decode cX2_has 27 = .ok (.goto 4, 3) := by decide +kernel
theorem dX2_has_30 : decode cX2_has 30 = .ok (.iconst 0, 1) := by decide +kernel
theorem dX2_has_31 : decode cX2_has 31 = .ok (.ireturn, 1) := by decide +kernel
theorem dX2_put_0 : decode cX2_put 0 = .ok (.aload_n 0, 1) := by decide +kernel
theorem dX2_put_1 : decode cX2_put 1 = .ok (.getfield 22, 3) := by decide +kernel
theorem dX2_put_4 : decode cX2_put 4 = .ok (.iload_n 1, 1) := by decide +kernel
theorem dX2_put_5 : decode cX2_put 5 = .ok (.aload_n 0, 1) := by decide +kernel
theorem dX2_put_6 : decode cX2_put 6 = .ok (.getfield 15, 3) := by decide +kernel
theorem dX2_put_9 : decode cX2_put 9 = .ok (.ifCond .ne 8, 3) := by decide +kernel
theorem dX2_put_12 : decode cX2_put 12 = .ok (.iload_n 2, 1) := by decide +kernel
theorem dX2_put_13 : decode cX2_put 13 = .ok (.i2b, 1) := by decide +kernel
theorem dX2_put_14 : decode cX2_put 14 = .ok (.goto 17, 3) := by decide +kernel
theorem dX2_put_17 : decode cX2_put 17 = .ok (.aload_n 0, 1) := by decide +kernel
theorem dX2_put_18 : decode cX2_put 18 = .ok (.getfield 15, 3) := by decide +kernel
theorem dX2_put_21 : decode cX2_put 21 = .ok (.iconst 1, 1) := by decide +kernel
theorem dX2_put_22 : decode cX2_put 22 = .ok (.if_icmp .ne 8, 3) := by decide +kernel
theorem dX2_put_25 : decode cX2_put 25 = .ok (.iload_n 2, 1) := by decide +kernel
theorem dX2_put_26 : decode cX2_put 26 = .ok (.i2s, 1) := by decide +kernel
theorem dX2_put_27 : decode cX2_put 27 = .ok (.goto 4, 3) := by decide +kernel
theorem dX2_put_30 : decode cX2_put 30 = .ok (.iload_n 2, 1) := by decide +kernel
theorem dX2_put_31 : decode cX2_put 31 = .ok (.iastore, 1) := by decide +kernel
theorem dX2_put_32 : decode cX2_put 32 = .ok (.aload_n 0, 1) := by decide +kernel
theorem dX2_put_33 : decode cX2_put 33 = .ok (.getfield 22, 3) := by decide +kernel
theorem dX2_put_36 : decode cX2_put 36 = .ok (.iload_n 1, 1) := by decide +kernel
theorem dX2_put_37 : decode cX2_put 37 = .ok (.iaload, 1) := by decide +kernel
theorem dX2_put_38 : decode cX2_put 38 = .ok (.ireturn, 1) := by decide +kernel
theorem dX3_init_0 : decode cX3_init 0 = .ok (.aload_n 0, 1) := by decide +kernel
theorem dX3_init_1 : decode cX3_init 1 = .ok (.invokespecial 3, 3) := by decide +kernel
theorem dX3_init_4 : decode cX3_init 4 = .ok (.aload_n 0, 1) := by decide +kernel
theorem dX3_init_5 : decode cX3_init 5 = .ok (.bipush 100, 2) := by decide +kernel
theorem dX3_init_7 : decode cX3_init 7 = .ok (.newarray .int, 2) := by decide +kernel
theorem dX3_init_9 : decode cX3_init 9 = .ok (.putfield 11, 3) := by decide +kernel
theorem dX3_init_12 : decode cX3_init 12 = .ok (.aload_n 0, 1) := by decide +kernel
theorem dX3_init_13 : decode cX3_init 13 = .ok (.iconst 0, 1) := by decide +kernel
theorem dX3_init_14 : decode cX3_init 14 = .ok (.putfield 15, 3) := by decide +kernel
theorem dX3_init_17 : decode cX3_init 17 = .ok (.aload_n 0, 1) := by decide +kernel
theorem dX3_init_18 : decode cX3_init 18 = .ok (.iconst 0, 1) := by decide +kernel
theorem dX3_init_19 : decode cX3_init 19 = .ok (.putfield 19, 3) := by decide +kernel
theorem dX3_init_22 : decode cX3_init 22 = .ok (.aload_n 0, 1) := by decide +kernel
theorem dX3_init_23 : decode cX3_init 23 = .ok (.iconst 0, 1) := by decide +kernel
theorem dX3_init_24 : decode cX3_init 24 = .ok (.putfield 22, 3) := by decide +kernel
theorem dX3_init_27 : decode cX3_init 27 = .ok (.return_, 1) := by decide +kernel
theorem dX3_isFull_0 : decode cX3_isFull 0 = .ok (.aload_n 0, 1) := by decide +kernel
theorem dX3_isFull_1 : decode cX3_isFull 1 = .ok (.getfield 15, 3) := by decide +kernel
theorem dX3_isFull_4 : decode cX3_isFull 4 = .ok (.bipush 100, 2) := by decide +kernel
theorem dX3_isFull_6 : decode cX3_isFull 6 = .ok (.if_icmp .lt 7, 3) := by decide +kernel
theorem dX3_isFull_9 : decode cX3_isFull 9 = .ok (.iconst 1, 1) := by decide +kernel
theorem dX3_isFull_10 : decode cX3_isFull 10 = .ok (.goto 4, 3) := by decide +kernel
theorem dX3_isFull_13 : decode cX3_isFull 13 = .ok (.iconst 0, 1) := by decide +kernel
theorem dX3_isFull_14 : decode cX3_isFull 14 = .ok (.ireturn, 1) := by decide +kernel
theorem dX3_add_0 : decode cX3_add 0 = .ok (.aload_n 0, 1) := by decide +kernel
theorem dX3_add_1 : decode cX3_add 1 = .ok (.getfield 11, 3) := by decide +kernel
theorem dX3_add_4 : decode cX3_add 4 = .ok (.aload_n 0, 1) := by decide +kernel
theorem dX3_add_5 : decode cX3_add 5 = .ok (.getfield 15, 3) := by decide +kernel
theorem dX3_add_8 : decode cX3_add 8 = .ok (.iload_n 1, 1) := by decide +kernel
theorem dX3_add_9 : decode cX3_add 9 = .ok (.iastore, 1) := by decide +kernel
theorem dX3_add_10 : decode cX3_add 10 = .ok (.aload_n 0, 1) := by decide +kernel
theorem dX3_add_11 : decode cX3_add 11 = .ok (.dup, 1) := by decide +kernel
theorem dX3_add_12 : decode cX3_add 12 = .ok (.getfield 15, 3) := by decide +kernel
theorem dX3_add_15 : decode cX3_add 15 = .ok (.iconst 1, 1) := by decide +kernel
theorem dX3_add_16 : decode cX3_add 16 = .ok (.iadd, 1) := by decide +kernel
theorem dX3_add_17 : decode cX3_add 17 = .ok (.putfield 15, 3) := by decide +kernel
theorem dX3_add_20 : decode cX3_add 20 = .ok (.return_, 1) := by decide +kernel
set_option maxRecDepth 20000 in
theorem ggX3_readInto_X1_clear : GoodIn wsX3_readInto wsX1_clear := goodIn_r _ [8, 9, 10, 11, 12, 13, 14, 15, 154, 155, 156, 157, 158, 159, 160, 161, 162, 163, 164, 165] (by decide +kernel) (by decide +kernel)
set_option maxRecDepth 20000 in
theorem gX3_readInto_X1_clear : GoodIn wsX3_readInto (wsV RX3 25 RX1 yX1_clear wsX1_clear) := goodIn_app (goodIn_of _ (by decide +kernel)) ggX3_readInto_X1_clear
set_option maxRecDepth 20000 in
theorem ggX3_readInto_X3_readLaw : GoodIn wsX3_readInto wsX3_readLaw := goodIn_r _ [20, 21, 22, 23, 24, 25, 19, 26, 2, 1, 3, 27, 28, 29, 30, 31, 32, 33, 34, 35, 36, 37, 38, 39, 40, 41, 42, 154, 155, 156, 157, 158, 159, 160, 161, 162, 163, 164, 165, 150, 151, 152, 153] (by decide +kernel) (by decide +kernel)
set_option maxRecDepth 20000 in
theorem gX3_readInto_X3_readLaw : GoodIn wsX3_readInto (wsV RX3 30 RX3 yX3_readLaw wsX3_readLaw) := goodIn_app (goodIn_of _ (by decide +kernel)) ggX3_readInto_X3_readLaw
set_option maxRecDepth 20000 in
theorem ggX3_readInto_X3_readOath : GoodIn wsX3_readInto wsX3_readOath := goodIn_r _ [46, 2, 47, 48, 49, 19, 50, 1, 3, 27, 51, 52, 53, 54, 55, 56, 57, 58, 59, 60, 61, 62, 63, 64, 65, 66, 67, 68, 69, 70, 71, 72, 73, 74, 75, 76, 77, 78, 79, 80, 38, 81, 82, 37, 39, 83, 84, 85, 86, 87, 88, 89, 90, 91, 92, 93, 94, 95, 96, 97, 98, 99, 100, 101, 102, 103, 104, 105, 106, 107, 108, 109, 110, 111, 112, 113, 114, 115, 116, 117, 118, 119, 120, 121, 122, 123, 124, 125, 126, 127, 128, 129, 130, 131, 132, 133, 134, 135, 136, 28, 29, 30, 31, 32, 33, 34, 35, 36, 40, 41, 42, 23, 24, 25, 26, 137, 138, 139, 7, 140, 13, 141, 142, 143, 144, 145, 146, 147, 148, 149, 150, 151, 152, 153, 154, 155, 156, 157, 158, 159, 160, 161, 162, 163, 164, 165] (by decide +kernel) (by decide +kernel)
set_option maxRecDepth 20000 in
theorem gX3_readInto_X3_readOath : GoodIn wsX3_readInto (wsV RX3 34 RX3 yX3_readOath wsX3_readOath) := goodIn_app (goodIn_of _ (by decide +kernel)) ggX3_readInto_X3_readOath
theorem dX3_readInto_0 : decode cX3_readInto 0 = .ok (.aload_n 0, 1) := by decide +kernel
theorem dX3_readInto_1 : decode cX3_readInto 1 = .ok (.iconst 0, 1) := by decide +kernel
theorem dX3_readInto_2 : decode cX3_readInto 2 = .ok (.putfield 19, 3) := by decide +kernel
theorem dX3_readInto_5 : decode cX3_readInto 5 = .ok (.aload_n 0, 1) := by decide +kernel
theorem dX3_readInto_6 : decode cX3_readInto 6 = .ok (.iconst 0, 1) := by decide +kernel
theorem dX3_readInto_7 : decode cX3_readInto 7 = .ok (.putfield 22, 3) := by decide +kernel
theorem dX3_readInto_10 : decode cX3_readInto 10 = .ok (.aload_n 1, 1) := by decide +kernel
theorem dX3_readInto_11 : decode cX3_readInto 11 = .ok (.invokevirtual 25, 3) := by decide +kernel
theorem dX3_readInto_14 : decode cX3_readInto 14 = .ok (.aload_n 0, 1) := by decide +kernel
theorem dX3_readInto_15 : decode cX3_readInto 15 = .ok (.aload_n 1, 1) := by decide +kernel
theorem dX3_readInto_16 : decode cX3_readInto 16 = .ok (.invokevirtual 30, 3) := by decide +kernel
theorem dX3_readInto_19 : decode cX3_readInto 19 = .ok (.iconst 0, 1) := by decide +kernel
theorem dX3_readInto_20 : decode cX3_readInto 20 = .ok (.istore_n 2, 1) := by decide +kernel
theorem dX3_readInto_21 : decode cX3_readInto 21 = .ok (.iload_n 2, 1) := by decide +kernel
theorem dX3_readInto_22 : decode cX3_readInto 22 = .ok (.bipush 7, 2) := by decide +kernel
theorem dX3_readInto_24 : decode cX3_readInto 24 = .ok (.if_icmp .gt 37, 3) := by decide +kernel
theorem dX3_readInto_27 : decode cX3_readInto 27 = .ok (.aload_n 0, 1) := by decide +kernel
theorem dX3_readInto_28 : decode cX3_readInto 28 = .ok (.getfield 22, 3) := by decide +kernel
theorem dX3_readInto_31 : decode cX3_readInto 31 = .ok (.ifCond .ne 30, 3) := by decide +kernel
theorem dX3_readInto_34 : decode cX3_readInto 34 = .ok (.iload_n 2, 1) := by decide +kernel
theorem dX3_readInto_35 : decode cX3_readInto 35 = .ok (.ifCond .eq 14, 3) := by decide +kernel
theorem dX3_readInto_38 : decode cX3_readInto 38 = .ok (.aload_n 0, 1) := by decide +kernel
theorem dX3_readInto_39 : decode cX3_readInto 39 = .ok (.getfield 19, 3) := by decide +kernel
theorem dX3_readInto_42 : decode cX3_readInto 42 = .ok (.aload_n 0, 1) := by decide +kernel
theorem dX3_readInto_43 : decode cX3_readInto 43 = .ok (.getfield 15, 3) := by decide +kernel
theorem dX3_readInto_46 : decode cX3_readInto 46 = .ok (.if_icmp .ge 15, 3) := by decide +kernel
theorem dX3_readInto_49 : decode cX3_readInto 49 = .ok (.aload_n 0, 1) := by decide +kernel
theorem dX3_readInto_50 : decode cX3_readInto 50 = .ok (.aload_n 1, 1) := by decide +kernel
theorem dX3_readInto_51 : decode cX3_readInto 51 = .ok (.iload_n 2, 1) := by decide +kernel
theorem dX3_readInto_52 : decode cX3_readInto 52 = .ok (.invokevirtual 34, 3) := by decide +kernel
theorem dX3_readInto_55 : decode cX3_readInto 55 = .ok (.iinc 2 1, 3) := by decide +kernel
theorem dX3_readInto_58 : decode cX3_readInto 58 = .ok (.goto (-37), 3) := by decide +kernel
theorem dX3_readInto_61 : decode cX3_readInto 61 = .ok (.aload_n 0, 1) := by decide +kernel
theorem dX3_readInto_62 : decode cX3_readInto 62 = .ok (.getfield 22, 3) := by decide +kernel
theorem dX3_readInto_65 : decode cX3_readInto 65 = .ok (.ireturn, 1) := by decide +kernel
set_option maxRecDepth 20000 in
theorem ggX3_readLaw_X3_readByte : GoodIn wsX3_readLaw wsX3_readByte := goodIn_r _ [7, 8, 9, 10, 11, 12, 13, 14, 6, 15, 39, 40, 41, 42] (by decide +kernel) (by decide +kernel)
set_option maxRecDepth 20000 in
theorem gX3_readLaw_X3_readByte : GoodIn wsX3_readLaw (wsV RX3 38 RX3 yX3_readByte wsX3_readByte) := goodIn_app (goodIn_of _ (by decide +kernel)) ggX3_readLaw_X3_readByte
set_option maxRecDepth 20000 in
theorem ggX3_readLaw_X3_readNumber : GoodIn wsX3_readLaw wsX3_readNumber := goodIn_r _ [19, 8, 9, 10, 11, 20, 21, 22, 23, 24, 25, 6, 26, 12, 13, 14, 15, 39, 40, 41, 42] (by decide +kernel) (by decide +kernel)
set_option maxRecDepth 20000 in
theorem gX3_readLaw_X3_readNumber : GoodIn wsX3_readLaw (wsV RX3 42 RX3 yX3_readNumber wsX3_readNumber) := goodIn_app (goodIn_of _ (by decide +kernel)) ggX3_readLaw_X3_readNumber
theorem dX3_readLaw_0 : decode cX3_readLaw 0 = .ok (.aload_n 0, 1) := by decide +kernel
theorem dX3_readLaw_1 : decode cX3_readLaw 1 = .ok (.bipush 99, 2) := by decide +kernel
theorem dX3_readLaw_3 : decode cX3_readLaw 3 = .ok (.invokevirtual 38, 3) := by decide +kernel
theorem dX3_readLaw_6 : decode cX3_readLaw 6 = .ok (.aload_n 1, 1) := by decide +kernel
theorem dX3_readLaw_7 : decode cX3_readLaw 7 = .ok (.aload_n 0, 1) := by decide +kernel
theorem dX3_readLaw_8 : decode cX3_readLaw 8 = .ok (.iconst 0, 1) := by decide +kernel
theorem dX3_readLaw_9 : decode cX3_readLaw 9 = .ok (.bipush 9, 2) := by decide +kernel
theorem dX3_readLaw_11 : decode cX3_readLaw 11 = .ok (.invokevirtual 42, 3) := by decide +kernel
theorem dX3_readLaw_14 : decode cX3_readLaw 14 = .ok (.putfield 46, 3) := by decide +kernel
theorem dX3_readLaw_17 : decode cX3_readLaw 17 = .ok (.aload_n 0, 1) := by decide +kernel
theorem dX3_readLaw_18 : decode cX3_readLaw 18 = .ok (.bipush 44, 2) := by decide +kernel
theorem dX3_readLaw_20 : decode cX3_readLaw 20 = .ok (.invokevirtual 38, 3) := by decide +kernel
theorem dX3_readLaw_23 : decode cX3_readLaw 23 = .ok (.aload_n 1, 1) := by decide +kernel
theorem dX3_readLaw_24 : decode cX3_readLaw 24 = .ok (.aload_n 0, 1) := by decide +kernel
theorem dX3_readLaw_25 : decode cX3_readLaw 25 = .ok (.iconst 0, 1) := by decide +kernel
theorem dX3_readLaw_26 : decode cX3_readLaw 26 = .ok (.bipush 9, 2) := by decide +kernel
theorem dX3_readLaw_28 : decode cX3_readLaw 28 = .ok (.invokevirtual 42, 3) := by decide +kernel
theorem dX3_readLaw_31 : decode cX3_readLaw 31 = .ok (.putfield 47, 3) := by decide +kernel
theorem dX3_readLaw_34 : decode cX3_readLaw 34 = .ok (.aload_n 0, 1) := by decide +kernel
theorem dX3_readLaw_35 : decode cX3_readLaw 35 = .ok (.bipush 59, 2) := by decide +kernel
theorem dX3_readLaw_37 : decode cX3_readLaw 37 = .ok (.invokevirtual 38, 3) := by decide +kernel
theorem dX3_readLaw_40 : decode cX3_readLaw 40 = .ok (.return_, 1) := by decide +kernel
set_option maxRecDepth 20000 in
theorem ggX3_readOath_X3_readSort : GoodIn wsX3_readOath wsX3_readSort := goodIn_r _ [6, 7, 8, 9, 10, 11, 12, 13, 14, 15, 16, 17, 18, 19, 20, 21, 22, 23, 24, 25, 26, 27, 28, 29, 30, 31, 32, 33, 34, 35, 36, 37, 38, 39, 40, 41, 42, 43, 44, 45, 46, 47, 48, 49, 50, 51, 52, 53, 54, 55, 56, 57, 58, 59, 60, 61, 62, 63, 64, 65, 66, 67, 68, 69, 70, 71, 72, 73, 74, 75, 76, 77, 78, 79, 80, 81, 82, 83, 84, 85, 86, 87, 88, 89, 90, 91, 92, 93, 94, 95, 96, 97, 98, 99, 100, 101, 5, 102, 1, 130, 131, 132, 133] (by decide +kernel) (by decide +kernel)
set_option maxRecDepth 20000 in
theorem gX3_readOath_X3_readSort : GoodIn wsX3_readOath (wsV RX3 50 RX3 yX3_readSort wsX3_readSort) := goodIn_app (goodIn_of _ (by decide +kernel)) ggX3_readOath_X3_readSort
set_option maxRecDepth 20000 in
theorem ggX3_readOath_X3_readNumber : GoodIn wsX3_readOath wsX3_readNumber := goodIn_r _ [106, 1, 7, 8, 9, 107, 43, 40, 44, 108, 109, 5, 110, 99, 100, 101, 102, 130, 131, 132, 133] (by decide +kernel) (by decide +kernel)
set_option maxRecDepth 20000 in
theorem gX3_readOath_X3_readNumber : GoodIn wsX3_readOath (wsV RX3 42 RX3 yX3_readNumber wsX3_readNumber) := goodIn_app (goodIn_of _ (by decide +kernel)) ggX3_readOath_X3_readNumber
set_option maxRecDepth 20000 in
theorem ggX3_readOath_X3_readByte : GoodIn wsX3_readOath wsX3_readByte := goodIn_r _ [114, 1, 7, 8, 9, 99, 100, 101, 5, 102, 130, 131, 132, 133] (by decide +kernel) (by decide +kernel)
set_option maxRecDepth 20000 in
theorem gX3_readOath_X3_readByte : GoodIn wsX3_readOath (wsV RX3 38 RX3 yX3_readByte wsX3_readByte) := goodIn_app (goodIn_of _ (by decide +kernel)) ggX3_readOath_X3_readByte
set_option maxRecDepth 20000 in
theorem ggX3_readOath_X1_addOath : GoodIn wsX3_readOath wsX1_addOath := goodIn_r _ [119, 120, 121, 122, 123, 124, 125, 118, 126, 127, 128, 129, 134, 135, 136, 137, 138, 139, 140, 141, 142, 143, 144, 145] (by decide +kernel) (by decide +kernel)
set_option maxRecDepth 20000 in
theorem gX3_readOath_X1_addOath : GoodIn wsX3_readOath (wsV RX3 54 RX1 yX1_addOath wsX1_addOath) := goodIn_app (goodIn_of _ (by decide +kernel)) ggX3_readOath_X1_addOath
theorem dX3_readOath_0 : decode cX3_readOath 0 = .ok (.aload_n 0, 1) := by decide +kernel
theorem dX3_readOath_1 : decode cX3_readOath 1 = .ok (.iload_n 2, 1) := by decide +kernel
theorem dX3_readOath_2 : decode cX3_readOath 2 = .ok (.invokevirtual 50, 3) := by decide +kernel
theorem dX3_readOath_5 : decode cX3_readOath 5 = .ok (.istore_n 3, 1) := by decide +kernel
theorem dX3_readOath_6 : decode cX3_readOath 6 = .ok (.aload_n 0, 1) := by decide +kernel
theorem dX3_readOath_7 : decode cX3_readOath 7 = .ok (.iconst 0, 1) := by decide +kernel
theorem dX3_readOath_8 : decode cX3_readOath 8 = .ok (.bipush 9, 2) := by decide +kernel
theorem dX3_readOath_10 : decode cX3_readOath 10 = .ok (.invokevirtual 42, 3) := by decide +kernel
theorem dX3_readOath_13 : decode cX3_readOath 13 = .ok (.istore 4, 2) := by decide +kernel
theorem dX3_readOath_15 : decode cX3_readOath 15 = .ok (.aload_n 0, 1) := by decide +kernel
theorem dX3_readOath_16 : decode cX3_readOath 16 = .ok (.bipush 44, 2) := by decide +kernel
theorem dX3_readOath_18 : decode cX3_readOath 18 = .ok (.invokevirtual 38, 3) := by decide +kernel
theorem dX3_readOath_21 : decode cX3_readOath 21 = .ok (.aload_n 0, 1) := by decide +kernel
theorem dX3_readOath_22 : decode cX3_readOath 22 = .ok (.iconst 1, 1) := by decide +kernel
theorem dX3_readOath_23 : decode cX3_readOath 23 = .ok (.bipush 20, 2) := by decide +kernel
theorem dX3_readOath_25 : decode cX3_readOath 25 = .ok (.invokevirtual 42, 3) := by decide +kernel
theorem dX3_readOath_28 : decode cX3_readOath 28 = .ok (.istore 5, 2) := by decide +kernel
theorem dX3_readOath_30 : decode cX3_readOath 30 = .ok (.aload_n 0, 1) := by decide +kernel
theorem dX3_readOath_31 : decode cX3_readOath 31 = .ok (.bipush 44, 2) := by decide +kernel
theorem dX3_readOath_33 : decode cX3_readOath 33 = .ok (.invokevirtual 38, 3) := by decide +kernel
theorem dX3_readOath_36 : decode cX3_readOath 36 = .ok (.aload_n 0, 1) := by decide +kernel
theorem dX3_readOath_37 : decode cX3_readOath 37 = .ok (.iconst 1, 1) := by decide +kernel
theorem dX3_readOath_38 : decode cX3_readOath 38 = .ok (.bipush 60, 2) := by decide +kernel
theorem dX3_readOath_40 : decode cX3_readOath 40 = .ok (.invokevirtual 42, 3) := by decide +kernel
theorem dX3_readOath_43 : decode cX3_readOath 43 = .ok (.istore 6, 2) := by decide +kernel
theorem dX3_readOath_45 : decode cX3_readOath 45 = .ok (.aload_n 0, 1) := by decide +kernel
theorem dX3_readOath_46 : decode cX3_readOath 46 = .ok (.bipush 59, 2) := by decide +kernel
theorem dX3_readOath_48 : decode cX3_readOath 48 = .ok (.invokevirtual 38, 3) := by decide +kernel
theorem dX3_readOath_51 : decode cX3_readOath 51 = .ok (.aload_n 0, 1) := by decide +kernel
theorem dX3_readOath_52 : decode cX3_readOath 52 = .ok (.getfield 22, 3) := by decide +kernel
theorem dX3_readOath_55 : decode cX3_readOath 55 = .ok (.ifCond .ne 14, 3) := by decide +kernel
theorem dX3_readOath_58 : decode cX3_readOath 58 = .ok (.aload_n 1, 1) := by decide +kernel
theorem dX3_readOath_59 : decode cX3_readOath 59 = .ok (.iload_n 3, 1) := by decide +kernel
theorem dX3_readOath_60 : decode cX3_readOath 60 = .ok (.iload 4, 2) := by decide +kernel
theorem dX3_readOath_62 : decode cX3_readOath 62 = .ok (.iload 5, 2) := by decide +kernel
theorem dX3_readOath_64 : decode cX3_readOath 64 = .ok (.iload 6, 2) := by decide +kernel
theorem dX3_readOath_66 : decode cX3_readOath 66 = .ok (.invokevirtual 54, 3) := by decide +kernel
theorem dX3_readOath_69 : decode cX3_readOath 69 = .ok (.return_, 1) := by decide +kernel
set_option maxRecDepth 20000 in
theorem ggX3_readSort_J0_indexOf_0f7a4 : GoodIn wsX3_readSort wsJ0_indexOf_0f7a4 := goodIn_r _ [8, 9, 10, 11, 7, 12, 13, 14, 15, 16, 17, 18, 19, 20, 21, 22, 23, 24, 25, 26, 27, 28, 29, 30, 31, 32, 33, 34, 35, 36, 37, 38, 39, 40, 41, 42, 43, 44, 45, 46, 47, 48, 49, 50, 51, 52, 53, 54, 55, 56, 57, 58, 59, 60, 61, 62, 63, 64, 65, 66, 67, 68, 69, 70, 71, 72, 73, 74, 75, 76, 77, 78, 79, 80, 81, 82, 83, 84, 85, 86, 87, 88, 89, 90, 91, 92] (by decide +kernel) (by decide +kernel)
set_option maxRecDepth 20000 in
theorem gX3_readSort_J0_indexOf_0f7a4 : GoodIn wsX3_readSort (wsV RX3 60 RJ0 yJ0_indexOf_0f7a4 wsJ0_indexOf_0f7a4) := goodIn_app (goodIn_of _ (by decide +kernel)) ggX3_readSort_J0_indexOf_0f7a4
set_option maxRecDepth 20000 in
theorem ggX3_readSort_X3_stop : GoodIn wsX3_readSort wsX3_stop := goodIn_r _ [97, 98, 99, 100, 101, 102] (by decide +kernel) (by decide +kernel)
set_option maxRecDepth 20000 in
theorem gX3_readSort_X3_stop : GoodIn wsX3_readSort (wsV RX3 65 RX3 yX3_stop wsX3_stop) := goodIn_app (goodIn_of _ (by decide +kernel)) ggX3_readSort_X3_stop
theorem dX3_readSort_0 : decode cX3_readSort 0 = .ok (.aload_n 0, 1) := by decide +kernel
theorem dX3_readSort_1 : decode cX3_readSort 1 = .ok (.getfield 19, 3) := by decide +kernel
theorem dX3_readSort_4 : decode cX3_readSort 4 = .ok (.aload_n 0, 1) := by decide +kernel
theorem dX3_readSort_5 : decode cX3_readSort 5 = .ok (.getfield 15, 3) := by decide +kernel
theorem dX3_readSort_8 : decode cX3_readSort 8 = .ok (.if_icmp .ge 23, 3) := by decide +kernel
theorem dX3_readSort_11 : decode cX3_readSort 11 = .ok (.ldc 58, 2) := by decide +kernel
