theorem dX0_init_0 : decode cX0_init 0 = .ok (.aload_n 0, 1) := by decide +kernel
theorem dX0_init_1 : decode cX0_init 1 = .ok (.invokespecial 3, 3) := by decide +kernel
theorem dX0_init_4 : decode cX0_init 4 = .ok (.aload_n 0, 1) := by decide +kernel
theorem dX0_init_5 : decode cX0_init 5 = .ok (.bipush 7, 2) := by decide +kernel
theorem dX0_init_7 : decode cX0_init 7 = .ok (.anewarray 11, 3) := by decide +kernel
theorem dX0_init_10 : decode cX0_init 10 = .ok (.putfield 13, 3) := by decide +kernel
theorem dX0_init_13 : decode cX0_init 13 = .ok (.return_, 1) := by decide +kernel
set_option maxRecDepth 20000 in
theorem ggX0_prepare_X4_keepCopy : GoodIn wsX0_prepare wsX4_keepCopy := goodIn_r _ [6, 7, 8, 9, 10, 11, 12, 13, 14, 15, 16, 17, 18, 19, 20, 21, 22, 23, 24, 25, 26, 27, 28, 29, 30, 31, 32, 33, 34, 35, 36, 37, 38, 39, 40, 41, 42, 43, 44, 45, 46, 47, 48, 49, 50, 51, 55, 56, 57, 58, 59, 60, 61, 62] (by decide +kernel) (by decide +kernel)
set_option maxRecDepth 20000 in
theorem gX0_prepare_X4_keepCopy_n24 : GoodIn wsX0_prepare (wsX4_keepCopy) := ggX0_prepare_X4_keepCopy
theorem dX0_prepare_0 : decode cX0_prepare 0 = .ok (.aload_n 0, 1) := by decide +kernel
theorem dX0_prepare_1 : decode cX0_prepare 1 = .ok (.getfield 13, 3) := by decide +kernel
theorem dX0_prepare_4 : decode cX0_prepare 4 = .ok (.aload_n 0, 1) := by decide +kernel
theorem dX0_prepare_5 : decode cX0_prepare 5 = .ok (.getfield 17, 3) := by decide +kernel
theorem dX0_prepare_8 : decode cX0_prepare 8 = .ok (.aload_n 0, 1) := by decide +kernel
theorem dX0_prepare_9 : decode cX0_prepare 9 = .ok (.getfield 21, 3) := by decide +kernel
theorem dX0_prepare_12 : decode cX0_prepare 12 = .ok (.iadd, 1) := by decide +kernel
theorem dX0_prepare_13 : decode cX0_prepare 13 = .ok (.bipush 7, 2) := by decide +kernel
theorem dX0_prepare_15 : decode cX0_prepare 15 = .ok (.irem, 1) := by decide +kernel
theorem dX0_prepare_16 : decode cX0_prepare 16 = .ok (.aload_n 1, 1) := by decide +kernel
theorem dX0_prepare_17 : decode cX0_prepare 17 = .ok (.invokestatic 24, 3) := by decide +kernel
theorem dX0_prepare_20 : decode cX0_prepare 20 = .ok (.return_, 1) := by decide +kernel
theorem dX0_keepIfDone_0 : decode cX0_keepIfDone 0 = .ok (.iload_n 1, 1) := by decide +kernel
theorem dX0_keepIfDone_1 : decode cX0_keepIfDone 1 = .ok (.ifCond .lt 38, 3) := by decide +kernel
theorem dX0_keepIfDone_4 : decode cX0_keepIfDone 4 = .ok (.aload_n 0, 1) := by decide +kernel
theorem dX0_keepIfDone_5 : decode cX0_keepIfDone 5 = .ok (.getfield 21, 3) := by decide +kernel
theorem dX0_keepIfDone_8 : decode cX0_keepIfDone 8 = .ok (.bipush 6, 2) := by decide +kernel
theorem dX0_keepIfDone_10 : decode cX0_keepIfDone 10 = .ok (.if_icmp .ge 16, 3) := by decide +kernel
theorem dX0_keepIfDone_13 : decode cX0_keepIfDone 13 = .ok (.aload_n 0, 1) := by decide +kernel
theorem dX0_keepIfDone_14 : decode cX0_keepIfDone 14 = .ok (.dup, 1) := by decide +kernel
theorem dX0_keepIfDone_15 : decode cX0_keepIfDone 15 = .ok (.getfield 21, 3) := by decide +kernel
theorem dX0_keepIfDone_18 : decode cX0_keepIfDone 18 = .ok (.iconst 1, 1) := by decide +kernel
theorem dX0_keepIfDone_19 : decode cX0_keepIfDone 19 = .ok (.iadd, 1) := by decide +kernel
theorem dX0_keepIfDone_20 : decode cX0_keepIfDone 20 = .ok (.putfield 21, 3) := by decide +kernel
theorem dX0_keepIfDone_23 : decode cX0_keepIfDone 23 = .ok (.goto 16, 3) := by decide +kernel
theorem dX0_keepIfDone_26 : decode cX0_keepIfDone 26 = .ok (.aload_n 0, 1) := by decide +kernel
theorem dX0_keepIfDone_27 : decode cX0_keepIfDone 27 = .ok (.aload_n 0, 1) := by decide +kernel
theorem dX0_keepIfDone_28 : decode cX0_keepIfDone 28 = .ok (.getfield 17, 3) := by decide +kernel
theorem dX0_keepIfDone_31 : decode cX0_keepIfDone 31 = .ok (.iconst 1, 1) := by decide +kernel
theorem dX0_keepIfDone_32 : decode cX0_keepIfDone 32 = .ok (.iadd, 1) := by decide +kernel
theorem dX0_keepIfDone_33 : decode cX0_keepIfDone 33 = .ok (.bipush 7, 2) := by decide +kernel
theorem dX0_keepIfDone_35 : decode cX0_keepIfDone 35 = .ok (.irem, 1) := by decide +kernel
theorem dX0_keepIfDone_36 : decode cX0_keepIfDone 36 = .ok (.putfield 17, 3) := by decide +kernel
theorem dX0_keepIfDone_39 : decode cX0_keepIfDone 39 = .ok (.iload_n 1, 1) := by decide +kernel
theorem dX0_keepIfDone_40 : decode cX0_keepIfDone 40 = .ok (.ireturn, 1) := by decide +kernel
theorem dX0_takeLatest_0 : decode cX0_takeLatest 0 = .ok (.aload_n 0, 1) := by decide +kernel
theorem dX0_takeLatest_1 : decode cX0_takeLatest 1 = .ok (.getfield 21, 3) := by decide +kernel
theorem dX0_takeLatest_4 : decode cX0_takeLatest 4 = .ok (.ifCond .gt 5, 3) := by decide +kernel
theorem dX0_takeLatest_7 : decode cX0_takeLatest 7 = .ok (.aconst_null, 1) := by decide +kernel
theorem dX0_takeLatest_8 : decode cX0_takeLatest 8 = .ok (.areturn, 1) := by decide +kernel
theorem dX0_takeLatest_9 : decode cX0_takeLatest 9 = .ok (.aload_n 0, 1) := by decide +kernel
theorem dX0_takeLatest_10 : decode cX0_takeLatest 10 = .ok (.dup, 1) := by decide +kernel
theorem dX0_takeLatest_11 : decode cX0_takeLatest 11 = .ok (.getfield 21, 3) := by decide +kernel
theorem dX0_takeLatest_14 : decode cX0_takeLatest 14 = .ok (.iconst 1, 1) := by decide +kernel
theorem dX0_takeLatest_15 : decode cX0_takeLatest 15 = .ok (.isub, 1) := by decide +kernel
theorem dX0_takeLatest_16 : decode cX0_takeLatest 16 = .ok (.putfield 21, 3) := by decide +kernel
theorem dX0_takeLatest_19 : decode cX0_takeLatest 19 = .ok (.aload_n 0, 1) := by decide +kernel
theorem dX0_takeLatest_20 : decode cX0_takeLatest 20 = .ok (.getfield 13, 3) := by decide +kernel
theorem dX0_takeLatest_23 : decode cX0_takeLatest 23 = .ok (.aload_n 0, 1) := by decide +kernel
theorem dX0_takeLatest_24 : decode cX0_takeLatest 24 = .ok (.getfield 17, 3) := by decide +kernel
theorem dX0_takeLatest_27 : decode cX0_takeLatest 27 = .ok (.aload_n 0, 1) := by decide +kernel
theorem dX0_takeLatest_28 : decode cX0_takeLatest 28 = .ok (.getfield 21, 3) := by decide +kernel
theorem dX0_takeLatest_31 : decode cX0_takeLatest 31 = .ok (.iadd, 1) := by decide +kernel
theorem dX0_takeLatest_32 : decode cX0_takeLatest 32 = .ok (.bipush 7, 2) := by decide +kernel
theorem dX0_takeLatest_34 : decode cX0_takeLatest 34 = .ok (.irem, 1) := by decide +kernel
theorem dX0_takeLatest_35 : decode cX0_takeLatest 35 = .ok (.aaload, 1) := by decide +kernel
theorem dX0_takeLatest_36 : decode cX0_takeLatest 36 = .ok (.areturn, 1) := by decide +kernel
theorem dX1_init_0 : decode cX1_init 0 = .ok (.aload_n 0, 1) := by decide +kernel
theorem dX1_init_1 : decode cX1_init 1 = .ok (.invokespecial 3, 3) := by decide +kernel
theorem dX1_init_4 : decode cX1_init 4 = .ok (.aload_n 0, 1) := by decide +kernel
theorem dX1_init_5 : decode cX1_init 5 = .ok (.bipush 80, 2) := by decide +kernel
theorem dX1_init_7 : decode cX1_init 7 = .ok (.newarray .char, 2) := by decide +kernel
theorem dX1_init_9 : decode cX1_init 9 = .ok (.putfield 9, 3) := by decide +kernel
theorem dX1_init_12 : decode cX1_init 12 = .ok (.return_, 1) := by decide +kernel
set_option maxRecDepth 20000 in
theorem ggX2_init_X3_init : GoodIn wsX2_init wsX3_init := goodIn_r _ [15, 16, 2, 3, 17, 18, 19, 20, 21, 4, 22, 29, 30] (by decide +kernel) (by decide +kernel)
set_option maxRecDepth 20000 in
theorem gX2_init_X3_init : GoodIn wsX2_init (wsX3_init) := ggX2_init_X3_init
theorem dX2_init_0 : decode cX2_init 0 = .ok (.aload_n 0, 1) := by decide +kernel
theorem dX2_init_1 : decode cX2_init 1 = .ok (.invokespecial 3, 3) := by decide +kernel
theorem dX2_init_4 : decode cX2_init 4 = .ok (.aload_n 0, 1) := by decide +kernel
theorem dX2_init_5 : decode cX2_init 5 = .ok (.bipush 24, 2) := by decide +kernel
theorem dX2_init_7 : decode cX2_init 7 = .ok (.newarray .int, 2) := by decide +kernel
theorem dX2_init_9 : decode cX2_init 9 = .ok (.putfield 9, 3) := by decide +kernel
theorem dX2_init_12 : decode cX2_init 12 = .ok (.aload_n 0, 1) := by decide +kernel
theorem dX2_init_13 : decode cX2_init 13 = .ok (.bipush 16, 2) := by decide +kernel
theorem dX2_init_15 : decode cX2_init 15 = .ok (.newarray .int, 2) := by decide +kernel
theorem dX2_init_17 : decode cX2_init 17 = .ok (.putfield 15, 3) := by decide +kernel
theorem dX2_init_20 : decode cX2_init 20 = .ok (.aload_n 0, 1) := by decide +kernel
theorem dX2_init_21 : decode cX2_init 21 = .ok (.new 18, 3) := by decide +kernel
theorem dX2_init_24 : decode cX2_init 24 = .ok (.dup, 1) := by decide +kernel
theorem dX2_init_25 : decode cX2_init 25 = .ok (.bipush 17, 2) := by decide +kernel
theorem dX2_init_27 : decode cX2_init 27 = .ok (.iconst 4, 1) := by decide +kernel
theorem dX2_init_28 : decode cX2_init 28 = .ok (.iconst 0, 1) := by decide +kernel
theorem dX2_init_29 : decode cX2_init 29 = .ok (.invokespecial 20, 3) := by decide +kernel
theorem dX2_init_32 : decode cX2_init 32 = .ok (.putfield 23, 3) := by decide +kernel
theorem dX2_init_35 : decode cX2_init 35 = .ok (.aload_n 0, 1) := by decide +kernel
theorem dX2_init_36 : decode cX2_init 36 = .ok (.new 18, 3) := by decide +kernel
theorem dX2_init_39 : decode cX2_init 39 = .ok (.dup, 1) := by decide +kernel
theorem dX2_init_40 : decode cX2_init 40 = .ok (.bipush 32, 2) := by decide +kernel
theorem dX2_init_42 : decode cX2_init 42 = .ok (.iconst 3, 1) := by decide +kernel
theorem dX2_init_43 : decode cX2_init 43 = .ok (.bipush (-6), 2) := by decide +kernel
theorem dX2_init_45 : decode cX2_init 45 = .ok (.invokespecial 20, 3) := by decide +kernel
theorem dX2_init_48 : decode cX2_init 48 = .ok (.putfield 27, 3) := by decide +kernel
theorem dX2_init_51 : decode cX2_init 51 = .ok (.aload_n 0, 1) := by decide +kernel
theorem dX2_init_52 : decode cX2_init 52 = .ok (.new 18, 3) := by decide +kernel
theorem dX2_init_55 : decode cX2_init 55 = .ok (.dup, 1) := by decide +kernel
theorem dX2_init_56 : decode cX2_init 56 = .ok (.bipush 8, 2) := by decide +kernel
theorem dX2_init_58 : decode cX2_init 58 = .ok (.iconst 4, 1) := by decide +kernel
theorem dX2_init_59 : decode cX2_init 59 = .ok (.iconst 0, 1) := by decide +kernel
theorem dX2_init_60 : decode cX2_init 60 = .ok (.invokespecial 20, 3) := by decide +kernel
theorem dX2_init_63 : decode cX2_init 63 = .ok (.putfield 30, 3) := by decide +kernel
theorem dX2_init_66 : decode cX2_init 66 = .ok (.iconst 0, 1) := by decide +kernel
theorem dX2_init_67 : decode cX2_init 67 = .ok (.istore_n 1, 1) := by decide +kernel
theorem dX2_init_68 : decode cX2_init 68 = .ok (.iload_n 1, 1) := by decide +kernel
theorem dX2_init_69 : decode cX2_init 69 = .ok (.bipush 8, 2) := by decide +kernel
theorem dX2_init_71 : decode cX2_init 71 = .ok (.if_icmp .ge 23, 3) := by decide +kernel
theorem dX2_init_74 : decode cX2_init 74 = .ok (.aload_n 0, 1) := by decide +kernel
theorem dX2_init_75 : decode cX2_init 75 = .ok (.getfield 9, 3) := by decide +kernel
theorem dX2_init_78 : decode cX2_init 78 = .ok (.bipush 16, 2) := by decide +kernel
theorem dX2_init_80 : decode cX2_init 80 = .ok (.iload_n 1, 1) := by decide +kernel
theorem dX2_init_81 : decode cX2_init 81 = .ok (.iadd, 1) := by decide +kernel
theorem dX2_init_82 : decode cX2_init 82 = .ok (.getstatic 33, 3) := by decide +kernel
theorem dX2_init_85 : decode cX2_init 85 = .ok (.iload_n 1, 1) := by decide +kernel
theorem dX2_init_86 : decode cX2_init 86 = .ok (.iaload, 1) := by decide +kernel
theorem dX2_init_87 : decode cX2_init 87 = .ok (.iastore, 1) := by decide +kernel
theorem dX2_init_88 : decode cX2_init 88 = .ok (.iinc 1 1, 3) := by decide +kernel
theorem dX2_init_91 : decode cX2_init 91 = .ok (.goto (-23), 3) := by decide +kernel
theorem dX2_init_94 : decode cX2_init 94 = .ok (.iconst 0, 1) := by decide +kernel
theorem dX2_init_95 : decode cX2_init 95 = .ok (.istore_n 1, 1) := by decide +kernel
theorem dX2_init_96 : decode cX2_init 96 = .ok (.iload_n 1, 1) := by decide +kernel
theorem dX2_init_97 : decode cX2_init 97 = .ok (.bipush 16, 2) := by decide +kernel
theorem dX2_init_99 : decode cX2_init 99 = .ok (.if_icmp .ge 19, 3) := by decide +kernel
theorem dX2_init_102 : decode cX2_init 102 = .ok (.aload_n 0, 1) := by decide +kernel
theorem dX2_init_103 : decode cX2_init 103 = .ok (.getfield 15, 3) := by decide +kernel
theorem dX2_init_106 : decode cX2_init 106 = .ok (.iload_n 1, 1) := by decide +kernel
theorem dX2_init_107 : decode cX2_init 107 = .ok (.bipush 10, 2) := by decide +kernel
theorem dX2_init_109 : decode cX2_init 109 = .ok (.iload_n 1, 1) := by decide +kernel
theorem dX2_init_110 : decode cX2_init 110 = .ok (.imul, 1) := by decide +kernel
theorem dX2_init_111 : decode cX2_init 111 = .ok (.iastore, 1) := by decide +kernel
theorem dX2_init_112 : decode cX2_init 112 = .ok (.iinc 1 1, 3) := by decide +kernel
theorem dX2_init_115 : decode cX2_init 115 = .ok (.goto (-19), 3) := by decide +kernel
theorem dX2_init_118 : decode cX2_init 118 = .ok (.aload_n 0, 1) := by decide +kernel
theorem dX2_init_119 : decode cX2_init 119 = .ok (.getfield 9, 3) := by decide +kernel
theorem dX2_init_122 : decode cX2_init 122 = .ok (.bipush 15, 2) := by decide +kernel
theorem dX2_init_124 : decode cX2_init 124 = .ok (.bipush (-6), 2) := by decide +kernel
theorem dX2_init_126 : decode cX2_init 126 = .ok (.iastore, 1) := by decide +kernel
theorem dX2_init_127 : decode cX2_init 127 = .ok (.return_, 1) := by decide +kernel
set_option maxRecDepth 20000 in
theorem ggX2_copyFrom_X3_copyFrom : GoodIn wsX2_copyFrom wsX3_copyFrom := goodIn_r _ [15, 16, 17, 18, 19, 20, 21, 3, 4, 5, 28, 29] (by decide +kernel) (by decide +kernel)
set_option maxRecDepth 20000 in
theorem gX2_copyFrom_X3_copyFrom : GoodIn wsX2_copyFrom (wsV RX2 42 RX3 yX3_copyFrom wsX3_copyFrom) := goodIn_app (goodIn_of _ (by decide +kernel)) ggX2_copyFrom_X3_copyFrom
theorem dX2_copyFrom_0 : decode cX2_copyFrom 0 = .ok (.aload_n 1, 1) := by decide +kernel
theorem dX2_copyFrom_1 : decode cX2_copyFrom 1 = .ok (.getfield 9, 3) := by decide +kernel
theorem dX2_copyFrom_4 : decode cX2_copyFrom 4 = .ok (.iconst 0, 1) := by decide +kernel
theorem dX2_copyFrom_5 : decode cX2_copyFrom 5 = .ok (.aload_n 0, 1) := by decide +kernel
theorem dX2_copyFrom_6 : decode cX2_copyFrom 6 = .ok (.getfield 9, 3) := by decide +kernel
theorem dX2_copyFrom_9 : decode cX2_copyFrom 9 = .ok (.iconst 0, 1) := by decide +kernel
theorem dX2_copyFrom_10 : decode cX2_copyFrom 10 = .ok (.bipush 24, 2) := by decide +kernel
theorem dX2_copyFrom_12 : decode cX2_copyFrom 12 = .ok (.invokestatic 36, 3) := by decide +kernel
theorem dX2_copyFrom_15 : decode cX2_copyFrom 15 = .ok (.aload_n 1, 1) := by decide +kernel
theorem dX2_copyFrom_16 : decode cX2_copyFrom 16 = .ok (.getfield 15, 3) := by decide +kernel
theorem dX2_copyFrom_19 : decode cX2_copyFrom 19 = .ok (.iconst 0, 1) := by decide +kernel
theorem dX2_copyFrom_20 : decode cX2_copyFrom 20 = .ok (.aload_n 0, 1) := by decide +kernel
theorem dX2_copyFrom_21 : decode cX2_copyFrom 21 = .ok (.getfield 15, 3) := by decide +kernel
theorem dX2_copyFrom_24 : decode cX2_copyFrom 24 = .ok (.iconst 0, 1) := by decide +kernel
theorem dX2_copyFrom_25 : decode cX2_copyFrom 25 = .ok (.bipush 16, 2) := by decide +kernel
theorem dX2_copyFrom_27 : decode cX2_copyFrom 27 = .ok (.invokestatic 36, 3) := by decide +kernel
theorem dX2_copyFrom_30 : decode cX2_copyFrom 30 = .ok (.aload_n 0, 1) := by decide +kernel
theorem dX2_copyFrom_31 : decode cX2_copyFrom 31 = .ok (.getfield 23, 3) := by decide +kernel
theorem dX2_copyFrom_34 : decode cX2_copyFrom 34 = .ok (.aload_n 1, 1) := by decide +kernel
theorem dX2_copyFrom_35 : decode cX2_copyFrom 35 = .ok (.getfield 23, 3) := by decide +kernel
theorem dX2_copyFrom_38 : decode cX2_copyFrom 38 = .ok (.invokevirtual 42, 3) := by decide +kernel
theorem dX2_copyFrom_41 : decode cX2_copyFrom 41 = .ok (.aload_n 0, 1) := by decide +kernel
theorem dX2_copyFrom_42 : decode cX2_copyFrom 42 = .ok (.getfield 27, 3) := by decide +kernel
theorem dX2_copyFrom_45 : decode cX2_copyFrom 45 = .ok (.aload_n 1, 1) := by decide +kernel
theorem dX2_copyFrom_46 : decode cX2_copyFrom 46 = .ok (.getfield 27, 3) := by decide +kernel
theorem dX2_copyFrom_49 : decode cX2_copyFrom 49 = .ok (.invokevirtual 42, 3) := by decide +kernel
theorem dX2_copyFrom_52 : decode cX2_copyFrom 52 = .ok (.aload_n 0, 1) := by decide +kernel
theorem dX2_copyFrom_53 : decode cX2_copyFrom 53 = .ok (.getfield 30, 3) := by decide +kernel
theorem dX2_copyFrom_56 : decode cX2_copyFrom 56 = .ok (.aload_n 1, 1) := by decide +kernel
theorem dX2_copyFrom_57 : decode cX2_copyFrom 57 = .ok (.getfield 30, 3) := by decide +kernel
theorem dX2_copyFrom_60 : decode cX2_copyFrom 60 = .ok (.invokevirtual 42, 3) := by decide +kernel
theorem dX2_copyFrom_63 : decode cX2_copyFrom 63 = .ok (.aload_n 0, 1) := by decide +kernel
theorem dX2_copyFrom_64 : decode cX2_copyFrom 64 = .ok (.aload_n 1, 1) := by decide +kernel
theorem dX2_copyFrom_65 : decode cX2_copyFrom 65 = .ok (.getfield 46, 3) := by decide +kernel
theorem dX2_copyFrom_68 : decode cX2_copyFrom 68 = .ok (.putfield 46, 3) := by decide +kernel
theorem dX2_copyFrom_71 : decode cX2_copyFrom 71 = .ok (.return_, 1) := by decide +kernel
set_option maxRecDepth 20000 in
theorem ggX2_setting_X4_isWithin : GoodIn wsX2_setting wsX4_isWithin := goodIn_r _ [4] (by decide +kernel) (by decide +kernel)
set_option maxRecDepth 20000 in
theorem gX2_setting_X4_isWithin_n50 : GoodIn wsX2_setting (wsX4_isWithin) := ggX2_setting_X4_isWithin
theorem dX2_setting_0 : decode cX2_setting 0 = .ok (.iload_n 1, 1) := by decide +kernel
theorem dX2_setting_1 : decode cX2_setting 1 = .ok (.iconst 0, 1) := by decide +kernel
theorem dX2_setting_2 : decode cX2_setting 2 = .ok (.bipush 7, 2) := by decide +kernel
theorem dX2_setting_4 : decode cX2_setting 4 = .ok (.invokestatic 50, 3) := by decide +kernel
theorem dX2_setting_7 : decode cX2_setting 7 = .ok (.ifCond .eq 15, 3) := by decide +kernel
theorem dX2_setting_10 : decode cX2_setting 10 = .ok (.aload_n 0, 1) := by decide +kernel
theorem dX2_setting_11 : decode cX2_setting 11 = .ok (.getfield 9, 3) := by decide +kernel
theorem dX2_setting_14 : decode cX2_setting 14 = .ok (.bipush 16, 2) := by decide +kernel
theorem dX2_setting_16 : decode cX2_setting 16 = .ok (.iload_n 1, 1) := by decide +kernel
theorem dX2_setting_17 : decode cX2_setting 17 = .ok (.iadd, 1) := by decide +kernel
theorem dX2_setting_18 : decode cX2_setting 18 = .ok (.iaload, 1) := by decide +kernel
theorem dX2_setting_19 : decode cX2_setting 19 = .ok (.goto 4, 3) := by decide +kernel
theorem dX2_setting_22 : decode cX2_setting 22 = .ok (.iconst 0, 1) := by decide +kernel
theorem dX2_setting_23 : decode cX2_setting 23 = .ok (.ireturn, 1) := by decide +kernel
set_option maxRecDepth 20000 in
theorem ggX2_rowsOfScreen_X2_setting : GoodIn wsX2_rowsOfScreen wsX2_setting := goodIn_r _ [5, 6, 7, 8, 9, 10, 11, 12, 13, 14, 15] (by decide +kernel) (by decide +kernel)
set_option maxRecDepth 20000 in
theorem gX2_rowsOfScreen_X2_setting : GoodIn wsX2_rowsOfScreen (wsV RX2 54 RX2 yX2_setting wsX2_setting) := goodIn_app (goodIn_of _ (by decide +kernel)) ggX2_rowsOfScreen_X2_setting
theorem dX2_rowsOfScreen_0 : decode cX2_rowsOfScreen 0 = .ok (.iconst 2, 1) := by decide +kernel
theorem dX2_rowsOfScreen_1 : decode cX2_rowsOfScreen 1 = .ok (.aload_n 0, 1) := by decide +kernel
theorem dX2_rowsOfScreen_2 : decode cX2_rowsOfScreen 2 = .ok (.iconst 3, 1) := by decide +kernel
theorem dX2_rowsOfScreen_3 : decode cX2_rowsOfScreen 3 = .ok (.invokevirtual 54, 3) := by decide +kernel
theorem dX2_rowsOfScreen_6 : decode cX2_rowsOfScreen 6 = .ok (.imul, 1) := by decide +kernel
theorem dX2_rowsOfScreen_7 : decode cX2_rowsOfScreen 7 = .ok (.ireturn, 1) := by decide +kernel
set_option maxRecDepth 20000 in
theorem ggX2_changeSetting_X4_isWithin : GoodIn wsX2_changeSetting wsX4_isWithin := goodIn_r _ [4] (by decide +kernel) (by decide +kernel)
set_option maxRecDepth 20000 in
theorem gX2_changeSetting_X4_isWithin_n50 : GoodIn wsX2_changeSetting (wsX4_isWithin) := ggX2_changeSetting_X4_isWithin
theorem dX2_changeSetting_0 : decode cX2_changeSetting 0 = .ok (.iload_n 1, 1) := by decide +kernel
theorem dX2_changeSetting_1 : decode cX2_changeSetting 1 = .ok (.iconst 0, 1) := by decide +kernel
theorem dX2_changeSetting_2 : decode cX2_changeSetting 2 = .ok (.bipush 7, 2) := by decide +kernel
theorem dX2_changeSetting_4 : decode cX2_changeSetting 4 = .ok (.invokestatic 50, 3) := by decide +kernel
theorem dX2_changeSetting_7 : decode cX2_changeSetting 7 = .ok (.ifCond .eq 20, 3) := by decide +kernel
theorem dX2_changeSetting_10 : decode cX2_changeSetting 10 = .ok (.iload_n 2, 1) := by decide +kernel
theorem dX2_changeSetting_11 : decode cX2_changeSetting 11 = .ok (.getstatic 58, 3) := by decide +kernel
theorem dX2_changeSetting_14 : decode cX2_changeSetting 14 = .ok (.iload_n 1, 1) := by decide +kernel
theorem dX2_changeSetting_15 : decode cX2_changeSetting 15 = .ok (.iaload, 1) := by decide +kernel
theorem dX2_changeSetting_16 : decode cX2_changeSetting 16 = .ok (.getstatic 61, 3) := by decide +kernel
theorem dX2_changeSetting_19 : decode cX2_changeSetting 19 = .ok (.iload_n 1, 1) := by decide +kernel
theorem dX2_changeSetting_20 : decode cX2_changeSetting 20 = .ok (.iaload, 1) := by decide +kernel
theorem dX2_changeSetting_21 : decode cX2_changeSetting 21 = .ok (.invokestatic 50, 3) := by decide +kernel
theorem dX2_changeSetting_24 : decode cX2_changeSetting 24 = .ok (.ifCond .ne 6, 3) := by decide +kernel
theorem dX2_changeSetting_27 : decode cX2_changeSetting 27 = .ok (.bipush (-2), 2) := by decide +kernel
theorem dX2_changeSetting_29 : decode cX2_changeSetting 29 = .ok (.ireturn, 1) := by decide +kernel
theorem dX2_changeSetting_30 : decode cX2_changeSetting 30 = .ok (.iload_n 1, 1) := by decide +kernel
theorem dX2_changeSetting_31 : decode cX2_changeSetting 31 = .ok (.iconst 3, 1) := by decide +kernel
theorem dX2_changeSetting_32 : decode cX2_changeSetting 32 = .ok (.if_icmp .ne 12, 3) := by decide +kernel
theorem dX2_changeSetting_35 : decode cX2_changeSetting 35 = .ok (.aload_n 0, 1) := by decide +kernel
theorem dX2_changeSetting_36 : decode cX2_changeSetting 36 = .ok (.getfield 9, 3) := by decide +kernel
theorem dX2_changeSetting_39 : decode cX2_changeSetting 39 = .ok (.iconst 0, 1) := by decide +kernel
theorem dX2_changeSetting_40 : decode cX2_changeSetting 40 = .ok (.iaload, 1) := by decide +kernel
theorem dX2_changeSetting_41 : decode cX2_changeSetting 41 = .ok (.ifCond .ne 18, 3) := by decide +kernel
theorem dX2_changeSetting_44 : decode cX2_changeSetting 44 = .ok (.iload_n 1, 1) := by decide +kernel
theorem dX2_changeSetting_45 : decode cX2_changeSetting 45 = .ok (.iconst 2, 1) := by decide +kernel
theorem dX2_changeSetting_46 : decode cX2_changeSetting 46 = .ok (.if_icmp .ne 16, 3) := by decide +kernel
theorem dX2_changeSetting_49 : decode cX2_changeSetting 49 = .ok (.iload_n 2, 1) := by decide +kernel
theorem dX2_changeSetting_50 : decode cX2_changeSetting 50 = .ok (.aload_n 0, 1) := by decide +kernel
theorem dX2_changeSetting_51 : decode cX2_changeSetting 51 = .ok (.getfield 9, 3) := by decide +kernel
theorem dX2_changeSetting_54 : decode cX2_changeSetting 54 = .ok (.iconst 2, 1) := by decide +kernel
theorem dX2_changeSetting_55 : decode cX2_changeSetting 55 = .ok (.iaload, 1) := by decide +kernel
theorem dX2_changeSetting_56 : decode cX2_changeSetting 56 = .ok (.if_icmp .ge 6, 3) := by decide +kernel
theorem dX2_changeSetting_59 : decode cX2_changeSetting 59 = .ok (.bipush (-5), 2) := by decide +kernel
theorem dX2_changeSetting_61 : decode cX2_changeSetting 61 = .ok (.ireturn, 1) := by decide +kernel
theorem dX2_changeSetting_62 : decode cX2_changeSetting 62 = .ok (.aload_n 0, 1) := by decide +kernel
theorem dX2_changeSetting_63 : decode cX2_changeSetting 63 = .ok (.getfield 9, 3) := by decide +kernel
theorem dX2_changeSetting_66 : decode cX2_changeSetting 66 = .ok (.bipush 16, 2) := by decide +kernel
theorem dX2_changeSetting_68 : decode cX2_changeSetting 68 = .ok (.iload_n 1, 1) := by decide +kernel
theorem dX2_changeSetting_69 : decode cX2_changeSetting 69 = .ok (.iadd, 1) := by decide +kernel
theorem dX2_changeSetting_70 : decode cX2_changeSetting 70 = .ok (.iaload, 1) := by decide +kernel
theorem dX2_changeSetting_71 : decode cX2_changeSetting 71 = .ok (.istore_n 3, 1) := by decide +kernel
theorem dX2_changeSetting_72 : decode cX2_changeSetting 72 = .ok (.aload_n 0, 1) := by decide +kernel
theorem dX2_changeSetting_73 : decode cX2_changeSetting 73 = .ok (.getfield 9, 3) := by decide +kernel
theorem dX2_changeSetting_76 : decode cX2_changeSetting 76 = .ok (.bipush 16, 2) := by decide +kernel
theorem dX2_changeSetting_78 : decode cX2_changeSetting 78 = .ok (.iload_n 1, 1) := by decide +kernel
theorem dX2_changeSetting_79 : decode cX2_changeSetting 79 = .ok (.iadd, 1) := by decide +kernel
theorem dX2_changeSetting_80 : decode cX2_changeSetting 80 = .ok (.iload_n 2, 1) := by decide +kernel
theorem dX2_changeSetting_81 : decode cX2_changeSetting 81 = .ok (.iastore, 1) := by decide +kernel
theorem dX2_changeSetting_82 : decode cX2_changeSetting 82 = .ok (.iload_n 3, 1) := by decide +kernel
theorem dX2_changeSetting_83 : decode cX2_changeSetting 83 = .ok (.ireturn, 1) := by decide +kernel
set_option maxRecDepth 20000 in
theorem ggX2_changeValue_X4_isWithin : GoodIn wsX2_changeValue wsX4_isWithin := goodIn_r _ [4] (by decide +kernel) (by decide +kernel)
set_option maxRecDepth 20000 in
theorem gX2_changeValue_X4_isWithin_n50 : GoodIn wsX2_changeValue (wsX4_isWithin) := ggX2_changeValue_X4_isWithin
theorem dX2_changeValue_0 : decode cX2_changeValue 0 = .ok (.iload_n 1, 1) := by decide +kernel
theorem dX2_changeValue_1 : decode cX2_changeValue 1 = .ok (.iconst 0, 1) := by decide +kernel
theorem dX2_changeValue_2 : decode cX2_changeValue 2 = .ok (.bipush 15, 2) := by decide +kernel
theorem dX2_changeValue_4 : decode cX2_changeValue 4 = .ok (.invokestatic 50, 3) := by decide +kernel
theorem dX2_changeValue_7 : decode cX2_changeValue 7 = .ok (.ifCond .ne 5, 3) := by decide +kernel
theorem dX2_changeValue_10 : decode cX2_changeValue 10 = .ok (.iconst (-1), 1) := by decide +kernel
theorem dX2_changeValue_11 : decode cX2_changeValue 11 = .ok (.ireturn, 1) := by decide +kernel
theorem dX2_changeValue_12 : decode cX2_changeValue 12 = .ok (.iload_n 2, 1) := by decide +kernel
theorem dX2_changeValue_13 : decode cX2_changeValue 13 = .ok (.iconst 0, 1) := by decide +kernel
theorem dX2_changeValue_14 : decode cX2_changeValue 14 = .ok (.sipush 255, 3) := by decide +kernel
theorem dX2_changeValue_17 : decode cX2_changeValue 17 = .ok (.invokestatic 50, 3) := by decide +kernel
theorem dX2_changeValue_20 : decode cX2_changeValue 20 = .ok (.ifCond .ne 6, 3) := by decide +kernel
theorem dX2_changeValue_23 : decode cX2_changeValue 23 = .ok (.bipush (-2), 2) := by decide +kernel
theorem dX2_changeValue_25 : decode cX2_changeValue 25 = .ok (.ireturn, 1) := by decide +kernel
theorem dX2_changeValue_26 : decode cX2_changeValue 26 = .ok (.aload_n 0, 1) := by decide +kernel
theorem dX2_changeValue_27 : decode cX2_changeValue 27 = .ok (.getfield 15, 3) := by decide +kernel
theorem dX2_changeValue_30 : decode cX2_changeValue 30 = .ok (.iload_n 1, 1) := by decide +kernel
theorem dX2_changeValue_31 : decode cX2_changeValue 31 = .ok (.iaload, 1) := by decide +kernel
theorem dX2_changeValue_32 : decode cX2_changeValue 32 = .ok (.istore_n 3, 1) := by decide +kernel
theorem dX2_changeValue_33 : decode cX2_changeValue 33 = .ok (.aload_n 0, 1) := by decide +kernel
theorem dX2_changeValue_34 : decode cX2_changeValue 34 = .ok (.getfield 15, 3) := by decide +kernel
theorem dX2_changeValue_37 : decode cX2_changeValue 37 = .ok (.iload_n 1, 1) := by decide +kernel
theorem dX2_changeValue_38 : decode cX2_changeValue 38 = .ok (.iload_n 2, 1) := by decide +kernel
theorem dX2_changeValue_39 : decode cX2_changeValue 39 = .ok (.iastore, 1) := by decide +kernel
theorem dX2_changeValue_40 : decode cX2_changeValue 40 = .ok (.iload_n 3, 1) := by decide +kernel
theorem dX2_changeValue_41 : decode cX2_changeValue 41 = .ok (.ireturn, 1) := by decide +kernel
set_option maxRecDepth 20000 in
theorem ggX2_delayClock_X4_isWithin : GoodIn wsX2_delayClock wsX4_isWithin := goodIn_r _ [4] (by decide +kernel) (by decide +kernel)
set_option maxRecDepth 20000 in
theorem gX2_delayClock_X4_isWithin_n50 : GoodIn wsX2_delayClock (wsX4_isWithin) := ggX2_delayClock_X4_isWithin
theorem dX2_delayClock_0 : decode cX2_delayClock 0 = .ok (.iload_n 1, 1) := by decide +kernel
theorem dX2_delayClock_1 : decode cX2_delayClock 1 = .ok (.iconst 0, 1) := by decide +kernel
theorem dX2_delayClock_2 : decode cX2_delayClock 2 = .ok (.iconst 1, 1) := by decide +kernel
theorem dX2_delayClock_3 : decode cX2_delayClock 3 = .ok (.invokestatic 50, 3) := by decide +kernel
theorem dX2_delayClock_6 : decode cX2_delayClock 6 = .ok (.ifCond .eq 13, 3) := by decide +kernel
theorem dX2_delayClock_9 : decode cX2_delayClock 9 = .ok (.iload_n 2, 1) := by decide +kernel
theorem dX2_delayClock_10 : decode cX2_delayClock 10 = .ok (.iconst 1, 1) := by decide +kernel
theorem dX2_delayClock_11 : decode cX2_delayClock 11 = .ok (.bipush 99, 2) := by decide +kernel
theorem dX2_delayClock_13 : decode cX2_delayClock 13 = .ok (.invokestatic 50, 3) := by decide +kernel
theorem dX2_delayClock_16 : decode cX2_delayClock 16 = .ok (.ifCond .ne 6, 3) := by decide +kernel
theorem dX2_delayClock_19 : decode cX2_delayClock 19 = .ok (.bipush (-2), 2) := by decide +kernel
theorem dX2_delayClock_21 : decode cX2_delayClock 21 = .ok (.ireturn, 1) := by decide +kernel
theorem dX2_delayClock_22 : decode cX2_delayClock 22 = .ok (.iload_n 1, 1) := by decide +kernel
theorem dX2_delayClock_23 : decode cX2_delayClock 23 = .ok (.ifCond .ne 8, 3) := by decide +kernel
theorem dX2_delayClock_26 : decode cX2_delayClock 26 = .ok (.bipush 10, 2) := by decide +kernel
theorem dX2_delayClock_28 : decode cX2_delayClock 28 = .ok (.goto 5, 3) := by decide +kernel
theorem dX2_delayClock_31 : decode cX2_delayClock 31 = .ok (.bipush 11, 2) := by decide +kernel
theorem dX2_delayClock_33 : decode cX2_delayClock 33 = .ok (.istore_n 3, 1) := by decide +kernel
theorem dX2_delayClock_34 : decode cX2_delayClock 34 = .ok (.aload_n 0, 1) := by decide +kernel
theorem dX2_delayClock_35 : decode cX2_delayClock 35 = .ok (.getfield 9, 3) := by decide +kernel
theorem dX2_delayClock_38 : decode cX2_delayClock 38 = .ok (.iload_n 3, 1) := by decide +kernel
theorem dX2_delayClock_39 : decode cX2_delayClock 39 = .ok (.dup2, 1) := by decide +kernel
theorem dX2_delayClock_40 : decode cX2_delayClock 40 = .ok (.iaload, 1) := by decide +kernel
theorem dX2_delayClock_41 : decode cX2_delayClock 41 = .ok (.iload_n 2, 1) := by decide +kernel
theorem dX2_delayClock_42 : decode cX2_delayClock 42 = .ok (.iadd, 1) := by decide +kernel
theorem dX2_delayClock_43 : decode cX2_delayClock 43 = .ok (.iastore, 1) := by decide +kernel
theorem dX2_delayClock_44 : decode cX2_delayClock 44 = .ok (.aload_n 0, 1) := by decide +kernel
theorem dX2_delayClock_45 : decode cX2_delayClock 45 = .ok (.getfield 9, 3) := by decide +kernel
theorem dX2_delayClock_48 : decode cX2_delayClock 48 = .ok (.iload_n 3, 1) := by decide +kernel
theorem dX2_delayClock_49 : decode cX2_delayClock 49 = .ok (.iaload, 1) := by decide +kernel
theorem dX2_delayClock_50 : decode cX2_delayClock 50 = .ok (.ireturn, 1) := by decide +kernel
set_option maxRecDepth 20000 in
theorem ggX2_passTicks_X4_isWithin : GoodIn wsX2_passTicks wsX4_isWithin := goodIn_r _ [12] (by decide +kernel) (by decide +kernel)
set_option maxRecDepth 20000 in
theorem gX2_passTicks_X4_isWithin_n50 : GoodIn wsX2_passTicks (wsX4_isWithin) := ggX2_passTicks_X4_isWithin
set_option maxRecDepth 20000 in
theorem ggX2_passTicks_X2_lineComes : GoodIn wsX2_passTicks wsX2_lineComes := goodIn_r _ [17, 1, 18, 19, 20, 16, 21, 22, 23, 10, 11, 12, 24, 25, 26, 27, 28, 29, 30, 31, 32, 33, 34, 35, 36, 37, 38, 39, 40, 41, 42, 43, 44, 45, 46, 47, 48, 49, 50, 51, 52, 53, 54, 55, 81, 82, 83, 84, 85, 86, 87, 88] (by decide +kernel) (by decide +kernel)
set_option maxRecDepth 20000 in
theorem gX2_passTicks_X2_lineComes : GoodIn wsX2_passTicks (wsV RX2 64 RX2 yX2_lineComes wsX2_lineComes) := goodIn_app (goodIn_of _ (by decide +kernel)) ggX2_passTicks_X2_lineComes
set_option maxRecDepth 20000 in
theorem ggX2_passTicks_X2_rowGoesOut : GoodIn wsX2_passTicks wsX2_rowGoesOut := goodIn_r _ [59, 1, 60, 61, 62, 16, 63, 24, 25, 26, 27, 10, 11, 12, 64, 65, 66, 67, 23, 39, 40, 41, 31, 42, 33, 34, 43, 44, 45, 46, 47, 28, 29, 30, 32, 48, 49, 50, 51, 52, 53, 54, 55, 68, 69, 70, 71, 72, 73, 74, 75, 76, 77, 78, 79, 80, 81, 82, 83, 84, 85, 86, 87, 88] (by decide +kernel) (by decide +kernel)
set_option maxRecDepth 20000 in
theorem gX2_passTicks_X2_rowGoesOut : GoodIn wsX2_passTicks (wsV RX2 67 RX2 yX2_rowGoesOut wsX2_rowGoesOut) := goodIn_app (goodIn_of _ (by decide +kernel)) ggX2_passTicks_X2_rowGoesOut
theorem dX2_passTicks_0 : decode cX2_passTicks 0 = .ok (.iload_n 1, 1) := by decide +kernel
theorem dX2_passTicks_1 : decode cX2_passTicks 1 = .ok (.iconst 1, 1) := by decide +kernel
theorem dX2_passTicks_2 : decode cX2_passTicks 2 = .ok (.sipush 999, 3) := by decide +kernel
theorem dX2_passTicks_5 : decode cX2_passTicks 5 = .ok (.invokestatic 50, 3) := by decide +kernel
theorem dX2_passTicks_8 : decode cX2_passTicks 8 = .ok (.ifCond .ne 6, 3) := by decide +kernel
theorem dX2_passTicks_11 : decode cX2_passTicks 11 = .ok (.bipush (-2), 2) := by decide +kernel
theorem dX2_passTicks_13 : decode cX2_passTicks 13 = .ok (.ireturn, 1) := by decide +kernel
theorem dX2_passTicks_14 : decode cX2_passTicks 14 = .ok (.aload_n 0, 1) := by decide +kernel
theorem dX2_passTicks_15 : decode cX2_passTicks 15 = .ok (.getfield 9, 3) := by decide +kernel
theorem dX2_passTicks_18 : decode cX2_passTicks 18 = .ok (.iconst 0, 1) := by decide +kernel
theorem dX2_passTicks_19 : decode cX2_passTicks 19 = .ok (.iaload, 1) := by decide +kernel
theorem dX2_passTicks_20 : decode cX2_passTicks 20 = .ok (.iload_n 2, 1) := by decide +kernel
theorem dX2_passTicks_21 : decode cX2_passTicks 21 = .ok (.iload_n 1, 1) := by decide +kernel
theorem dX2_passTicks_22 : decode cX2_passTicks 22 = .ok (.isub, 1) := by decide +kernel
theorem dX2_passTicks_23 : decode cX2_passTicks 23 = .ok (.if_icmp .le 6, 3) := by decide +kernel
theorem dX2_passTicks_26 : decode cX2_passTicks 26 = .ok (.bipush (-4), 2) := by decide +kernel
theorem dX2_passTicks_28 : decode cX2_passTicks 28 = .ok (.ireturn, 1) := by decide +kernel
theorem dX2_passTicks_29 : decode cX2_passTicks 29 = .ok (.iconst 0, 1) := by decide +kernel
theorem dX2_passTicks_30 : decode cX2_passTicks 30 = .ok (.istore_n 3, 1) := by decide +kernel
theorem dX2_passTicks_31 : decode cX2_passTicks 31 = .ok (.iload_n 3, 1) := by decide +kernel
theorem dX2_passTicks_32 : decode cX2_passTicks 32 = .ok (.iload_n 1, 1) := by decide +kernel
theorem dX2_passTicks_33 : decode cX2_passTicks 33 = .ok (.if_icmp .ge 120, 3) := by decide +kernel
theorem dX2_passTicks_36 : decode cX2_passTicks 36 = .ok (.aload_n 0, 1) := by decide +kernel
theorem dX2_passTicks_37 : decode cX2_passTicks 37 = .ok (.getfield 9, 3) := by decide +kernel
theorem dX2_passTicks_40 : decode cX2_passTicks 40 = .ok (.iconst 0, 1) := by decide +kernel
theorem dX2_passTicks_41 : decode cX2_passTicks 41 = .ok (.iaload, 1) := by decide +kernel
theorem dX2_passTicks_42 : decode cX2_passTicks 42 = .ok (.aload_n 0, 1) := by decide +kernel
theorem dX2_passTicks_43 : decode cX2_passTicks 43 = .ok (.getfield 9, 3) := by decide +kernel
theorem dX2_passTicks_46 : decode cX2_passTicks 46 = .ok (.bipush 10, 2) := by decide +kernel
theorem dX2_passTicks_48 : decode cX2_passTicks 48 = .ok (.iaload, 1) := by decide +kernel
theorem dX2_passTicks_49 : decode cX2_passTicks 49 = .ok (.if_icmp .ne 7, 3) := by decide +kernel
theorem dX2_passTicks_52 : decode cX2_passTicks 52 = .ok (.aload_n 0, 1) := by decide +kernel
theorem dX2_passTicks_53 : decode cX2_passTicks 53 = .ok (.invokevirtual 64, 3) := by decide +kernel
theorem dX2_passTicks_56 : decode cX2_passTicks 56 = .ok (.aload_n 0, 1) := by decide +kernel
theorem dX2_passTicks_57 : decode cX2_passTicks 57 = .ok (.getfield 9, 3) := by decide +kernel
theorem dX2_passTicks_60 : decode cX2_passTicks 60 = .ok (.iconst 0, 1) := by decide +kernel
theorem dX2_passTicks_61 : decode cX2_passTicks 61 = .ok (.iaload, 1) := by decide +kernel
theorem dX2_passTicks_62 : decode cX2_passTicks 62 = .ok (.aload_n 0, 1) := by decide +kernel
theorem dX2_passTicks_63 : decode cX2_passTicks 63 = .ok (.getfield 9, 3) := by decide +kernel
theorem dX2_passTicks_66 : decode cX2_passTicks 66 = .ok (.bipush 11, 2) := by decide +kernel
theorem dX2_passTicks_68 : decode cX2_passTicks 68 = .ok (.iaload, 1) := by decide +kernel
theorem dX2_passTicks_69 : decode cX2_passTicks 69 = .ok (.if_icmp .ne 7, 3) := by decide +kernel
theorem dX2_passTicks_72 : decode cX2_passTicks 72 = .ok (.aload_n 0, 1) := by decide +kernel
theorem dX2_passTicks_73 : decode cX2_passTicks 73 = .ok (.invokevirtual 67, 3) := by decide +kernel
theorem dX2_passTicks_76 : decode cX2_passTicks 76 = .ok (.aload_n 0, 1) := by decide +kernel
theorem dX2_passTicks_77 : decode cX2_passTicks 77 = .ok (.getfield 9, 3) := by decide +kernel
theorem dX2_passTicks_80 : decode cX2_passTicks 80 = .ok (.bipush 10, 2) := by decide +kernel
theorem dX2_passTicks_82 : decode cX2_passTicks 82 = .ok (.iaload, 1) := by decide +kernel
theorem dX2_passTicks_83 : decode cX2_passTicks 83 = .ok (.aload_n 0, 1) := by decide +kernel
theorem dX2_passTicks_84 : decode cX2_passTicks 84 = .ok (.getfield 9, 3) := by decide +kernel
theorem dX2_passTicks_87 : decode cX2_passTicks 87 = .ok (.bipush 11, 2) := by decide +kernel
theorem dX2_passTicks_89 : decode cX2_passTicks 89 = .ok (.iaload, 1) := by decide +kernel
theorem dX2_passTicks_90 : decode cX2_passTicks 90 = .ok (.invokestatic 70, 3) := by decide +kernel
theorem dX2_passTicks_93 : decode cX2_passTicks 93 = .ok (.aload_n 0, 1) := by decide +kernel
theorem dX2_passTicks_94 : decode cX2_passTicks 94 = .ok (.getfield 9, 3) := by decide +kernel
theorem dX2_passTicks_97 : decode cX2_passTicks 97 = .ok (.iconst 0, 1) := by decide +kernel
theorem dX2_passTicks_98 : decode cX2_passTicks 98 = .ok (.iaload, 1) := by decide +kernel
theorem dX2_passTicks_99 : decode cX2_passTicks 99 = .ok (.isub, 1) := by decide +kernel
theorem dX2_passTicks_100 : decode cX2_passTicks 100 = .ok (.istore 4, 2) := by decide +kernel
theorem dX2_passTicks_102 : decode cX2_passTicks 102 = .ok (.iconst 1, 1) := by decide +kernel
theorem dX2_passTicks_103 : decode cX2_passTicks 103 = .ok (.iload 4, 2) := by decide +kernel
theorem dX2_passTicks_105 : decode cX2_passTicks 105 = .ok (.iload_n 1, 1) := by decide +kernel
theorem dX2_passTicks_106 : decode cX2_passTicks 106 = .ok (.iload_n 3, 1) := by decide +kernel
theorem dX2_passTicks_107 : decode cX2_passTicks 107 = .ok (.isub, 1) := by decide +kernel
theorem dX2_passTicks_108 : decode cX2_passTicks 108 = .ok (.invokestatic 70, 3) := by decide +kernel
theorem dX2_passTicks_111 : decode cX2_passTicks 111 = .ok (.invokestatic 76, 3) := by decide +kernel
theorem dX2_passTicks_114 : decode cX2_passTicks 114 = .ok (.istore 5, 2) := by decide +kernel
theorem dX2_passTicks_116 : decode cX2_passTicks 116 = .ok (.aload_n 0, 1) := by decide +kernel
theorem dX2_passTicks_117 : decode cX2_passTicks 117 = .ok (.dup, 1) := by decide +kernel
theorem dX2_passTicks_118 : decode cX2_passTicks 118 = .ok (.getfield 46, 3) := by decide +kernel
theorem dX2_passTicks_121 : decode cX2_passTicks 121 = .ok (.iload 5, 2) := by decide +kernel
theorem dX2_passTicks_123 : decode cX2_passTicks 123 = .ok (.aload_n 0, 1) := by decide +kernel
theorem dX2_passTicks_124 : decode cX2_passTicks 124 = .ok (.getfield 9, 3) := by decide +kernel
theorem dX2_passTicks_127 : decode cX2_passTicks 127 = .ok (.iconst 2, 1) := by decide +kernel
theorem dX2_passTicks_128 : decode cX2_passTicks 128 = .ok (.iaload, 1) := by decide +kernel
theorem dX2_passTicks_129 : decode cX2_passTicks 129 = .ok (.imul, 1) := by decide +kernel
theorem dX2_passTicks_130 : decode cX2_passTicks 130 = .ok (.iadd, 1) := by decide +kernel
theorem dX2_passTicks_131 : decode cX2_passTicks 131 = .ok (.putfield 46, 3) := by decide +kernel
theorem dX2_passTicks_134 : decode cX2_passTicks 134 = .ok (.aload_n 0, 1) := by decide +kernel
theorem dX2_passTicks_135 : decode cX2_passTicks 135 = .ok (.getfield 9, 3) := by decide +kernel
theorem dX2_passTicks_138 : decode cX2_passTicks 138 = .ok (.iconst 0, 1) := by decide +kernel
theorem dX2_passTicks_139 : decode cX2_passTicks 139 = .ok (.dup2, 1) := by decide +kernel
theorem dX2_passTicks_140 : decode cX2_passTicks 140 = .ok (.iaload, 1) := by decide +kernel
theorem dX2_passTicks_141 : decode cX2_passTicks 141 = .ok (.iload 5, 2) := by decide +kernel
theorem dX2_passTicks_143 : decode cX2_passTicks 143 = .ok (.iadd, 1) := by decide +kernel
theorem dX2_passTicks_144 : decode cX2_passTicks 144 = .ok (.iastore, 1) := by decide +kernel
theorem dX2_passTicks_145 : decode cX2_passTicks 145 = .ok (.iload_n 3, 1) := by decide +kernel
theorem dX2_passTicks_146 : decode cX2_passTicks 146 = .ok (.iload 5, 2) := by decide +kernel
theorem dX2_passTicks_148 : decode cX2_passTicks 148 = .ok (.iadd, 1) := by decide +kernel
theorem dX2_passTicks_149 : decode cX2_passTicks 149 = .ok (.istore_n 3, 1) := by decide +kernel
theorem dX2_passTicks_150 : decode cX2_passTicks 150 = .ok (.goto (-119), 3) := by decide +kernel
theorem dX2_passTicks_153 : decode cX2_passTicks 153 = .ok (.aload_n 0, 1) := by decide +kernel
theorem dX2_passTicks_154 : decode cX2_passTicks 154 = .ok (.getfield 9, 3) := by decide +kernel
theorem dX2_passTicks_157 : decode cX2_passTicks 157 = .ok (.iconst 0, 1) := by decide +kernel
theorem dX2_passTicks_158 : decode cX2_passTicks 158 = .ok (.iaload, 1) := by decide +kernel
theorem dX2_passTicks_159 : decode cX2_passTicks 159 = .ok (.ireturn, 1) := by decide +kernel
set_option maxRecDepth 20000 in
theorem ggX2_skipAll_X2_loseWaiting : GoodIn wsX2_skipAll wsX2_loseWaiting := goodIn_r _ [6, 1, 7, 8, 9, 10, 11, 12, 13, 14, 15, 16, 17, 18, 19, 20, 21, 22, 23, 24, 25, 26, 27, 28, 29, 30, 31, 32, 33, 34, 35] (by decide +kernel) (by decide +kernel)
set_option maxRecDepth 20000 in
theorem gX2_skipAll_X2_loseWaiting : GoodIn wsX2_skipAll (wsV RX2 79 RX2 yX2_loseWaiting wsX2_loseWaiting) := goodIn_app (goodIn_of _ (by decide +kernel)) ggX2_skipAll_X2_loseWaiting
theorem dX2_skipAll_0 : decode cX2_skipAll 0 = .ok (.aload_n 0, 1) := by decide +kernel
theorem dX2_skipAll_1 : decode cX2_skipAll 1 = .ok (.getfield 9, 3) := by decide +kernel
theorem dX2_skipAll_4 : decode cX2_skipAll 4 = .ok (.iconst 2, 1) := by decide +kernel
theorem dX2_skipAll_5 : decode cX2_skipAll 5 = .ok (.iaload, 1) := by decide +kernel
theorem dX2_skipAll_6 : decode cX2_skipAll 6 = .ok (.istore_n 1, 1) := by decide +kernel
theorem dX2_skipAll_7 : decode cX2_skipAll 7 = .ok (.iconst 0, 1) := by decide +kernel
theorem dX2_skipAll_8 : decode cX2_skipAll 8 = .ok (.istore_n 2, 1) := by decide +kernel
theorem dX2_skipAll_9 : decode cX2_skipAll 9 = .ok (.iload_n 2, 1) := by decide +kernel
theorem dX2_skipAll_10 : decode cX2_skipAll 10 = .ok (.iload_n 1, 1) := by decide +kernel
theorem dX2_skipAll_11 : decode cX2_skipAll 11 = .ok (.if_icmp .ge 15, 3) := by decide +kernel
theorem dX2_skipAll_14 : decode cX2_skipAll 14 = .ok (.aload_n 0, 1) := by decide +kernel
theorem dX2_skipAll_15 : decode cX2_skipAll 15 = .ok (.iconst 0, 1) := by decide +kernel
theorem dX2_skipAll_16 : decode cX2_skipAll 16 = .ok (.iconst 2, 1) := by decide +kernel
theorem dX2_skipAll_17 : decode cX2_skipAll 17 = .ok (.invokevirtual 79, 3) := by decide +kernel
theorem dX2_skipAll_20 : decode cX2_skipAll 20 = .ok (.iinc 2 1, 3) := by decide +kernel
theorem dX2_skipAll_23 : decode cX2_skipAll 23 = .ok (.goto (-14), 3) := by decide +kernel
theorem dX2_skipAll_26 : decode cX2_skipAll 26 = .ok (.iload_n 1, 1) := by decide +kernel
theorem dX2_skipAll_27 : decode cX2_skipAll 27 = .ok (.ireturn, 1) := by decide +kernel
set_option maxRecDepth 20000 in
theorem ggX2_lineComes_X2_nextLineWaits : GoodIn wsX2_lineComes wsX2_nextLineWaits := goodIn_r _ [6, 1, 7, 8, 9, 10, 11, 12, 13, 14, 5, 15, 16, 17, 18, 19, 20, 21, 22, 44, 45, 46, 47, 48, 49, 50, 51] (by decide +kernel) (by decide +kernel)
set_option maxRecDepth 20000 in
theorem gX2_lineComes_X2_nextLineWaits : GoodIn wsX2_lineComes (wsV RX2 83 RX2 yX2_nextLineWaits wsX2_nextLineWaits) := goodIn_app (goodIn_of _ (by decide +kernel)) ggX2_lineComes_X2_nextLineWaits
set_option maxRecDepth 20000 in
theorem ggX2_lineComes_X2_setting : GoodIn wsX2_lineComes wsX2_setting := goodIn_r _ [15, 1, 9, 10, 11, 44, 45, 46, 47, 48, 49] (by decide +kernel) (by decide +kernel)
set_option maxRecDepth 20000 in
theorem gX2_lineComes_X2_setting : GoodIn wsX2_lineComes (wsV RX2 54 RX2 yX2_setting wsX2_setting) := goodIn_app (goodIn_of _ (by decide +kernel)) ggX2_lineComes_X2_setting
set_option maxRecDepth 20000 in
theorem ggX2_lineComes_X2_firstNotOut : GoodIn wsX2_lineComes wsX2_firstNotOut := goodIn_r _ [26, 1, 8, 27, 28, 29, 19, 30, 21, 22, 44, 45, 46, 47, 48, 49, 50, 51] (by decide +kernel) (by decide +kernel)
set_option maxRecDepth 20000 in
theorem gX2_lineComes_X2_firstNotOut : GoodIn wsX2_lineComes (wsV RX2 86 RX2 yX2_firstNotOut wsX2_firstNotOut) := goodIn_app (goodIn_of _ (by decide +kernel)) ggX2_lineComes_X2_firstNotOut
set_option maxRecDepth 20000 in
theorem ggX2_lineComes_X2_loseWaiting : GoodIn wsX2_lineComes wsX2_loseWaiting := goodIn_r _ [34, 1, 35, 8, 27, 28, 29, 19, 30, 21, 22, 16, 17, 18, 20, 36, 37, 38, 39, 40, 41, 42, 43, 44, 45, 46, 47, 48, 49, 50, 51] (by decide +kernel) (by decide +kernel)
set_option maxRecDepth 20000 in
theorem gX2_lineComes_X2_loseWaiting : GoodIn wsX2_lineComes (wsV RX2 79 RX2 yX2_loseWaiting wsX2_loseWaiting) := goodIn_app (goodIn_of _ (by decide +kernel)) ggX2_lineComes_X2_loseWaiting
theorem dX2_lineComes_0 : decode cX2_lineComes 0 = .ok (.aload_n 0, 1) := by decide +kernel
theorem dX2_lineComes_1 : decode cX2_lineComes 1 = .ok (.getfield 9, 3) := by decide +kernel
theorem dX2_lineComes_4 : decode cX2_lineComes 4 = .ok (.iconst 1, 1) := by decide +kernel
theorem dX2_lineComes_5 : decode cX2_lineComes 5 = .ok (.dup2, 1) := by decide +kernel
theorem dX2_lineComes_6 : decode cX2_lineComes 6 = .ok (.iaload, 1) := by decide +kernel
theorem dX2_lineComes_7 : decode cX2_lineComes 7 = .ok (.iconst 1, 1) := by decide +kernel
theorem dX2_lineComes_8 : decode cX2_lineComes 8 = .ok (.iadd, 1) := by decide +kernel
theorem dX2_lineComes_9 : decode cX2_lineComes 9 = .ok (.iastore, 1) := by decide +kernel
theorem dX2_lineComes_10 : decode cX2_lineComes 10 = .ok (.aload_n 0, 1) := by decide +kernel
theorem dX2_lineComes_11 : decode cX2_lineComes 11 = .ok (.invokevirtual 83, 3) := by decide +kernel
theorem dX2_lineComes_14 : decode cX2_lineComes 14 = .ok (.aload_n 0, 1) := by decide +kernel
theorem dX2_lineComes_15 : decode cX2_lineComes 15 = .ok (.getfield 9, 3) := by decide +kernel
theorem dX2_lineComes_18 : decode cX2_lineComes 18 = .ok (.iconst 2, 1) := by decide +kernel
theorem dX2_lineComes_19 : decode cX2_lineComes 19 = .ok (.iaload, 1) := by decide +kernel
theorem dX2_lineComes_20 : decode cX2_lineComes 20 = .ok (.aload_n 0, 1) := by decide +kernel
theorem dX2_lineComes_21 : decode cX2_lineComes 21 = .ok (.iconst 2, 1) := by decide +kernel
theorem dX2_lineComes_22 : decode cX2_lineComes 22 = .ok (.invokevirtual 54, 3) := by decide +kernel
theorem dX2_lineComes_25 : decode cX2_lineComes 25 = .ok (.if_icmp .le 45, 3) := by decide +kernel
theorem dX2_lineComes_28 : decode cX2_lineComes 28 = .ok (.aload_n 0, 1) := by decide +kernel
theorem dX2_lineComes_29 : decode cX2_lineComes 29 = .ok (.getfield 9, 3) := by decide +kernel
theorem dX2_lineComes_32 : decode cX2_lineComes 32 = .ok (.iconst 2, 1) := by decide +kernel
theorem dX2_lineComes_33 : decode cX2_lineComes 33 = .ok (.iaload, 1) := by decide +kernel
theorem dX2_lineComes_34 : decode cX2_lineComes 34 = .ok (.iconst 1, 1) := by decide +kernel
theorem dX2_lineComes_35 : decode cX2_lineComes 35 = .ok (.isub, 1) := by decide +kernel
theorem dX2_lineComes_36 : decode cX2_lineComes 36 = .ok (.istore_n 1, 1) := by decide +kernel
theorem dX2_lineComes_37 : decode cX2_lineComes 37 = .ok (.aload_n 0, 1) := by decide +kernel
theorem dX2_lineComes_38 : decode cX2_lineComes 38 = .ok (.iconst 4, 1) := by decide +kernel
theorem dX2_lineComes_39 : decode cX2_lineComes 39 = .ok (.invokevirtual 54, 3) := by decide +kernel
theorem dX2_lineComes_42 : decode cX2_lineComes 42 = .ok (.iconst 1, 1) := by decide +kernel
theorem dX2_lineComes_43 : decode cX2_lineComes 43 = .ok (.if_icmp .ne 10, 3) := by decide +kernel
theorem dX2_lineComes_46 : decode cX2_lineComes 46 = .ok (.aload_n 0, 1) := by decide +kernel
theorem dX2_lineComes_47 : decode cX2_lineComes 47 = .ok (.invokevirtual 86, 3) := by decide +kernel
theorem dX2_lineComes_50 : decode cX2_lineComes 50 = .ok (.goto 4, 3) := by decide +kernel
theorem dX2_lineComes_53 : decode cX2_lineComes 53 = .ok (.iload_n 1, 1) := by decide +kernel
theorem dX2_lineComes_54 : decode cX2_lineComes 54 = .ok (.istore_n 2, 1) := by decide +kernel
theorem dX2_lineComes_55 : decode cX2_lineComes 55 = .ok (.aload_n 0, 1) := by decide +kernel
theorem dX2_lineComes_56 : decode cX2_lineComes 56 = .ok (.iload_n 2, 1) := by decide +kernel
theorem dX2_lineComes_57 : decode cX2_lineComes 57 = .ok (.iload_n 2, 1) := by decide +kernel
theorem dX2_lineComes_58 : decode cX2_lineComes 58 = .ok (.iload_n 1, 1) := by decide +kernel
theorem dX2_lineComes_59 : decode cX2_lineComes 59 = .ok (.if_icmp .ne 7, 3) := by decide +kernel
theorem dX2_lineComes_62 : decode cX2_lineComes 62 = .ok (.iconst 0, 1) := by decide +kernel
theorem dX2_lineComes_63 : decode cX2_lineComes 63 = .ok (.goto 4, 3) := by decide +kernel
theorem dX2_lineComes_66 : decode cX2_lineComes 66 = .ok (.iconst 1, 1) := by decide +kernel
theorem dX2_lineComes_67 : decode cX2_lineComes 67 = .ok (.invokevirtual 79, 3) := by decide +kernel
theorem dX2_lineComes_70 : decode cX2_lineComes 70 = .ok (.aload_n 0, 1) := by decide +kernel
theorem dX2_lineComes_71 : decode cX2_lineComes 71 = .ok (.getfield 9, 3) := by decide +kernel
theorem dX2_lineComes_74 : decode cX2_lineComes 74 = .ok (.bipush 8, 2) := by decide +kernel
theorem dX2_lineComes_76 : decode cX2_lineComes 76 = .ok (.dup2, 1) := by decide +kernel
theorem dX2_lineComes_77 : decode cX2_lineComes 77 = .ok (.iaload, 1) := by decide +kernel
theorem dX2_lineComes_78 : decode cX2_lineComes 78 = .ok (.iconst 1, 1) := by decide +kernel
theorem dX2_lineComes_79 : decode cX2_lineComes 79 = .ok (.iadd, 1) := by decide +kernel
theorem dX2_lineComes_80 : decode cX2_lineComes 80 = .ok (.iastore, 1) := by decide +kernel
theorem dX2_lineComes_81 : decode cX2_lineComes 81 = .ok (.aload_n 0, 1) := by decide +kernel
theorem dX2_lineComes_82 : decode cX2_lineComes 82 = .ok (.getfield 9, 3) := by decide +kernel
theorem dX2_lineComes_85 : decode cX2_lineComes 85 = .ok (.bipush 8, 2) := by decide +kernel
theorem dX2_lineComes_87 : decode cX2_lineComes 87 = .ok (.iaload, 1) := by decide +kernel
theorem dX2_lineComes_88 : decode cX2_lineComes 88 = .ok (.aload_n 0, 1) := by decide +kernel
theorem dX2_lineComes_89 : decode cX2_lineComes 89 = .ok (.iconst 3, 1) := by decide +kernel
theorem dX2_lineComes_90 : decode cX2_lineComes 90 = .ok (.invokevirtual 54, 3) := by decide +kernel
theorem dX2_lineComes_93 : decode cX2_lineComes 93 = .ok (.if_icmp .lt 22, 3) := by decide +kernel
theorem dX2_lineComes_96 : decode cX2_lineComes 96 = .ok (.aload_n 0, 1) := by decide +kernel
theorem dX2_lineComes_97 : decode cX2_lineComes 97 = .ok (.getfield 9, 3) := by decide +kernel
theorem dX2_lineComes_100 : decode cX2_lineComes 100 = .ok (.bipush 8, 2) := by decide +kernel
theorem dX2_lineComes_102 : decode cX2_lineComes 102 = .ok (.iconst 0, 1) := by decide +kernel
theorem dX2_lineComes_103 : decode cX2_lineComes 103 = .ok (.iastore, 1) := by decide +kernel
theorem dX2_lineComes_104 : decode cX2_lineComes 104 = .ok (.aload_n 0, 1) := by decide +kernel
theorem dX2_lineComes_105 : decode cX2_lineComes 105 = .ok (.getfield 9, 3) := by decide +kernel
theorem dX2_lineComes_108 : decode cX2_lineComes 108 = .ok (.bipush 9, 2) := by decide +kernel
theorem dX2_lineComes_110 : decode cX2_lineComes 110 = .ok (.dup2, 1) := by decide +kernel
theorem dX2_lineComes_111 : decode cX2_lineComes 111 = .ok (.iaload, 1) := by decide +kernel
theorem dX2_lineComes_112 : decode cX2_lineComes 112 = .ok (.iconst 1, 1) := by decide +kernel
theorem dX2_lineComes_113 : decode cX2_lineComes 113 = .ok (.iadd, 1) := by decide +kernel
theorem dX2_lineComes_114 : decode cX2_lineComes 114 = .ok (.iastore, 1) := by decide +kernel
theorem dX2_lineComes_115 : decode cX2_lineComes 115 = .ok (.aload_n 0, 1) := by decide +kernel
theorem dX2_lineComes_116 : decode cX2_lineComes 116 = .ok (.getfield 9, 3) := by decide +kernel
theorem dX2_lineComes_119 : decode cX2_lineComes 119 = .ok (.bipush 10, 2) := by decide +kernel
theorem dX2_lineComes_121 : decode cX2_lineComes 121 = .ok (.dup2, 1) := by decide +kernel
theorem dX2_lineComes_122 : decode cX2_lineComes 122 = .ok (.iaload, 1) := by decide +kernel
theorem dX2_lineComes_123 : decode cX2_lineComes 123 = .ok (.aload_n 0, 1) := by decide +kernel
theorem dX2_lineComes_124 : decode cX2_lineComes 124 = .ok (.iconst 0, 1) := by decide +kernel
theorem dX2_lineComes_125 : decode cX2_lineComes 125 = .ok (.invokevirtual 54, 3) := by decide +kernel
theorem dX2_lineComes_128 : decode cX2_lineComes 128 = .ok (.iadd, 1) := by decide +kernel
theorem dX2_lineComes_129 : decode cX2_lineComes 129 = .ok (.iastore, 1) := by decide +kernel
theorem dX2_lineComes_130 : decode cX2_lineComes 130 = .ok (.return_, 1) := by decide +kernel
set_option maxRecDepth 20000 in
theorem ggX2_nextLineWaits_X4_isWithin : GoodIn wsX2_nextLineWaits wsX4_isWithin := goodIn_r _ [6] (by decide +kernel) (by decide +kernel)
set_option maxRecDepth 20000 in
theorem gX2_nextLineWaits_X4_isWithin_n50 : GoodIn wsX2_nextLineWaits (wsX4_isWithin) := ggX2_nextLineWaits_X4_isWithin
set_option maxRecDepth 20000 in
theorem ggX2_nextLineWaits_X2_setting : GoodIn wsX2_nextLineWaits wsX2_setting := goodIn_r _ [11, 1, 4, 5, 6, 19, 20, 21, 22, 23, 24] (by decide +kernel) (by decide +kernel)
set_option maxRecDepth 20000 in
theorem gX2_nextLineWaits_X2_setting : GoodIn wsX2_nextLineWaits (wsV RX2 54 RX2 yX2_setting wsX2_setting) := goodIn_app (goodIn_of _ (by decide +kernel)) ggX2_nextLineWaits_X2_setting
set_option maxRecDepth 20000 in
theorem ggX2_nextLineWaits_X3_write : GoodIn wsX2_nextLineWaits wsX3_write := goodIn_r _ [16, 17, 18, 25, 26] (by decide +kernel) (by decide +kernel)
set_option maxRecDepth 20000 in
theorem gX2_nextLineWaits_X3_write : GoodIn wsX2_nextLineWaits (wsV RX2 90 RX3 yX3_write wsX3_write) := goodIn_app (goodIn_of _ (by decide +kernel)) ggX2_nextLineWaits_X3_write
theorem dX2_nextLineWaits_0 : decode cX2_nextLineWaits 0 = .ok (.aload_n 0, 1) := by decide +kernel
theorem dX2_nextLineWaits_1 : decode cX2_nextLineWaits 1 = .ok (.getfield 9, 3) := by decide +kernel
theorem dX2_nextLineWaits_4 : decode cX2_nextLineWaits 4 = .ok (.iconst 2, 1) := by decide +kernel
theorem dX2_nextLineWaits_5 : decode cX2_nextLineWaits 5 = .ok (.iaload, 1) := by decide +kernel
theorem dX2_nextLineWaits_6 : decode cX2_nextLineWaits 6 = .ok (.istore_n 1, 1) := by decide +kernel
theorem dX2_nextLineWaits_7 : decode cX2_nextLineWaits 7 = .ok (.aload_n 0, 1) := by decide +kernel
theorem dX2_nextLineWaits_8 : decode cX2_nextLineWaits 8 = .ok (.getfield 9, 3) := by decide +kernel
theorem dX2_nextLineWaits_11 : decode cX2_nextLineWaits 11 = .ok (.bipush 9, 2) := by decide +kernel
theorem dX2_nextLineWaits_13 : decode cX2_nextLineWaits 13 = .ok (.iaload, 1) := by decide +kernel
theorem dX2_nextLineWaits_14 : decode cX2_nextLineWaits 14 = .ok (.istore_n 2, 1) := by decide +kernel
theorem dX2_nextLineWaits_15 : decode cX2_nextLineWaits 15 = .ok (.aload_n 0, 1) := by decide +kernel
theorem dX2_nextLineWaits_16 : decode cX2_nextLineWaits 16 = .ok (.getfield 9, 3) := by decide +kernel
theorem dX2_nextLineWaits_19 : decode cX2_nextLineWaits 19 = .ok (.bipush 8, 2) := by decide +kernel
theorem dX2_nextLineWaits_21 : decode cX2_nextLineWaits 21 = .ok (.iaload, 1) := by decide +kernel
theorem dX2_nextLineWaits_22 : decode cX2_nextLineWaits 22 = .ok (.istore_n 3, 1) := by decide +kernel
theorem dX2_nextLineWaits_23 : decode cX2_nextLineWaits 23 = .ok (.iload_n 3, 1) := by decide +kernel
theorem dX2_nextLineWaits_24 : decode cX2_nextLineWaits 24 = .ok (.iconst 0, 1) := by decide +kernel
theorem dX2_nextLineWaits_25 : decode cX2_nextLineWaits 25 = .ok (.bipush 15, 2) := by decide +kernel
theorem dX2_nextLineWaits_27 : decode cX2_nextLineWaits 27 = .ok (.invokestatic 50, 3) := by decide +kernel
theorem dX2_nextLineWaits_30 : decode cX2_nextLineWaits 30 = .ok (.ifCond .eq 21, 3) := by decide +kernel
theorem dX2_nextLineWaits_33 : decode cX2_nextLineWaits 33 = .ok (.aload_n 0, 1) := by decide +kernel
theorem dX2_nextLineWaits_34 : decode cX2_nextLineWaits 34 = .ok (.getfield 15, 3) := by decide +kernel
theorem dX2_nextLineWaits_37 : decode cX2_nextLineWaits 37 = .ok (.iload_n 3, 1) := by decide +kernel
theorem dX2_nextLineWaits_38 : decode cX2_nextLineWaits 38 = .ok (.iaload, 1) := by decide +kernel
theorem dX2_nextLineWaits_39 : decode cX2_nextLineWaits 39 = .ok (.aload_n 0, 1) := by decide +kernel
theorem dX2_nextLineWaits_40 : decode cX2_nextLineWaits 40 = .ok (.bipush 7, 2) := by decide +kernel
theorem dX2_nextLineWaits_42 : decode cX2_nextLineWaits 42 = .ok (.invokevirtual 54, 3) := by decide +kernel
theorem dX2_nextLineWaits_45 : decode cX2_nextLineWaits 45 = .ok (.iload_n 2, 1) := by decide +kernel
theorem dX2_nextLineWaits_46 : decode cX2_nextLineWaits 46 = .ok (.imul, 1) := by decide +kernel
theorem dX2_nextLineWaits_47 : decode cX2_nextLineWaits 47 = .ok (.iadd, 1) := by decide +kernel
theorem dX2_nextLineWaits_48 : decode cX2_nextLineWaits 48 = .ok (.goto 4, 3) := by decide +kernel
theorem dX2_nextLineWaits_51 : decode cX2_nextLineWaits 51 = .ok (.iconst 0, 1) := by decide +kernel
theorem dX2_nextLineWaits_52 : decode cX2_nextLineWaits 52 = .ok (.istore 4, 2) := by decide +kernel
theorem dX2_nextLineWaits_54 : decode cX2_nextLineWaits 54 = .ok (.aload_n 0, 1) := by decide +kernel
theorem dX2_nextLineWaits_55 : decode cX2_nextLineWaits 55 = .ok (.getfield 23, 3) := by decide +kernel
theorem dX2_nextLineWaits_58 : decode cX2_nextLineWaits 58 = .ok (.iload_n 1, 1) := by decide +kernel
theorem dX2_nextLineWaits_59 : decode cX2_nextLineWaits 59 = .ok (.iconst 0, 1) := by decide +kernel
theorem dX2_nextLineWaits_60 : decode cX2_nextLineWaits 60 = .ok (.iload_n 2, 1) := by decide +kernel
theorem dX2_nextLineWaits_61 : decode cX2_nextLineWaits 61 = .ok (.invokevirtual 90, 3) := by decide +kernel
theorem dX2_nextLineWaits_64 : decode cX2_nextLineWaits 64 = .ok (.aload_n 0, 1) := by decide +kernel
theorem dX2_nextLineWaits_65 : decode cX2_nextLineWaits 65 = .ok (.getfield 23, 3) := by decide +kernel
theorem dX2_nextLineWaits_68 : decode cX2_nextLineWaits 68 = .ok (.iload_n 1, 1) := by decide +kernel
theorem dX2_nextLineWaits_69 : decode cX2_nextLineWaits 69 = .ok (.iconst 1, 1) := by decide +kernel
theorem dX2_nextLineWaits_70 : decode cX2_nextLineWaits 70 = .ok (.iload_n 3, 1) := by decide +kernel
theorem dX2_nextLineWaits_71 : decode cX2_nextLineWaits 71 = .ok (.invokevirtual 90, 3) := by decide +kernel
theorem dX2_nextLineWaits_74 : decode cX2_nextLineWaits 74 = .ok (.aload_n 0, 1) := by decide +kernel
theorem dX2_nextLineWaits_75 : decode cX2_nextLineWaits 75 = .ok (.getfield 23, 3) := by decide +kernel
theorem dX2_nextLineWaits_78 : decode cX2_nextLineWaits 78 = .ok (.iload_n 1, 1) := by decide +kernel
theorem dX2_nextLineWaits_79 : decode cX2_nextLineWaits 79 = .ok (.iconst 2, 1) := by decide +kernel
theorem dX2_nextLineWaits_80 : decode cX2_nextLineWaits 80 = .ok (.iload 4, 2) := by decide +kernel
theorem dX2_nextLineWaits_82 : decode cX2_nextLineWaits 82 = .ok (.sipush 255, 3) := by decide +kernel
theorem dX2_nextLineWaits_85 : decode cX2_nextLineWaits 85 = .ok (.iand, 1) := by decide +kernel
theorem dX2_nextLineWaits_86 : decode cX2_nextLineWaits 86 = .ok (.invokevirtual 90, 3) := by decide +kernel
theorem dX2_nextLineWaits_89 : decode cX2_nextLineWaits 89 = .ok (.aload_n 0, 1) := by decide +kernel
theorem dX2_nextLineWaits_90 : decode cX2_nextLineWaits 90 = .ok (.getfield 23, 3) := by decide +kernel
theorem dX2_nextLineWaits_93 : decode cX2_nextLineWaits 93 = .ok (.iload_n 1, 1) := by decide +kernel
theorem dX2_nextLineWaits_94 : decode cX2_nextLineWaits 94 = .ok (.iconst 3, 1) := by decide +kernel
theorem dX2_nextLineWaits_95 : decode cX2_nextLineWaits 95 = .ok (.iconst 0, 1) := by decide +kernel
theorem dX2_nextLineWaits_96 : decode cX2_nextLineWaits 96 = .ok (.invokevirtual 90, 3) := by decide +kernel
theorem dX2_nextLineWaits_99 : decode cX2_nextLineWaits 99 = .ok (.aload_n 0, 1) := by decide +kernel
theorem dX2_nextLineWaits_100 : decode cX2_nextLineWaits 100 = .ok (.getfield 9, 3) := by decide +kernel
theorem dX2_nextLineWaits_103 : decode cX2_nextLineWaits 103 = .ok (.iconst 2, 1) := by decide +kernel
theorem dX2_nextLineWaits_104 : decode cX2_nextLineWaits 104 = .ok (.dup2, 1) := by decide +kernel
theorem dX2_nextLineWaits_105 : decode cX2_nextLineWaits 105 = .ok (.iaload, 1) := by decide +kernel
theorem dX2_nextLineWaits_106 : decode cX2_nextLineWaits 106 = .ok (.iconst 1, 1) := by decide +kernel
theorem dX2_nextLineWaits_107 : decode cX2_nextLineWaits 107 = .ok (.iadd, 1) := by decide +kernel
theorem dX2_nextLineWaits_108 : decode cX2_nextLineWaits 108 = .ok (.iastore, 1) := by decide +kernel
theorem dX2_nextLineWaits_109 : decode cX2_nextLineWaits 109 = .ok (.return_, 1) := by decide +kernel
set_option maxRecDepth 20000 in
theorem ggX2_firstNotOut_X3_read : GoodIn wsX2_firstNotOut wsX3_read := goodIn_r _ [7, 8, 9, 16, 17] (by decide +kernel) (by decide +kernel)
set_option maxRecDepth 20000 in
theorem gX2_firstNotOut_X3_read : GoodIn wsX2_firstNotOut (wsV RX2 93 RX3 yX3_read wsX3_read) := goodIn_app (goodIn_of _ (by decide +kernel)) ggX2_firstNotOut_X3_read
theorem dX2_firstNotOut_0 : decode cX2_firstNotOut 0 = .ok (.iconst 0, 1) := by decide +kernel
theorem dX2_firstNotOut_1 : decode cX2_firstNotOut 1 = .ok (.istore_n 1, 1) := by decide +kernel
theorem dX2_firstNotOut_2 : decode cX2_firstNotOut 2 = .ok (.iload_n 1, 1) := by decide +kernel
theorem dX2_firstNotOut_3 : decode cX2_firstNotOut 3 = .ok (.aload_n 0, 1) := by decide +kernel
theorem dX2_firstNotOut_4 : decode cX2_firstNotOut 4 = .ok (.getfield 9, 3) := by decide +kernel
theorem dX2_firstNotOut_7 : decode cX2_firstNotOut 7 = .ok (.iconst 2, 1) := by decide +kernel
theorem dX2_firstNotOut_8 : decode cX2_firstNotOut 8 = .ok (.iaload, 1) := by decide +kernel
theorem dX2_firstNotOut_9 : decode cX2_firstNotOut 9 = .ok (.iconst 1, 1) := by decide +kernel
theorem dX2_firstNotOut_10 : decode cX2_firstNotOut 10 = .ok (.isub, 1) := by decide +kernel
theorem dX2_firstNotOut_11 : decode cX2_firstNotOut 11 = .ok (.if_icmp .ge 21, 3) := by decide +kernel
theorem dX2_firstNotOut_14 : decode cX2_firstNotOut 14 = .ok (.aload_n 0, 1) := by decide +kernel
theorem dX2_firstNotOut_15 : decode cX2_firstNotOut 15 = .ok (.getfield 23, 3) := by decide +kernel
theorem dX2_firstNotOut_18 : decode cX2_firstNotOut 18 = .ok (.iload_n 1, 1) := by decide +kernel
theorem dX2_firstNotOut_19 : decode cX2_firstNotOut 19 = .ok (.iconst 3, 1) := by decide +kernel
theorem dX2_firstNotOut_20 : decode cX2_firstNotOut 20 = .ok (.invokevirtual 93, 3) := by decide +kernel
theorem dX2_firstNotOut_23 : decode cX2_firstNotOut 23 = .ok (.ifCond .eq 9, 3) := by decide +kernel
theorem dX2_firstNotOut_26 : decode cX2_firstNotOut 26 = .ok (.iinc 1 1, 3) := by decide +kernel
theorem dX2_firstNotOut_29 : decode cX2_firstNotOut 29 = .ok (.goto (-27), 3) := by decide +kernel
theorem dX2_firstNotOut_32 : decode cX2_firstNotOut 32 = .ok (.iload_n 1, 1) := by decide +kernel
theorem dX2_firstNotOut_33 : decode cX2_firstNotOut 33 = .ok (.ireturn, 1) := by decide +kernel
set_option maxRecDepth 20000 in
theorem ggX2_loseWaiting_X3_read : GoodIn wsX2_loseWaiting wsX3_read := goodIn_r _ [8, 9, 10, 29, 30] (by decide +kernel) (by decide +kernel)
set_option maxRecDepth 20000 in
theorem gX2_loseWaiting_X3_read : GoodIn wsX2_loseWaiting (wsV RX2 93 RX3 yX3_read wsX3_read) := goodIn_app (goodIn_of _ (by decide +kernel)) ggX2_loseWaiting_X3_read
set_option maxRecDepth 20000 in
theorem ggX2_loseWaiting_X3_write : GoodIn wsX2_loseWaiting wsX3_write := goodIn_r _ [14, 9, 10, 29, 30] (by decide +kernel) (by decide +kernel)
set_option maxRecDepth 20000 in
theorem gX2_loseWaiting_X3_write : GoodIn wsX2_loseWaiting (wsV RX2 90 RX3 yX3_write wsX3_write) := goodIn_app (goodIn_of _ (by decide +kernel)) ggX2_loseWaiting_X3_write
set_option maxRecDepth 20000 in
theorem ggX2_loseWaiting_X3_removeRow : GoodIn wsX2_loseWaiting wsX3_removeRow := goodIn_r _ [18, 9, 10, 19, 20, 21, 22, 29, 30] (by decide +kernel) (by decide +kernel)
set_option maxRecDepth 20000 in
theorem gX2_loseWaiting_X3_removeRow : GoodIn wsX2_loseWaiting (wsV RX2 96 RX3 yX3_removeRow wsX3_removeRow) := goodIn_app (goodIn_of _ (by decide +kernel)) ggX2_loseWaiting_X3_removeRow
theorem dX2_loseWaiting_0 : decode cX2_loseWaiting 0 = .ok (.aload_n 0, 1) := by decide +kernel
theorem dX2_loseWaiting_1 : decode cX2_loseWaiting 1 = .ok (.getfield 9, 3) := by decide +kernel
theorem dX2_loseWaiting_4 : decode cX2_loseWaiting 4 = .ok (.iconst 4, 1) := by decide +kernel
theorem dX2_loseWaiting_5 : decode cX2_loseWaiting 5 = .ok (.iaload, 1) := by decide +kernel
theorem dX2_loseWaiting_6 : decode cX2_loseWaiting 6 = .ok (.bipush 8, 2) := by decide +kernel
theorem dX2_loseWaiting_8 : decode cX2_loseWaiting 8 = .ok (.irem, 1) := by decide +kernel
theorem dX2_loseWaiting_9 : decode cX2_loseWaiting 9 = .ok (.istore_n 3, 1) := by decide +kernel
theorem dX2_loseWaiting_10 : decode cX2_loseWaiting 10 = .ok (.aload_n 0, 1) := by decide +kernel
theorem dX2_loseWaiting_11 : decode cX2_loseWaiting 11 = .ok (.getfield 30, 3) := by decide +kernel
theorem dX2_loseWaiting_14 : decode cX2_loseWaiting 14 = .ok (.iload_n 3, 1) := by decide +kernel
theorem dX2_loseWaiting_15 : decode cX2_loseWaiting 15 = .ok (.iconst 0, 1) := by decide +kernel
theorem dX2_loseWaiting_16 : decode cX2_loseWaiting 16 = .ok (.aload_n 0, 1) := by decide +kernel
theorem dX2_loseWaiting_17 : decode cX2_loseWaiting 17 = .ok (.getfield 23, 3) := by decide +kernel
theorem dX2_loseWaiting_20 : decode cX2_loseWaiting 20 = .ok (.iload_n 1, 1) := by decide +kernel
theorem dX2_loseWaiting_21 : decode cX2_loseWaiting 21 = .ok (.iconst 0, 1) := by decide +kernel
theorem dX2_loseWaiting_22 : decode cX2_loseWaiting 22 = .ok (.invokevirtual 93, 3) := by decide +kernel
theorem dX2_loseWaiting_25 : decode cX2_loseWaiting 25 = .ok (.invokevirtual 90, 3) := by decide +kernel
theorem dX2_loseWaiting_28 : decode cX2_loseWaiting 28 = .ok (.aload_n 0, 1) := by decide +kernel
theorem dX2_loseWaiting_29 : decode cX2_loseWaiting 29 = .ok (.getfield 30, 3) := by decide +kernel
theorem dX2_loseWaiting_32 : decode cX2_loseWaiting 32 = .ok (.iload_n 3, 1) := by decide +kernel
theorem dX2_loseWaiting_33 : decode cX2_loseWaiting 33 = .ok (.iconst 1, 1) := by decide +kernel
theorem dX2_loseWaiting_34 : decode cX2_loseWaiting 34 = .ok (.aload_n 0, 1) := by decide +kernel
theorem dX2_loseWaiting_35 : decode cX2_loseWaiting 35 = .ok (.getfield 23, 3) := by decide +kernel
theorem dX2_loseWaiting_38 : decode cX2_loseWaiting 38 = .ok (.iload_n 1, 1) := by decide +kernel
theorem dX2_loseWaiting_39 : decode cX2_loseWaiting 39 = .ok (.iconst 1, 1) := by decide +kernel
theorem dX2_loseWaiting_40 : decode cX2_loseWaiting 40 = .ok (.invokevirtual 93, 3) := by decide +kernel
theorem dX2_loseWaiting_43 : decode cX2_loseWaiting 43 = .ok (.invokevirtual 90, 3) := by decide +kernel
theorem dX2_loseWaiting_46 : decode cX2_loseWaiting 46 = .ok (.aload_n 0, 1) := by decide +kernel
theorem dX2_loseWaiting_47 : decode cX2_loseWaiting 47 = .ok (.getfield 30, 3) := by decide +kernel
theorem dX2_loseWaiting_50 : decode cX2_loseWaiting 50 = .ok (.iload_n 3, 1) := by decide +kernel
theorem dX2_loseWaiting_51 : decode cX2_loseWaiting 51 = .ok (.iconst 2, 1) := by decide +kernel
theorem dX2_loseWaiting_52 : decode cX2_loseWaiting 52 = .ok (.iload_n 2, 1) := by decide +kernel
theorem dX2_loseWaiting_53 : decode cX2_loseWaiting 53 = .ok (.invokevirtual 90, 3) := by decide +kernel
theorem dX2_loseWaiting_56 : decode cX2_loseWaiting 56 = .ok (.aload_n 0, 1) := by decide +kernel
theorem dX2_loseWaiting_57 : decode cX2_loseWaiting 57 = .ok (.getfield 30, 3) := by decide +kernel
theorem dX2_loseWaiting_60 : decode cX2_loseWaiting 60 = .ok (.iload_n 3, 1) := by decide +kernel
theorem dX2_loseWaiting_61 : decode cX2_loseWaiting 61 = .ok (.iconst 3, 1) := by decide +kernel
theorem dX2_loseWaiting_62 : decode cX2_loseWaiting 62 = .ok (.aload_n 0, 1) := by decide +kernel
theorem dX2_loseWaiting_63 : decode cX2_loseWaiting 63 = .ok (.getfield 9, 3) := by decide +kernel
theorem dX2_loseWaiting_66 : decode cX2_loseWaiting 66 = .ok (.iconst 0, 1) := by decide +kernel
theorem dX2_loseWaiting_67 : decode cX2_loseWaiting 67 = .ok (.iaload, 1) := by decide +kernel
theorem dX2_loseWaiting_68 : decode cX2_loseWaiting 68 = .ok (.invokevirtual 90, 3) := by decide +kernel
theorem dX2_loseWaiting_71 : decode cX2_loseWaiting 71 = .ok (.aload_n 0, 1) := by decide +kernel
theorem dX2_loseWaiting_72 : decode cX2_loseWaiting 72 = .ok (.getfield 9, 3) := by decide +kernel
theorem dX2_loseWaiting_75 : decode cX2_loseWaiting 75 = .ok (.iconst 4, 1) := by decide +kernel
theorem dX2_loseWaiting_76 : decode cX2_loseWaiting 76 = .ok (.dup2, 1) := by decide +kernel
theorem dX2_loseWaiting_77 : decode cX2_loseWaiting 77 = .ok (.iaload, 1) := by decide +kernel
theorem dX2_loseWaiting_78 : decode cX2_loseWaiting 78 = .ok (.iconst 1, 1) := by decide +kernel
theorem dX2_loseWaiting_79 : decode cX2_loseWaiting 79 = .ok (.iadd, 1) := by decide +kernel
theorem dX2_loseWaiting_80 : decode cX2_loseWaiting 80 = .ok (.iastore, 1) := by decide +kernel
theorem dX2_loseWaiting_81 : decode cX2_loseWaiting 81 = .ok (.aload_n 0, 1) := by decide +kernel
theorem dX2_loseWaiting_82 : decode cX2_loseWaiting 82 = .ok (.getfield 23, 3) := by decide +kernel
theorem dX2_loseWaiting_85 : decode cX2_loseWaiting 85 = .ok (.iload_n 1, 1) := by decide +kernel
theorem dX2_loseWaiting_86 : decode cX2_loseWaiting 86 = .ok (.invokevirtual 96, 3) := by decide +kernel
theorem dX2_loseWaiting_89 : decode cX2_loseWaiting 89 = .ok (.aload_n 0, 1) := by decide +kernel
theorem dX2_loseWaiting_90 : decode cX2_loseWaiting 90 = .ok (.getfield 9, 3) := by decide +kernel
theorem dX2_loseWaiting_93 : decode cX2_loseWaiting 93 = .ok (.iconst 2, 1) := by decide +kernel
theorem dX2_loseWaiting_94 : decode cX2_loseWaiting 94 = .ok (.dup2, 1) := by decide +kernel
theorem dX2_loseWaiting_95 : decode cX2_loseWaiting 95 = .ok (.iaload, 1) := by decide +kernel
theorem dX2_loseWaiting_96 : decode cX2_loseWaiting 96 = .ok (.iconst 1, 1) := by decide +kernel
theorem dX2_loseWaiting_97 : decode cX2_loseWaiting 97 = .ok (.isub, 1) := by decide +kernel
theorem dX2_loseWaiting_98 : decode cX2_loseWaiting 98 = .ok (.iastore, 1) := by decide +kernel
theorem dX2_loseWaiting_99 : decode cX2_loseWaiting 99 = .ok (.return_, 1) := by decide +kernel
set_option maxRecDepth 20000 in
theorem ggX2_rowGoesOut_X2_rowsOfScreen : GoodIn wsX2_rowGoesOut wsX2_rowsOfScreen := goodIn_r _ [6, 7, 8, 9, 5, 10, 1, 11, 12, 13, 56, 57, 58, 59, 60, 61] (by decide +kernel) (by decide +kernel)
set_option maxRecDepth 20000 in
theorem gX2_rowGoesOut_X2_rowsOfScreen : GoodIn wsX2_rowGoesOut (wsV RX2 100 RX2 yX2_rowsOfScreen wsX2_rowsOfScreen) := goodIn_app (goodIn_of _ (by decide +kernel)) ggX2_rowGoesOut_X2_rowsOfScreen
set_option maxRecDepth 20000 in
theorem ggX2_rowGoesOut_X2_setting : GoodIn wsX2_rowGoesOut wsX2_setting := goodIn_r _ [10, 1, 11, 12, 13, 56, 57, 58, 59, 60, 61] (by decide +kernel) (by decide +kernel)
set_option maxRecDepth 20000 in
theorem gX2_rowGoesOut_X2_setting : GoodIn wsX2_rowGoesOut (wsV RX2 54 RX2 yX2_setting wsX2_setting) := goodIn_app (goodIn_of _ (by decide +kernel)) ggX2_rowGoesOut_X2_setting
set_option maxRecDepth 20000 in
theorem ggX2_rowGoesOut_X2_skipToPicture : GoodIn wsX2_rowGoesOut wsX2_skipToPicture := goodIn_r _ [17, 1, 18, 19, 20, 21, 22, 23, 24, 25, 26, 27, 28, 5, 29, 30, 31, 32, 33, 34, 35, 36, 37, 38, 39, 40, 41, 42, 56, 57, 58, 59, 60, 61, 62, 63] (by decide +kernel) (by decide +kernel)
set_option maxRecDepth 20000 in
theorem gX2_rowGoesOut_X2_skipToPicture : GoodIn wsX2_rowGoesOut (wsV RX2 103 RX2 yX2_skipToPicture wsX2_skipToPicture) := goodIn_app (goodIn_of _ (by decide +kernel)) ggX2_rowGoesOut_X2_skipToPicture
set_option maxRecDepth 20000 in
theorem ggX2_rowGoesOut_X2_showFirstWaiting : GoodIn wsX2_rowGoesOut wsX2_showFirstWaiting := goodIn_r _ [46, 47, 18, 1, 19, 20, 21, 22, 23, 24, 25, 31, 32, 33, 34, 35, 36, 37, 38, 39, 40, 41, 42, 56, 57, 58, 59, 60, 61, 62, 63] (by decide +kernel) (by decide +kernel)
set_option maxRecDepth 20000 in
theorem gX2_rowGoesOut_X2_showFirstWaiting : GoodIn wsX2_rowGoesOut (wsV RX2 106 RX2 yX2_showFirstWaiting wsX2_showFirstWaiting) := goodIn_app (goodIn_of _ (by decide +kernel)) ggX2_rowGoesOut_X2_showFirstWaiting
set_option maxRecDepth 20000 in
theorem ggX2_rowGoesOut_X2_showColour : GoodIn wsX2_rowGoesOut wsX2_showColour := goodIn_r _ [51, 47, 1, 7, 8, 9, 5, 10, 11, 12, 13, 31, 32, 33, 22, 34, 24, 25, 56, 57, 58, 59, 60, 61, 62, 63] (by decide +kernel) (by decide +kernel)
set_option maxRecDepth 20000 in
theorem gX2_rowGoesOut_X2_showColour : GoodIn wsX2_rowGoesOut (wsV RX2 109 RX2 yX2_showColour wsX2_showColour) := goodIn_app (goodIn_of _ (by decide +kernel)) ggX2_rowGoesOut_X2_showColour
set_option maxRecDepth 20000 in
theorem ggX2_rowGoesOut_X2_judgeScreen : GoodIn wsX2_rowGoesOut wsX2_judgeScreen := goodIn_r _ [55, 47, 19, 20, 21, 22, 23, 24, 25, 56, 57, 58, 59, 60, 61, 62, 63] (by decide +kernel) (by decide +kernel)
set_option maxRecDepth 20000 in
theorem gX2_rowGoesOut_X2_judgeScreen : GoodIn wsX2_rowGoesOut (wsV RX2 112 RX2 yX2_judgeScreen wsX2_judgeScreen) := goodIn_app (goodIn_of _ (by decide +kernel)) ggX2_rowGoesOut_X2_judgeScreen
