theorem dX5_restore_0 : decode cX5_restore 0 = .ok (.iload_n 1, 1) := by decide +kernel
theorem dX5_restore_1 : decode cX5_restore 1 = .ok (.iconst 0, 1) := by decide +kernel
theorem dX5_restore_2 : decode cX5_restore 2 = .ok (.iconst 1, 1) := by decide +kernel
theorem dX5_restore_3 : decode cX5_restore 3 = .ok (.invokestatic 40, 3) := by decide +kernel
theorem dX5_restore_6 : decode cX5_restore 6 = .ok (.ifCond .ne 6, 3) := by decide +kernel
theorem dX5_restore_9 : decode cX5_restore 9 = .ok (.bipush (-2), 2) := by decide +kernel
theorem dX5_restore_11 : decode cX5_restore 11 = .ok (.ireturn, 1) := by decide +kernel
theorem dX5_restore_12 : decode cX5_restore 12 = .ok (.aload_n 0, 1) := by decide +kernel
theorem dX5_restore_13 : decode cX5_restore 13 = .ok (.getfield 22, 3) := by decide +kernel
theorem dX5_restore_16 : decode cX5_restore 16 = .ok (.iload_n 1, 1) := by decide +kernel
theorem dX5_restore_17 : decode cX5_restore 17 = .ok (.baload, 1) := by decide +kernel
theorem dX5_restore_18 : decode cX5_restore 18 = .ok (.ifCond .ne 6, 3) := by decide +kernel
theorem dX5_restore_21 : decode cX5_restore 21 = .ok (.bipush (-5), 2) := by decide +kernel
theorem dX5_restore_23 : decode cX5_restore 23 = .ok (.ireturn, 1) := by decide +kernel
theorem dX5_restore_24 : decode cX5_restore 24 = .ok (.aload_n 0, 1) := by decide +kernel
theorem dX5_restore_25 : decode cX5_restore 25 = .ok (.invokevirtual 44, 3) := by decide +kernel
theorem dX5_restore_28 : decode cX5_restore 28 = .ok (.aload_n 0, 1) := by decide +kernel
theorem dX5_restore_29 : decode cX5_restore 29 = .ok (.getfield 19, 3) := by decide +kernel
theorem dX5_restore_32 : decode cX5_restore 32 = .ok (.sipush 234, 3) := by decide +kernel
theorem dX5_restore_35 : decode cX5_restore 35 = .ok (.iload_n 1, 1) := by decide +kernel
theorem dX5_restore_36 : decode cX5_restore 36 = .ok (.imul, 1) := by decide +kernel
theorem dX5_restore_37 : decode cX5_restore 37 = .ok (.aload_n 0, 1) := by decide +kernel
theorem dX5_restore_38 : decode cX5_restore 38 = .ok (.getfield 7, 3) := by decide +kernel
theorem dX5_restore_41 : decode cX5_restore 41 = .ok (.iconst 0, 1) := by decide +kernel
theorem dX5_restore_42 : decode cX5_restore 42 = .ok (.invokestatic 36, 3) := by decide +kernel
theorem dX5_restore_45 : decode cX5_restore 45 = .ok (.aload_n 0, 1) := by decide +kernel
theorem dX5_restore_46 : decode cX5_restore 46 = .ok (.getfield 7, 3) := by decide +kernel
theorem dX5_restore_49 : decode cX5_restore 49 = .ok (.iconst 0, 1) := by decide +kernel
theorem dX5_restore_50 : decode cX5_restore 50 = .ok (.iaload, 1) := by decide +kernel
theorem dX5_restore_51 : decode cX5_restore 51 = .ok (.ireturn, 1) := by decide +kernel
theorem dX5_of_0 : decode cX5_of 0 = .ok (.aload_n 0, 1) := by decide +kernel
theorem dX5_of_1 : decode cX5_of 1 = .ok (.bipush 42, 2) := by decide +kernel
theorem dX5_of_3 : decode cX5_of 3 = .ok (.iconst 4, 1) := by decide +kernel
theorem dX5_of_4 : decode cX5_of 4 = .ok (.iload_n 1, 1) := by decide +kernel
theorem dX5_of_5 : decode cX5_of 5 = .ok (.imul, 1) := by decide +kernel
theorem dX5_of_6 : decode cX5_of 6 = .ok (.iadd, 1) := by decide +kernel
theorem dX5_of_7 : decode cX5_of 7 = .ok (.iload_n 2, 1) := by decide +kernel
theorem dX5_of_8 : decode cX5_of 8 = .ok (.iadd, 1) := by decide +kernel
theorem dX5_of_9 : decode cX5_of 9 = .ok (.iaload, 1) := by decide +kernel
theorem dX5_of_10 : decode cX5_of 10 = .ok (.ireturn, 1) := by decide +kernel
theorem dX5_misses_0 : decode cX5_misses 0 = .ok (.sipush 233, 3) := by decide +kernel
theorem dX5_misses_3 : decode cX5_misses 3 = .ok (.istore 4, 2) := by decide +kernel
theorem dX5_misses_5 : decode cX5_misses 5 = .ok (.iload 4, 2) := by decide +kernel
theorem dX5_misses_7 : decode cX5_misses 7 = .ok (.sipush 206, 3) := by decide +kernel
theorem dX5_misses_10 : decode cX5_misses 10 = .ok (.if_icmp .lt 19, 3) := by decide +kernel
theorem dX5_misses_13 : decode cX5_misses 13 = .ok (.aload_n 0, 1) := by decide +kernel
theorem dX5_misses_14 : decode cX5_misses 14 = .ok (.iload 4, 2) := by decide +kernel
theorem dX5_misses_16 : decode cX5_misses 16 = .ok (.aload_n 0, 1) := by decide +kernel
theorem dX5_misses_17 : decode cX5_misses 17 = .ok (.iload 4, 2) := by decide +kernel
theorem dX5_misses_19 : decode cX5_misses 19 = .ok (.iconst 4, 1) := by decide +kernel
theorem dX5_misses_20 : decode cX5_misses 20 = .ok (.isub, 1) := by decide +kernel
theorem dX5_misses_21 : decode cX5_misses 21 = .ok (.iaload, 1) := by decide +kernel
theorem dX5_misses_22 : decode cX5_misses 22 = .ok (.iastore, 1) := by decide +kernel
theorem dX5_misses_23 : decode cX5_misses 23 = .ok (.iinc 4 (-1), 3) := by decide +kernel
theorem dX5_misses_26 : decode cX5_misses 26 = .ok (.goto (-21), 3) := by decide +kernel
theorem dX5_misses_29 : decode cX5_misses 29 = .ok (.aload_n 0, 1) := by decide +kernel
theorem dX5_misses_30 : decode cX5_misses 30 = .ok (.sipush 202, 3) := by decide +kernel
theorem dX5_misses_33 : decode cX5_misses 33 = .ok (.iload_n 1, 1) := by decide +kernel
theorem dX5_misses_34 : decode cX5_misses 34 = .ok (.iastore, 1) := by decide +kernel
theorem dX5_misses_35 : decode cX5_misses 35 = .ok (.aload_n 0, 1) := by decide +kernel
theorem dX5_misses_36 : decode cX5_misses 36 = .ok (.sipush 203, 3) := by decide +kernel
theorem dX5_misses_39 : decode cX5_misses 39 = .ok (.iload_n 2, 1) := by decide +kernel
theorem dX5_misses_40 : decode cX5_misses 40 = .ok (.iastore, 1) := by decide +kernel
theorem dX5_misses_41 : decode cX5_misses 41 = .ok (.aload_n 0, 1) := by decide +kernel
theorem dX5_misses_42 : decode cX5_misses 42 = .ok (.sipush 204, 3) := by decide +kernel
theorem dX5_misses_45 : decode cX5_misses 45 = .ok (.iload_n 3, 1) := by decide +kernel
theorem dX5_misses_46 : decode cX5_misses 46 = .ok (.iastore, 1) := by decide +kernel
theorem dX5_misses_47 : decode cX5_misses 47 = .ok (.aload_n 0, 1) := by decide +kernel
theorem dX5_misses_48 : decode cX5_misses 48 = .ok (.sipush 205, 3) := by decide +kernel
theorem dX5_misses_51 : decode cX5_misses 51 = .ok (.aload_n 0, 1) := by decide +kernel
theorem dX5_misses_52 : decode cX5_misses 52 = .ok (.iconst 0, 1) := by decide +kernel
theorem dX5_misses_53 : decode cX5_misses 53 = .ok (.iaload, 1) := by decide +kernel
theorem dX5_misses_54 : decode cX5_misses 54 = .ok (.iastore, 1) := by decide +kernel
theorem dX5_misses_55 : decode cX5_misses 55 = .ok (.aload_n 0, 1) := by decide +kernel
theorem dX5_misses_56 : decode cX5_misses 56 = .ok (.bipush 24, 2) := by decide +kernel
theorem dX5_misses_58 : decode cX5_misses 58 = .ok (.dup2, 1) := by decide +kernel
theorem dX5_misses_59 : decode cX5_misses 59 = .ok (.iaload, 1) := by decide +kernel
theorem dX5_misses_60 : decode cX5_misses 60 = .ok (.aload_n 0, 1) := by decide +kernel
theorem dX5_misses_61 : decode cX5_misses 61 = .ok (.bipush 24, 2) := by decide +kernel
theorem dX5_misses_63 : decode cX5_misses 63 = .ok (.iaload, 1) := by decide +kernel
theorem dX5_misses_64 : decode cX5_misses 64 = .ok (.bipush 8, 2) := by decide +kernel
theorem dX5_misses_66 : decode cX5_misses 66 = .ok (.if_icmp .ge 7, 3) := by decide +kernel
theorem dX5_misses_69 : decode cX5_misses 69 = .ok (.iconst 1, 1) := by decide +kernel
theorem dX5_misses_70 : decode cX5_misses 70 = .ok (.goto 4, 3) := by decide +kernel
theorem dX5_misses_73 : decode cX5_misses 73 = .ok (.iconst 0, 1) := by decide +kernel
theorem dX5_misses_74 : decode cX5_misses 74 = .ok (.iadd, 1) := by decide +kernel
theorem dX5_misses_75 : decode cX5_misses 75 = .ok (.iastore, 1) := by decide +kernel
theorem dX5_misses_76 : decode cX5_misses 76 = .ok (.aload_n 0, 1) := by decide +kernel
theorem dX5_misses_77 : decode cX5_misses 77 = .ok (.bipush 12, 2) := by decide +kernel
theorem dX5_misses_79 : decode cX5_misses 79 = .ok (.dup2, 1) := by decide +kernel
theorem dX5_misses_80 : decode cX5_misses 80 = .ok (.iaload, 1) := by decide +kernel
theorem dX5_misses_81 : decode cX5_misses 81 = .ok (.iconst 1, 1) := by decide +kernel
theorem dX5_misses_82 : decode cX5_misses 82 = .ok (.iadd, 1) := by decide +kernel
theorem dX5_misses_83 : decode cX5_misses 83 = .ok (.iastore, 1) := by decide +kernel
theorem dX5_misses_84 : decode cX5_misses 84 = .ok (.return_, 1) := by decide +kernel
theorem dX5_leaves_0 : decode cX5_leaves 0 = .ok (.aload_n 0, 1) := by decide +kernel
theorem dX5_leaves_1 : decode cX5_leaves 1 = .ok (.bipush 10, 2) := by decide +kernel
theorem dX5_leaves_3 : decode cX5_leaves 3 = .ok (.dup2, 1) := by decide +kernel
theorem dX5_leaves_4 : decode cX5_leaves 4 = .ok (.iaload, 1) := by decide +kernel
theorem dX5_leaves_5 : decode cX5_leaves 5 = .ok (.iconst 1, 1) := by decide +kernel
theorem dX5_leaves_6 : decode cX5_leaves 6 = .ok (.isub, 1) := by decide +kernel
theorem dX5_leaves_7 : decode cX5_leaves 7 = .ok (.iastore, 1) := by decide +kernel
theorem dX5_leaves_8 : decode cX5_leaves 8 = .ok (.bipush 42, 2) := by decide +kernel
theorem dX5_leaves_10 : decode cX5_leaves 10 = .ok (.iconst 4, 1) := by decide +kernel
theorem dX5_leaves_11 : decode cX5_leaves 11 = .ok (.iload_n 1, 1) := by decide +kernel
theorem dX5_leaves_12 : decode cX5_leaves 12 = .ok (.imul, 1) := by decide +kernel
theorem dX5_leaves_13 : decode cX5_leaves 13 = .ok (.iadd, 1) := by decide +kernel
theorem dX5_leaves_14 : decode cX5_leaves 14 = .ok (.istore_n 2, 1) := by decide +kernel
theorem dX5_leaves_15 : decode cX5_leaves 15 = .ok (.iload_n 2, 1) := by decide +kernel
theorem dX5_leaves_16 : decode cX5_leaves 16 = .ok (.bipush 42, 2) := by decide +kernel
theorem dX5_leaves_18 : decode cX5_leaves 18 = .ok (.iconst 4, 1) := by decide +kernel
theorem dX5_leaves_19 : decode cX5_leaves 19 = .ok (.aload_n 0, 1) := by decide +kernel
theorem dX5_leaves_20 : decode cX5_leaves 20 = .ok (.bipush 10, 2) := by decide +kernel
theorem dX5_leaves_22 : decode cX5_leaves 22 = .ok (.iaload, 1) := by decide +kernel
theorem dX5_leaves_23 : decode cX5_leaves 23 = .ok (.imul, 1) := by decide +kernel
theorem dX5_leaves_24 : decode cX5_leaves 24 = .ok (.iadd, 1) := by decide +kernel
theorem dX5_leaves_25 : decode cX5_leaves 25 = .ok (.if_icmp .ge 17, 3) := by decide +kernel
theorem dX5_leaves_28 : decode cX5_leaves 28 = .ok (.aload_n 0, 1) := by decide +kernel
theorem dX5_leaves_29 : decode cX5_leaves 29 = .ok (.iload_n 2, 1) := by decide +kernel
theorem dX5_leaves_30 : decode cX5_leaves 30 = .ok (.aload_n 0, 1) := by decide +kernel
theorem dX5_leaves_31 : decode cX5_leaves 31 = .ok (.iload_n 2, 1) := by decide +kernel
theorem dX5_leaves_32 : decode cX5_leaves 32 = .ok (.iconst 4, 1) := by decide +kernel
theorem dX5_leaves_33 : decode cX5_leaves 33 = .ok (.iadd, 1) := by decide +kernel
theorem dX5_leaves_34 : decode cX5_leaves 34 = .ok (.iaload, 1) := by decide +kernel
theorem dX5_leaves_35 : decode cX5_leaves 35 = .ok (.iastore, 1) := by decide +kernel
theorem dX5_leaves_36 : decode cX5_leaves 36 = .ok (.iinc 2 1, 3) := by decide +kernel
theorem dX5_leaves_39 : decode cX5_leaves 39 = .ok (.goto (-24), 3) := by decide +kernel
theorem dX5_leaves_42 : decode cX5_leaves 42 = .ok (.return_, 1) := by decide +kernel
set_option maxRecDepth 20000 in
theorem ggX5_loses_X5_of : GoodIn wsX5_loses wsX5_of := goodIn_r _ [4] (by decide +kernel) (by decide +kernel)
set_option maxRecDepth 20000 in
theorem gX5_loses_X5_of : GoodIn wsX5_loses (va_wsS RX5 47 yX5_of wsX5_of) := goodIn_app (goodIn_of _ (by decide +kernel)) ggX5_loses_X5_of
set_option maxRecDepth 20000 in
theorem ggX5_loses_X5_misses : GoodIn wsX5_loses wsX5_misses := goodIn_r _ [7] (by decide +kernel) (by decide +kernel)
set_option maxRecDepth 20000 in
theorem gX5_loses_X5_misses : GoodIn wsX5_loses (va_wsS RX5 51 yX5_misses wsX5_misses) := goodIn_app (goodIn_of _ (by decide +kernel)) ggX5_loses_X5_misses
set_option maxRecDepth 20000 in
theorem ggX5_loses_X5_leaves : GoodIn wsX5_loses wsX5_leaves := goodIn_r _ [10] (by decide +kernel) (by decide +kernel)
set_option maxRecDepth 20000 in
theorem gX5_loses_X5_leaves : GoodIn wsX5_loses (va_wsS RX5 55 yX5_leaves wsX5_leaves) := goodIn_app (goodIn_of _ (by decide +kernel)) ggX5_loses_X5_leaves
theorem dX5_loses_0 : decode cX5_loses 0 = .ok (.aload_n 0, 1) := by decide +kernel
theorem dX5_loses_1 : decode cX5_loses 1 = .ok (.aload_n 0, 1) := by decide +kernel
theorem dX5_loses_2 : decode cX5_loses 2 = .ok (.iload_n 1, 1) := by decide +kernel
theorem dX5_loses_3 : decode cX5_loses 3 = .ok (.iconst 0, 1) := by decide +kernel
theorem dX5_loses_4 : decode cX5_loses 4 = .ok (.invokestatic 47, 3) := by decide +kernel
theorem dX5_loses_7 : decode cX5_loses 7 = .ok (.aload_n 0, 1) := by decide +kernel
theorem dX5_loses_8 : decode cX5_loses 8 = .ok (.iload_n 1, 1) := by decide +kernel
theorem dX5_loses_9 : decode cX5_loses 9 = .ok (.iconst 1, 1) := by decide +kernel
theorem dX5_loses_10 : decode cX5_loses 10 = .ok (.invokestatic 47, 3) := by decide +kernel
theorem dX5_loses_13 : decode cX5_loses 13 = .ok (.iload_n 2, 1) := by decide +kernel
theorem dX5_loses_14 : decode cX5_loses 14 = .ok (.invokestatic 51, 3) := by decide +kernel
theorem dX5_loses_17 : decode cX5_loses 17 = .ok (.aload_n 0, 1) := by decide +kernel
theorem dX5_loses_18 : decode cX5_loses 18 = .ok (.iload_n 1, 1) := by decide +kernel
theorem dX5_loses_19 : decode cX5_loses 19 = .ok (.invokestatic 55, 3) := by decide +kernel
theorem dX5_loses_22 : decode cX5_loses 22 = .ok (.return_, 1) := by decide +kernel
theorem dX5_queues_0 : decode cX5_queues 0 = .ok (.bipush 42, 2) := by decide +kernel
theorem dX5_queues_2 : decode cX5_queues 2 = .ok (.iconst 4, 1) := by decide +kernel
theorem dX5_queues_3 : decode cX5_queues 3 = .ok (.aload_n 0, 1) := by decide +kernel
theorem dX5_queues_4 : decode cX5_queues 4 = .ok (.bipush 10, 2) := by decide +kernel
theorem dX5_queues_6 : decode cX5_queues 6 = .ok (.iaload, 1) := by decide +kernel
theorem dX5_queues_7 : decode cX5_queues 7 = .ok (.imul, 1) := by decide +kernel
theorem dX5_queues_8 : decode cX5_queues 8 = .ok (.iadd, 1) := by decide +kernel
theorem dX5_queues_9 : decode cX5_queues 9 = .ok (.istore_n 1, 1) := by decide +kernel
theorem dX5_queues_10 : decode cX5_queues 10 = .ok (.aload_n 0, 1) := by decide +kernel
theorem dX5_queues_11 : decode cX5_queues 11 = .ok (.iload_n 1, 1) := by decide +kernel
theorem dX5_queues_12 : decode cX5_queues 12 = .ok (.aload_n 0, 1) := by decide +kernel
theorem dX5_queues_13 : decode cX5_queues 13 = .ok (.bipush 17, 2) := by decide +kernel
theorem dX5_queues_15 : decode cX5_queues 15 = .ok (.iaload, 1) := by decide +kernel
theorem dX5_queues_16 : decode cX5_queues 16 = .ok (.iastore, 1) := by decide +kernel
theorem dX5_queues_17 : decode cX5_queues 17 = .ok (.aload_n 0, 1) := by decide +kernel
theorem dX5_queues_18 : decode cX5_queues 18 = .ok (.iload_n 1, 1) := by decide +kernel
theorem dX5_queues_19 : decode cX5_queues 19 = .ok (.iconst 1, 1) := by decide +kernel
theorem dX5_queues_20 : decode cX5_queues 20 = .ok (.iadd, 1) := by decide +kernel
theorem dX5_queues_21 : decode cX5_queues 21 = .ok (.aload_n 0, 1) := by decide +kernel
theorem dX5_queues_22 : decode cX5_queues 22 = .ok (.bipush 16, 2) := by decide +kernel
theorem dX5_queues_24 : decode cX5_queues 24 = .ok (.iaload, 1) := by decide +kernel
theorem dX5_queues_25 : decode cX5_queues 25 = .ok (.iastore, 1) := by decide +kernel
theorem dX5_queues_26 : decode cX5_queues 26 = .ok (.aload_n 0, 1) := by decide +kernel
theorem dX5_queues_27 : decode cX5_queues 27 = .ok (.iload_n 1, 1) := by decide +kernel
theorem dX5_queues_28 : decode cX5_queues 28 = .ok (.iconst 2, 1) := by decide +kernel
theorem dX5_queues_29 : decode cX5_queues 29 = .ok (.iadd, 1) := by decide +kernel
theorem dX5_queues_30 : decode cX5_queues 30 = .ok (.aload_n 0, 1) := by decide +kernel
theorem dX5_queues_31 : decode cX5_queues 31 = .ok (.bipush 26, 2) := by decide +kernel
theorem dX5_queues_33 : decode cX5_queues 33 = .ok (.aload_n 0, 1) := by decide +kernel
theorem dX5_queues_34 : decode cX5_queues 34 = .ok (.bipush 16, 2) := by decide +kernel
theorem dX5_queues_36 : decode cX5_queues 36 = .ok (.iaload, 1) := by decide +kernel
theorem dX5_queues_37 : decode cX5_queues 37 = .ok (.iadd, 1) := by decide +kernel
theorem dX5_queues_38 : decode cX5_queues 38 = .ok (.iaload, 1) := by decide +kernel
theorem dX5_queues_39 : decode cX5_queues 39 = .ok (.aload_n 0, 1) := by decide +kernel
theorem dX5_queues_40 : decode cX5_queues 40 = .ok (.bipush 8, 2) := by decide +kernel
theorem dX5_queues_42 : decode cX5_queues 42 = .ok (.iaload, 1) := by decide +kernel
theorem dX5_queues_43 : decode cX5_queues 43 = .ok (.aload_n 0, 1) := by decide +kernel
theorem dX5_queues_44 : decode cX5_queues 44 = .ok (.bipush 17, 2) := by decide +kernel
theorem dX5_queues_46 : decode cX5_queues 46 = .ok (.iaload, 1) := by decide +kernel
theorem dX5_queues_47 : decode cX5_queues 47 = .ok (.imul, 1) := by decide +kernel
theorem dX5_queues_48 : decode cX5_queues 48 = .ok (.iadd, 1) := by decide +kernel
theorem dX5_queues_49 : decode cX5_queues 49 = .ok (.sipush 256, 3) := by decide +kernel
theorem dX5_queues_52 : decode cX5_queues 52 = .ok (.irem, 1) := by decide +kernel
theorem dX5_queues_53 : decode cX5_queues 53 = .ok (.iastore, 1) := by decide +kernel
theorem dX5_queues_54 : decode cX5_queues 54 = .ok (.aload_n 0, 1) := by decide +kernel
theorem dX5_queues_55 : decode cX5_queues 55 = .ok (.iload_n 1, 1) := by decide +kernel
theorem dX5_queues_56 : decode cX5_queues 56 = .ok (.iconst 3, 1) := by decide +kernel
theorem dX5_queues_57 : decode cX5_queues 57 = .ok (.iadd, 1) := by decide +kernel
theorem dX5_queues_58 : decode cX5_queues 58 = .ok (.iconst 0, 1) := by decide +kernel
theorem dX5_queues_59 : decode cX5_queues 59 = .ok (.iastore, 1) := by decide +kernel
theorem dX5_queues_60 : decode cX5_queues 60 = .ok (.aload_n 0, 1) := by decide +kernel
theorem dX5_queues_61 : decode cX5_queues 61 = .ok (.bipush 10, 2) := by decide +kernel
theorem dX5_queues_63 : decode cX5_queues 63 = .ok (.dup2, 1) := by decide +kernel
theorem dX5_queues_64 : decode cX5_queues 64 = .ok (.iaload, 1) := by decide +kernel
theorem dX5_queues_65 : decode cX5_queues 65 = .ok (.iconst 1, 1) := by decide +kernel
theorem dX5_queues_66 : decode cX5_queues 66 = .ok (.iadd, 1) := by decide +kernel
theorem dX5_queues_67 : decode cX5_queues 67 = .ok (.iastore, 1) := by decide +kernel
theorem dX5_queues_68 : decode cX5_queues 68 = .ok (.return_, 1) := by decide +kernel
set_option maxRecDepth 20000 in
theorem ggX5_firstFresh_X5_of : GoodIn wsX5_firstFresh wsX5_of := goodIn_r _ [4] (by decide +kernel) (by decide +kernel)
set_option maxRecDepth 20000 in
theorem gX5_firstFresh_X5_of : GoodIn wsX5_firstFresh (va_wsS RX5 47 yX5_of wsX5_of) := goodIn_app (goodIn_of _ (by decide +kernel)) ggX5_firstFresh_X5_of
theorem dX5_firstFresh_0 : decode cX5_firstFresh 0 = .ok (.iconst 0, 1) := by decide +kernel
theorem dX5_firstFresh_1 : decode cX5_firstFresh 1 = .ok (.istore_n 1, 1) := by decide +kernel
theorem dX5_firstFresh_2 : decode cX5_firstFresh 2 = .ok (.iload_n 1, 1) := by decide +kernel
theorem dX5_firstFresh_3 : decode cX5_firstFresh 3 = .ok (.aload_n 0, 1) := by decide +kernel
theorem dX5_firstFresh_4 : decode cX5_firstFresh 4 = .ok (.bipush 10, 2) := by decide +kernel
theorem dX5_firstFresh_6 : decode cX5_firstFresh 6 = .ok (.iaload, 1) := by decide +kernel
theorem dX5_firstFresh_7 : decode cX5_firstFresh 7 = .ok (.if_icmp .ge 20, 3) := by decide +kernel
theorem dX5_firstFresh_10 : decode cX5_firstFresh 10 = .ok (.aload_n 0, 1) := by decide +kernel
theorem dX5_firstFresh_11 : decode cX5_firstFresh 11 = .ok (.iload_n 1, 1) := by decide +kernel
theorem dX5_firstFresh_12 : decode cX5_firstFresh 12 = .ok (.iconst 3, 1) := by decide +kernel
theorem dX5_firstFresh_13 : decode cX5_firstFresh 13 = .ok (.invokestatic 47, 3) := by decide +kernel
theorem dX5_firstFresh_16 : decode cX5_firstFresh 16 = .ok (.ifCond .ne 5, 3) := by decide +kernel
theorem dX5_firstFresh_19 : decode cX5_firstFresh 19 = .ok (.iload_n 1, 1) := by decide +kernel
theorem dX5_firstFresh_20 : decode cX5_firstFresh 20 = .ok (.ireturn, 1) := by decide +kernel
theorem dX5_firstFresh_21 : decode cX5_firstFresh 21 = .ok (.iinc 1 1, 3) := by decide +kernel
theorem dX5_firstFresh_24 : decode cX5_firstFresh 24 = .ok (.goto (-22), 3) := by decide +kernel
theorem dX5_firstFresh_27 : decode cX5_firstFresh 27 = .ok (.bipush (-6), 2) := by decide +kernel
theorem dX5_firstFresh_29 : decode cX5_firstFresh 29 = .ok (.ireturn, 1) := by decide +kernel
set_option maxRecDepth 20000 in
theorem ggX5_comes_X5_firstFresh : GoodIn wsX5_comes wsX5_firstFresh := goodIn_r _ [4, 5, 6, 3, 7] (by decide +kernel) (by decide +kernel)
set_option maxRecDepth 20000 in
theorem gX5_comes_X5_firstFresh : GoodIn wsX5_comes (va_wsS RX5 59 yX5_firstFresh wsX5_firstFresh) := goodIn_app (goodIn_of _ (by decide +kernel)) ggX5_comes_X5_firstFresh
set_option maxRecDepth 20000 in
theorem ggX5_comes_X5_queues : GoodIn wsX5_comes wsX5_queues := goodIn_r _ [10] (by decide +kernel) (by decide +kernel)
set_option maxRecDepth 20000 in
theorem gX5_comes_X5_queues : GoodIn wsX5_comes (va_wsS RX5 63 yX5_queues wsX5_queues) := goodIn_app (goodIn_of _ (by decide +kernel)) ggX5_comes_X5_queues
set_option maxRecDepth 20000 in
theorem ggX5_comes_X5_misses : GoodIn wsX5_comes wsX5_misses := goodIn_r _ [13] (by decide +kernel) (by decide +kernel)
set_option maxRecDepth 20000 in
theorem gX5_comes_X5_misses : GoodIn wsX5_comes (va_wsS RX5 51 yX5_misses wsX5_misses) := goodIn_app (goodIn_of _ (by decide +kernel)) ggX5_comes_X5_misses
set_option maxRecDepth 20000 in
theorem ggX5_comes_X5_loses : GoodIn wsX5_comes wsX5_loses := goodIn_r _ [16, 5, 6, 3, 7, 11, 12, 13, 17, 18, 19] (by decide +kernel) (by decide +kernel)
set_option maxRecDepth 20000 in
theorem gX5_comes_X5_loses : GoodIn wsX5_comes (va_wsS RX5 67 yX5_loses wsX5_loses) := goodIn_app (goodIn_of _ (by decide +kernel)) ggX5_comes_X5_loses
theorem dX5_comes_0 : decode cX5_comes 0 = .ok (.aload_n 0, 1) := by decide +kernel
theorem dX5_comes_1 : decode cX5_comes 1 = .ok (.bipush 9, 2) := by decide +kernel
theorem dX5_comes_3 : decode cX5_comes 3 = .ok (.dup2, 1) := by decide +kernel
theorem dX5_comes_4 : decode cX5_comes 4 = .ok (.iaload, 1) := by decide +kernel
theorem dX5_comes_5 : decode cX5_comes 5 = .ok (.iconst 1, 1) := by decide +kernel
theorem dX5_comes_6 : decode cX5_comes 6 = .ok (.iadd, 1) := by decide +kernel
theorem dX5_comes_7 : decode cX5_comes 7 = .ok (.iastore, 1) := by decide +kernel
theorem dX5_comes_8 : decode cX5_comes 8 = .ok (.aload_n 0, 1) := by decide +kernel
theorem dX5_comes_9 : decode cX5_comes 9 = .ok (.iconst 5, 1) := by decide +kernel
theorem dX5_comes_10 : decode cX5_comes 10 = .ok (.iaload, 1) := by decide +kernel
theorem dX5_comes_11 : decode cX5_comes 11 = .ok (.iconst 1, 1) := by decide +kernel
theorem dX5_comes_12 : decode cX5_comes 12 = .ok (.if_icmp .ne 10, 3) := by decide +kernel
theorem dX5_comes_15 : decode cX5_comes 15 = .ok (.aload_n 0, 1) := by decide +kernel
theorem dX5_comes_16 : decode cX5_comes 16 = .ok (.invokestatic 59, 3) := by decide +kernel
theorem dX5_comes_19 : decode cX5_comes 19 = .ok (.goto 5, 3) := by decide +kernel
theorem dX5_comes_22 : decode cX5_comes 22 = .ok (.bipush (-6), 2) := by decide +kernel
theorem dX5_comes_24 : decode cX5_comes 24 = .ok (.istore_n 1, 1) := by decide +kernel
theorem dX5_comes_25 : decode cX5_comes 25 = .ok (.aload_n 0, 1) := by decide +kernel
theorem dX5_comes_26 : decode cX5_comes 26 = .ok (.bipush 10, 2) := by decide +kernel
theorem dX5_comes_28 : decode cX5_comes 28 = .ok (.iaload, 1) := by decide +kernel
theorem dX5_comes_29 : decode cX5_comes 29 = .ok (.aload_n 0, 1) := by decide +kernel
theorem dX5_comes_30 : decode cX5_comes 30 = .ok (.iconst 3, 1) := by decide +kernel
theorem dX5_comes_31 : decode cX5_comes 31 = .ok (.iaload, 1) := by decide +kernel
theorem dX5_comes_32 : decode cX5_comes 32 = .ok (.if_icmp .ge 10, 3) := by decide +kernel
theorem dX5_comes_35 : decode cX5_comes 35 = .ok (.aload_n 0, 1) := by decide +kernel
theorem dX5_comes_36 : decode cX5_comes 36 = .ok (.invokestatic 63, 3) := by decide +kernel
theorem dX5_comes_39 : decode cX5_comes 39 = .ok (.goto 35, 3) := by decide +kernel
theorem dX5_comes_42 : decode cX5_comes 42 = .ok (.iload_n 1, 1) := by decide +kernel
theorem dX5_comes_43 : decode cX5_comes 43 = .ok (.bipush (-6), 2) := by decide +kernel
theorem dX5_comes_45 : decode cX5_comes 45 = .ok (.if_icmp .ne 19, 3) := by decide +kernel
theorem dX5_comes_48 : decode cX5_comes 48 = .ok (.aload_n 0, 1) := by decide +kernel
theorem dX5_comes_49 : decode cX5_comes 49 = .ok (.aload_n 0, 1) := by decide +kernel
theorem dX5_comes_50 : decode cX5_comes 50 = .ok (.bipush 17, 2) := by decide +kernel
theorem dX5_comes_52 : decode cX5_comes 52 = .ok (.iaload, 1) := by decide +kernel
theorem dX5_comes_53 : decode cX5_comes 53 = .ok (.aload_n 0, 1) := by decide +kernel
theorem dX5_comes_54 : decode cX5_comes 54 = .ok (.bipush 16, 2) := by decide +kernel
theorem dX5_comes_56 : decode cX5_comes 56 = .ok (.iaload, 1) := by decide +kernel
theorem dX5_comes_57 : decode cX5_comes 57 = .ok (.iconst 0, 1) := by decide +kernel
theorem dX5_comes_58 : decode cX5_comes 58 = .ok (.invokestatic 51, 3) := by decide +kernel
theorem dX5_comes_61 : decode cX5_comes 61 = .ok (.goto 13, 3) := by decide +kernel
theorem dX5_comes_64 : decode cX5_comes 64 = .ok (.aload_n 0, 1) := by decide +kernel
theorem dX5_comes_65 : decode cX5_comes 65 = .ok (.iload_n 1, 1) := by decide +kernel
theorem dX5_comes_66 : decode cX5_comes 66 = .ok (.iconst 1, 1) := by decide +kernel
theorem dX5_comes_67 : decode cX5_comes 67 = .ok (.invokestatic 67, 3) := by decide +kernel
theorem dX5_comes_70 : decode cX5_comes 70 = .ok (.aload_n 0, 1) := by decide +kernel
theorem dX5_comes_71 : decode cX5_comes 71 = .ok (.invokestatic 63, 3) := by decide +kernel
theorem dX5_comes_74 : decode cX5_comes 74 = .ok (.aload_n 0, 1) := by decide +kernel
theorem dX5_comes_75 : decode cX5_comes 75 = .ok (.bipush 16, 2) := by decide +kernel
theorem dX5_comes_77 : decode cX5_comes 77 = .ok (.dup2, 1) := by decide +kernel
theorem dX5_comes_78 : decode cX5_comes 78 = .ok (.iaload, 1) := by decide +kernel
theorem dX5_comes_79 : decode cX5_comes 79 = .ok (.iconst 1, 1) := by decide +kernel
theorem dX5_comes_80 : decode cX5_comes 80 = .ok (.iadd, 1) := by decide +kernel
theorem dX5_comes_81 : decode cX5_comes 81 = .ok (.iastore, 1) := by decide +kernel
theorem dX5_comes_82 : decode cX5_comes 82 = .ok (.aload_n 0, 1) := by decide +kernel
theorem dX5_comes_83 : decode cX5_comes 83 = .ok (.bipush 16, 2) := by decide +kernel
theorem dX5_comes_85 : decode cX5_comes 85 = .ok (.iaload, 1) := by decide +kernel
theorem dX5_comes_86 : decode cX5_comes 86 = .ok (.aload_n 0, 1) := by decide +kernel
theorem dX5_comes_87 : decode cX5_comes 87 = .ok (.iconst 4, 1) := by decide +kernel
theorem dX5_comes_88 : decode cX5_comes 88 = .ok (.iaload, 1) := by decide +kernel
theorem dX5_comes_89 : decode cX5_comes 89 = .ok (.if_icmp .lt 16, 3) := by decide +kernel
theorem dX5_comes_92 : decode cX5_comes 92 = .ok (.aload_n 0, 1) := by decide +kernel
theorem dX5_comes_93 : decode cX5_comes 93 = .ok (.bipush 16, 2) := by decide +kernel
theorem dX5_comes_95 : decode cX5_comes 95 = .ok (.iconst 0, 1) := by decide +kernel
theorem dX5_comes_96 : decode cX5_comes 96 = .ok (.iastore, 1) := by decide +kernel
theorem dX5_comes_97 : decode cX5_comes 97 = .ok (.aload_n 0, 1) := by decide +kernel
theorem dX5_comes_98 : decode cX5_comes 98 = .ok (.bipush 17, 2) := by decide +kernel
theorem dX5_comes_100 : decode cX5_comes 100 = .ok (.dup2, 1) := by decide +kernel
theorem dX5_comes_101 : decode cX5_comes 101 = .ok (.iaload, 1) := by decide +kernel
theorem dX5_comes_102 : decode cX5_comes 102 = .ok (.iconst 1, 1) := by decide +kernel
theorem dX5_comes_103 : decode cX5_comes 103 = .ok (.iadd, 1) := by decide +kernel
theorem dX5_comes_104 : decode cX5_comes 104 = .ok (.iastore, 1) := by decide +kernel
theorem dX5_comes_105 : decode cX5_comes 105 = .ok (.aload_n 0, 1) := by decide +kernel
theorem dX5_comes_106 : decode cX5_comes 106 = .ok (.bipush 18, 2) := by decide +kernel
theorem dX5_comes_108 : decode cX5_comes 108 = .ok (.dup2, 1) := by decide +kernel
theorem dX5_comes_109 : decode cX5_comes 109 = .ok (.iaload, 1) := by decide +kernel
theorem dX5_comes_110 : decode cX5_comes 110 = .ok (.aload_n 0, 1) := by decide +kernel
theorem dX5_comes_111 : decode cX5_comes 111 = .ok (.iconst 1, 1) := by decide +kernel
theorem dX5_comes_112 : decode cX5_comes 112 = .ok (.iaload, 1) := by decide +kernel
theorem dX5_comes_113 : decode cX5_comes 113 = .ok (.iadd, 1) := by decide +kernel
theorem dX5_comes_114 : decode cX5_comes 114 = .ok (.iastore, 1) := by decide +kernel
theorem dX5_comes_115 : decode cX5_comes 115 = .ok (.return_, 1) := by decide +kernel
set_option maxRecDepth 20000 in
theorem ggX5_isBegin_X5_of : GoodIn wsX5_isBegin wsX5_of := goodIn_r _ [4] (by decide +kernel) (by decide +kernel)
set_option maxRecDepth 20000 in
theorem gX5_isBegin_X5_of : GoodIn wsX5_isBegin (va_wsS RX5 47 yX5_of wsX5_of) := goodIn_app (goodIn_of _ (by decide +kernel)) ggX5_isBegin_X5_of
theorem dX5_isBegin_0 : decode cX5_isBegin 0 = .ok (.aload_n 0, 1) := by decide +kernel
theorem dX5_isBegin_1 : decode cX5_isBegin 1 = .ok (.iconst 0, 1) := by decide +kernel
theorem dX5_isBegin_2 : decode cX5_isBegin 2 = .ok (.iconst 1, 1) := by decide +kernel
theorem dX5_isBegin_3 : decode cX5_isBegin 3 = .ok (.invokestatic 47, 3) := by decide +kernel
theorem dX5_isBegin_6 : decode cX5_isBegin 6 = .ok (.ifCond .ne 16, 3) := by decide +kernel
theorem dX5_isBegin_9 : decode cX5_isBegin 9 = .ok (.aload_n 0, 1) := by decide +kernel
theorem dX5_isBegin_10 : decode cX5_isBegin 10 = .ok (.iconst 0, 1) := by decide +kernel
theorem dX5_isBegin_11 : decode cX5_isBegin 11 = .ok (.iconst 3, 1) := by decide +kernel
theorem dX5_isBegin_12 : decode cX5_isBegin 12 = .ok (.invokestatic 47, 3) := by decide +kernel
theorem dX5_isBegin_15 : decode cX5_isBegin 15 = .ok (.ifCond .ne 7, 3) := by decide +kernel
theorem dX5_isBegin_18 : decode cX5_isBegin 18 = .ok (.iconst 1, 1) := by decide +kernel
theorem dX5_isBegin_19 : decode cX5_isBegin 19 = .ok (.goto 4, 3) := by decide +kernel
theorem dX5_isBegin_22 : decode cX5_isBegin 22 = .ok (.iconst 0, 1) := by decide +kernel
theorem dX5_isBegin_23 : decode cX5_isBegin 23 = .ok (.ireturn, 1) := by decide +kernel
theorem dX5_judged_0 : decode cX5_judged 0 = .ok (.iconst 0, 1) := by decide +kernel
theorem dX5_judged_1 : decode cX5_judged 1 = .ok (.istore_n 1, 1) := by decide +kernel
theorem dX5_judged_2 : decode cX5_judged 2 = .ok (.iconst 1, 1) := by decide +kernel
theorem dX5_judged_3 : decode cX5_judged 3 = .ok (.istore_n 2, 1) := by decide +kernel
theorem dX5_judged_4 : decode cX5_judged 4 = .ok (.iconst 0, 1) := by decide +kernel
theorem dX5_judged_5 : decode cX5_judged 5 = .ok (.istore_n 3, 1) := by decide +kernel
theorem dX5_judged_6 : decode cX5_judged 6 = .ok (.iload_n 3, 1) := by decide +kernel
theorem dX5_judged_7 : decode cX5_judged 7 = .ok (.iconst 2, 1) := by decide +kernel
theorem dX5_judged_8 : decode cX5_judged 8 = .ok (.aload_n 0, 1) := by decide +kernel
theorem dX5_judged_9 : decode cX5_judged 9 = .ok (.iconst 4, 1) := by decide +kernel
theorem dX5_judged_10 : decode cX5_judged 10 = .ok (.iaload, 1) := by decide +kernel
theorem dX5_judged_11 : decode cX5_judged 11 = .ok (.imul, 1) := by decide +kernel
theorem dX5_judged_12 : decode cX5_judged 12 = .ok (.if_icmp .ge 77, 3) := by decide +kernel
theorem dX5_judged_15 : decode cX5_judged 15 = .ok (.iload_n 1, 1) := by decide +kernel
theorem dX5_judged_16 : decode cX5_judged 16 = .ok (.ifCond .ne 18, 3) := by decide +kernel
theorem dX5_judged_19 : decode cX5_judged 19 = .ok (.aload_n 0, 1) := by decide +kernel
theorem dX5_judged_20 : decode cX5_judged 20 = .ok (.bipush 106, 2) := by decide +kernel
theorem dX5_judged_22 : decode cX5_judged 22 = .ok (.iconst 3, 1) := by decide +kernel
theorem dX5_judged_23 : decode cX5_judged 23 = .ok (.iload_n 3, 1) := by decide +kernel
theorem dX5_judged_24 : decode cX5_judged 24 = .ok (.imul, 1) := by decide +kernel
theorem dX5_judged_25 : decode cX5_judged 25 = .ok (.iadd, 1) := by decide +kernel
theorem dX5_judged_26 : decode cX5_judged 26 = .ok (.iconst 1, 1) := by decide +kernel
theorem dX5_judged_27 : decode cX5_judged 27 = .ok (.iadd, 1) := by decide +kernel
theorem dX5_judged_28 : decode cX5_judged 28 = .ok (.iaload, 1) := by decide +kernel
theorem dX5_judged_29 : decode cX5_judged 29 = .ok (.bipush (-6), 2) := by decide +kernel
theorem dX5_judged_31 : decode cX5_judged 31 = .ok (.if_icmp .ne 7, 3) := by decide +kernel
theorem dX5_judged_34 : decode cX5_judged 34 = .ok (.iconst 1, 1) := by decide +kernel
theorem dX5_judged_35 : decode cX5_judged 35 = .ok (.goto 4, 3) := by decide +kernel
theorem dX5_judged_38 : decode cX5_judged 38 = .ok (.iconst 0, 1) := by decide +kernel
theorem dX5_judged_39 : decode cX5_judged 39 = .ok (.istore_n 1, 1) := by decide +kernel
theorem dX5_judged_40 : decode cX5_judged 40 = .ok (.iload_n 2, 1) := by decide +kernel
theorem dX5_judged_41 : decode cX5_judged 41 = .ok (.ifCond .eq 40, 3) := by decide +kernel
theorem dX5_judged_44 : decode cX5_judged 44 = .ok (.aload_n 0, 1) := by decide +kernel
theorem dX5_judged_45 : decode cX5_judged 45 = .ok (.bipush 106, 2) := by decide +kernel
theorem dX5_judged_47 : decode cX5_judged 47 = .ok (.iconst 3, 1) := by decide +kernel
theorem dX5_judged_48 : decode cX5_judged 48 = .ok (.iload_n 3, 1) := by decide +kernel
theorem dX5_judged_49 : decode cX5_judged 49 = .ok (.imul, 1) := by decide +kernel
theorem dX5_judged_50 : decode cX5_judged 50 = .ok (.iadd, 1) := by decide +kernel
theorem dX5_judged_51 : decode cX5_judged 51 = .ok (.iconst 1, 1) := by decide +kernel
theorem dX5_judged_52 : decode cX5_judged 52 = .ok (.iadd, 1) := by decide +kernel
theorem dX5_judged_53 : decode cX5_judged 53 = .ok (.iaload, 1) := by decide +kernel
theorem dX5_judged_54 : decode cX5_judged 54 = .ok (.aload_n 0, 1) := by decide +kernel
theorem dX5_judged_55 : decode cX5_judged 55 = .ok (.bipush 107, 2) := by decide +kernel
theorem dX5_judged_57 : decode cX5_judged 57 = .ok (.iaload, 1) := by decide +kernel
theorem dX5_judged_58 : decode cX5_judged 58 = .ok (.if_icmp .ne 23, 3) := by decide +kernel
theorem dX5_judged_61 : decode cX5_judged 61 = .ok (.aload_n 0, 1) := by decide +kernel
theorem dX5_judged_62 : decode cX5_judged 62 = .ok (.bipush 106, 2) := by decide +kernel
theorem dX5_judged_64 : decode cX5_judged 64 = .ok (.iconst 3, 1) := by decide +kernel
theorem dX5_judged_65 : decode cX5_judged 65 = .ok (.iload_n 3, 1) := by decide +kernel
theorem dX5_judged_66 : decode cX5_judged 66 = .ok (.imul, 1) := by decide +kernel
theorem dX5_judged_67 : decode cX5_judged 67 = .ok (.iadd, 1) := by decide +kernel
theorem dX5_judged_68 : decode cX5_judged 68 = .ok (.iconst 2, 1) := by decide +kernel
theorem dX5_judged_69 : decode cX5_judged 69 = .ok (.iadd, 1) := by decide +kernel
theorem dX5_judged_70 : decode cX5_judged 70 = .ok (.iaload, 1) := by decide +kernel
theorem dX5_judged_71 : decode cX5_judged 71 = .ok (.iload_n 3, 1) := by decide +kernel
theorem dX5_judged_72 : decode cX5_judged 72 = .ok (.iconst 2, 1) := by decide +kernel
theorem dX5_judged_73 : decode cX5_judged 73 = .ok (.idiv, 1) := by decide +kernel
theorem dX5_judged_74 : decode cX5_judged 74 = .ok (.if_icmp .ne 7, 3) := by decide +kernel
theorem dX5_judged_77 : decode cX5_judged 77 = .ok (.iconst 1, 1) := by decide +kernel
theorem dX5_judged_78 : decode cX5_judged 78 = .ok (.goto 4, 3) := by decide +kernel
theorem dX5_judged_81 : decode cX5_judged 81 = .ok (.iconst 0, 1) := by decide +kernel
theorem dX5_judged_82 : decode cX5_judged 82 = .ok (.istore_n 2, 1) := by decide +kernel
theorem dX5_judged_83 : decode cX5_judged 83 = .ok (.iinc 3 1, 3) := by decide +kernel
theorem dX5_judged_86 : decode cX5_judged 86 = .ok (.goto (-80), 3) := by decide +kernel
theorem dX5_judged_89 : decode cX5_judged 89 = .ok (.iload_n 1, 1) := by decide +kernel
theorem dX5_judged_90 : decode cX5_judged 90 = .ok (.ifCond .eq 7, 3) := by decide +kernel
theorem dX5_judged_93 : decode cX5_judged 93 = .ok (.iconst 2, 1) := by decide +kernel
theorem dX5_judged_94 : decode cX5_judged 94 = .ok (.goto 12, 3) := by decide +kernel
theorem dX5_judged_97 : decode cX5_judged 97 = .ok (.iload_n 2, 1) := by decide +kernel
theorem dX5_judged_98 : decode cX5_judged 98 = .ok (.ifCond .eq 7, 3) := by decide +kernel
theorem dX5_judged_101 : decode cX5_judged 101 = .ok (.iconst 0, 1) := by decide +kernel
theorem dX5_judged_102 : decode cX5_judged 102 = .ok (.goto 4, 3) := by decide +kernel
theorem dX5_judged_105 : decode cX5_judged 105 = .ok (.iconst 1, 1) := by decide +kernel
theorem dX5_judged_106 : decode cX5_judged 106 = .ok (.ireturn, 1) := by decide +kernel
set_option maxRecDepth 20000 in
theorem ggX5_goesOut_X5_isBegin : GoodIn wsX5_goesOut wsX5_isBegin := goodIn_r _ [4, 5, 6, 3, 7] (by decide +kernel) (by decide +kernel)
set_option maxRecDepth 20000 in
theorem gX5_goesOut_X5_isBegin : GoodIn wsX5_goesOut (va_wsS RX5 71 yX5_isBegin wsX5_isBegin) := goodIn_app (goodIn_of _ (by decide +kernel)) ggX5_goesOut_X5_isBegin
set_option maxRecDepth 20000 in
theorem ggX5_goesOut_X5_loses : GoodIn wsX5_goesOut wsX5_loses := goodIn_r _ [10, 5, 6, 3, 7, 11, 12, 13, 14, 15, 16] (by decide +kernel) (by decide +kernel)
set_option maxRecDepth 20000 in
theorem gX5_goesOut_X5_loses : GoodIn wsX5_goesOut (va_wsS RX5 67 yX5_loses wsX5_loses) := goodIn_app (goodIn_of _ (by decide +kernel)) ggX5_goesOut_X5_loses
set_option maxRecDepth 20000 in
theorem ggX5_goesOut_X5_of : GoodIn wsX5_goesOut wsX5_of := goodIn_r _ [7] (by decide +kernel) (by decide +kernel)
set_option maxRecDepth 20000 in
theorem gX5_goesOut_X5_of : GoodIn wsX5_goesOut (va_wsS RX5 47 yX5_of wsX5_of) := goodIn_app (goodIn_of _ (by decide +kernel)) ggX5_goesOut_X5_of
set_option maxRecDepth 20000 in
theorem ggX5_goesOut_X5_leaves : GoodIn wsX5_goesOut wsX5_leaves := goodIn_r _ [16] (by decide +kernel) (by decide +kernel)
set_option maxRecDepth 20000 in
theorem gX5_goesOut_X5_leaves : GoodIn wsX5_goesOut (va_wsS RX5 55 yX5_leaves wsX5_leaves) := goodIn_app (goodIn_of _ (by decide +kernel)) ggX5_goesOut_X5_leaves
set_option maxRecDepth 20000 in
theorem ggX5_goesOut_X5_judged : GoodIn wsX5_goesOut wsX5_judged := goodIn_r _ [19] (by decide +kernel) (by decide +kernel)
set_option maxRecDepth 20000 in
theorem gX5_goesOut_X5_judged : GoodIn wsX5_goesOut (va_wsS RX5 75 yX5_judged wsX5_judged) := goodIn_app (goodIn_of _ (by decide +kernel)) ggX5_goesOut_X5_judged
theorem dX5_goesOut_0 : decode cX5_goesOut 0 = .ok (.aload_n 0, 1) := by decide +kernel
theorem dX5_goesOut_1 : decode cX5_goesOut 1 = .ok (.bipush 15, 2) := by decide +kernel
theorem dX5_goesOut_3 : decode cX5_goesOut 3 = .ok (.iaload, 1) := by decide +kernel
theorem dX5_goesOut_4 : decode cX5_goesOut 4 = .ok (.istore_n 1, 1) := by decide +kernel
theorem dX5_goesOut_5 : decode cX5_goesOut 5 = .ok (.aload_n 0, 1) := by decide +kernel
theorem dX5_goesOut_6 : decode cX5_goesOut 6 = .ok (.bipush 6, 2) := by decide +kernel
theorem dX5_goesOut_8 : decode cX5_goesOut 8 = .ok (.iaload, 1) := by decide +kernel
theorem dX5_goesOut_9 : decode cX5_goesOut 9 = .ok (.iconst 1, 1) := by decide +kernel
theorem dX5_goesOut_10 : decode cX5_goesOut 10 = .ok (.if_icmp .ne 30, 3) := by decide +kernel
theorem dX5_goesOut_13 : decode cX5_goesOut 13 = .ok (.iload_n 1, 1) := by decide +kernel
theorem dX5_goesOut_14 : decode cX5_goesOut 14 = .ok (.ifCond .ne 26, 3) := by decide +kernel
theorem dX5_goesOut_17 : decode cX5_goesOut 17 = .ok (.aload_n 0, 1) := by decide +kernel
theorem dX5_goesOut_18 : decode cX5_goesOut 18 = .ok (.bipush 10, 2) := by decide +kernel
theorem dX5_goesOut_20 : decode cX5_goesOut 20 = .ok (.iaload, 1) := by decide +kernel
theorem dX5_goesOut_21 : decode cX5_goesOut 21 = .ok (.ifCond .le 19, 3) := by decide +kernel
theorem dX5_goesOut_24 : decode cX5_goesOut 24 = .ok (.aload_n 0, 1) := by decide +kernel
theorem dX5_goesOut_25 : decode cX5_goesOut 25 = .ok (.invokestatic 71, 3) := by decide +kernel
theorem dX5_goesOut_28 : decode cX5_goesOut 28 = .ok (.ifCond .ne 12, 3) := by decide +kernel
theorem dX5_goesOut_31 : decode cX5_goesOut 31 = .ok (.aload_n 0, 1) := by decide +kernel
theorem dX5_goesOut_32 : decode cX5_goesOut 32 = .ok (.iconst 0, 1) := by decide +kernel
theorem dX5_goesOut_33 : decode cX5_goesOut 33 = .ok (.iconst 2, 1) := by decide +kernel
theorem dX5_goesOut_34 : decode cX5_goesOut 34 = .ok (.invokestatic 67, 3) := by decide +kernel
theorem dX5_goesOut_37 : decode cX5_goesOut 37 = .ok (.goto (-32), 3) := by decide +kernel
theorem dX5_goesOut_40 : decode cX5_goesOut 40 = .ok (.aload_n 0, 1) := by decide +kernel
theorem dX5_goesOut_41 : decode cX5_goesOut 41 = .ok (.bipush 10, 2) := by decide +kernel
theorem dX5_goesOut_43 : decode cX5_goesOut 43 = .ok (.iaload, 1) := by decide +kernel
theorem dX5_goesOut_44 : decode cX5_goesOut 44 = .ok (.ifCond .le 7, 3) := by decide +kernel
theorem dX5_goesOut_47 : decode cX5_goesOut 47 = .ok (.iconst 1, 1) := by decide +kernel
theorem dX5_goesOut_48 : decode cX5_goesOut 48 = .ok (.goto 4, 3) := by decide +kernel
theorem dX5_goesOut_51 : decode cX5_goesOut 51 = .ok (.iconst 0, 1) := by decide +kernel
theorem dX5_goesOut_52 : decode cX5_goesOut 52 = .ok (.istore_n 2, 1) := by decide +kernel
theorem dX5_goesOut_53 : decode cX5_goesOut 53 = .ok (.aload_n 0, 1) := by decide +kernel
theorem dX5_goesOut_54 : decode cX5_goesOut 54 = .ok (.bipush 106, 2) := by decide +kernel
theorem dX5_goesOut_56 : decode cX5_goesOut 56 = .ok (.iconst 3, 1) := by decide +kernel
theorem dX5_goesOut_57 : decode cX5_goesOut 57 = .ok (.iload_n 1, 1) := by decide +kernel
theorem dX5_goesOut_58 : decode cX5_goesOut 58 = .ok (.imul, 1) := by decide +kernel
theorem dX5_goesOut_59 : decode cX5_goesOut 59 = .ok (.iadd, 1) := by decide +kernel
theorem dX5_goesOut_60 : decode cX5_goesOut 60 = .ok (.iload_n 2, 1) := by decide +kernel
theorem dX5_goesOut_61 : decode cX5_goesOut 61 = .ok (.ifCond .eq 12, 3) := by decide +kernel
theorem dX5_goesOut_64 : decode cX5_goesOut 64 = .ok (.aload_n 0, 1) := by decide +kernel
theorem dX5_goesOut_65 : decode cX5_goesOut 65 = .ok (.iconst 0, 1) := by decide +kernel
theorem dX5_goesOut_66 : decode cX5_goesOut 66 = .ok (.iconst 2, 1) := by decide +kernel
theorem dX5_goesOut_67 : decode cX5_goesOut 67 = .ok (.invokestatic 47, 3) := by decide +kernel
theorem dX5_goesOut_70 : decode cX5_goesOut 70 = .ok (.goto 7, 3) := by decide +kernel
theorem dX5_goesOut_73 : decode cX5_goesOut 73 = .ok (.aload_n 0, 1) := by decide +kernel
theorem dX5_goesOut_74 : decode cX5_goesOut 74 = .ok (.bipush 7, 2) := by decide +kernel
theorem dX5_goesOut_76 : decode cX5_goesOut 76 = .ok (.iaload, 1) := by decide +kernel
theorem dX5_goesOut_77 : decode cX5_goesOut 77 = .ok (.iastore, 1) := by decide +kernel
theorem dX5_goesOut_78 : decode cX5_goesOut 78 = .ok (.aload_n 0, 1) := by decide +kernel
theorem dX5_goesOut_79 : decode cX5_goesOut 79 = .ok (.bipush 106, 2) := by decide +kernel
theorem dX5_goesOut_81 : decode cX5_goesOut 81 = .ok (.iconst 3, 1) := by decide +kernel
theorem dX5_goesOut_82 : decode cX5_goesOut 82 = .ok (.iload_n 1, 1) := by decide +kernel
theorem dX5_goesOut_83 : decode cX5_goesOut 83 = .ok (.imul, 1) := by decide +kernel
theorem dX5_goesOut_84 : decode cX5_goesOut 84 = .ok (.iadd, 1) := by decide +kernel
theorem dX5_goesOut_85 : decode cX5_goesOut 85 = .ok (.iconst 1, 1) := by decide +kernel
theorem dX5_goesOut_86 : decode cX5_goesOut 86 = .ok (.iadd, 1) := by decide +kernel
theorem dX5_goesOut_87 : decode cX5_goesOut 87 = .ok (.iload_n 2, 1) := by decide +kernel
theorem dX5_goesOut_88 : decode cX5_goesOut 88 = .ok (.ifCond .eq 12, 3) := by decide +kernel
theorem dX5_goesOut_91 : decode cX5_goesOut 91 = .ok (.aload_n 0, 1) := by decide +kernel
theorem dX5_goesOut_92 : decode cX5_goesOut 92 = .ok (.iconst 0, 1) := by decide +kernel
theorem dX5_goesOut_93 : decode cX5_goesOut 93 = .ok (.iconst 0, 1) := by decide +kernel
theorem dX5_goesOut_94 : decode cX5_goesOut 94 = .ok (.invokestatic 47, 3) := by decide +kernel
theorem dX5_goesOut_97 : decode cX5_goesOut 97 = .ok (.goto 5, 3) := by decide +kernel
theorem dX5_goesOut_100 : decode cX5_goesOut 100 = .ok (.bipush (-6), 2) := by decide +kernel
theorem dX5_goesOut_102 : decode cX5_goesOut 102 = .ok (.iastore, 1) := by decide +kernel
theorem dX5_goesOut_103 : decode cX5_goesOut 103 = .ok (.aload_n 0, 1) := by decide +kernel
theorem dX5_goesOut_104 : decode cX5_goesOut 104 = .ok (.bipush 106, 2) := by decide +kernel
theorem dX5_goesOut_106 : decode cX5_goesOut 106 = .ok (.iconst 3, 1) := by decide +kernel
theorem dX5_goesOut_107 : decode cX5_goesOut 107 = .ok (.iload_n 1, 1) := by decide +kernel
theorem dX5_goesOut_108 : decode cX5_goesOut 108 = .ok (.imul, 1) := by decide +kernel
theorem dX5_goesOut_109 : decode cX5_goesOut 109 = .ok (.iadd, 1) := by decide +kernel
theorem dX5_goesOut_110 : decode cX5_goesOut 110 = .ok (.iconst 2, 1) := by decide +kernel
theorem dX5_goesOut_111 : decode cX5_goesOut 111 = .ok (.iadd, 1) := by decide +kernel
theorem dX5_goesOut_112 : decode cX5_goesOut 112 = .ok (.iload_n 2, 1) := by decide +kernel
theorem dX5_goesOut_113 : decode cX5_goesOut 113 = .ok (.ifCond .eq 12, 3) := by decide +kernel
theorem dX5_goesOut_116 : decode cX5_goesOut 116 = .ok (.aload_n 0, 1) := by decide +kernel
theorem dX5_goesOut_117 : decode cX5_goesOut 117 = .ok (.iconst 0, 1) := by decide +kernel
theorem dX5_goesOut_118 : decode cX5_goesOut 118 = .ok (.iconst 1, 1) := by decide +kernel
theorem dX5_goesOut_119 : decode cX5_goesOut 119 = .ok (.invokestatic 47, 3) := by decide +kernel
theorem dX5_goesOut_122 : decode cX5_goesOut 122 = .ok (.goto 5, 3) := by decide +kernel
theorem dX5_goesOut_125 : decode cX5_goesOut 125 = .ok (.bipush (-6), 2) := by decide +kernel
theorem dX5_goesOut_127 : decode cX5_goesOut 127 = .ok (.iastore, 1) := by decide +kernel
theorem dX5_goesOut_128 : decode cX5_goesOut 128 = .ok (.aload_n 0, 1) := by decide +kernel
theorem dX5_goesOut_129 : decode cX5_goesOut 129 = .ok (.bipush 13, 2) := by decide +kernel
theorem dX5_goesOut_131 : decode cX5_goesOut 131 = .ok (.dup2, 1) := by decide +kernel
theorem dX5_goesOut_132 : decode cX5_goesOut 132 = .ok (.iaload, 1) := by decide +kernel
theorem dX5_goesOut_133 : decode cX5_goesOut 133 = .ok (.iconst 1, 1) := by decide +kernel
theorem dX5_goesOut_134 : decode cX5_goesOut 134 = .ok (.iadd, 1) := by decide +kernel
theorem dX5_goesOut_135 : decode cX5_goesOut 135 = .ok (.iastore, 1) := by decide +kernel
theorem dX5_goesOut_136 : decode cX5_goesOut 136 = .ok (.aload_n 0, 1) := by decide +kernel
theorem dX5_goesOut_137 : decode cX5_goesOut 137 = .ok (.bipush 14, 2) := by decide +kernel
theorem dX5_goesOut_139 : decode cX5_goesOut 139 = .ok (.dup2, 1) := by decide +kernel
theorem dX5_goesOut_140 : decode cX5_goesOut 140 = .ok (.iaload, 1) := by decide +kernel
theorem dX5_goesOut_141 : decode cX5_goesOut 141 = .ok (.iload_n 2, 1) := by decide +kernel
theorem dX5_goesOut_142 : decode cX5_goesOut 142 = .ok (.ifCond .eq 7, 3) := by decide +kernel
theorem dX5_goesOut_145 : decode cX5_goesOut 145 = .ok (.iconst 0, 1) := by decide +kernel
theorem dX5_goesOut_146 : decode cX5_goesOut 146 = .ok (.goto 4, 3) := by decide +kernel
theorem dX5_goesOut_149 : decode cX5_goesOut 149 = .ok (.iconst 1, 1) := by decide +kernel
theorem dX5_goesOut_150 : decode cX5_goesOut 150 = .ok (.iadd, 1) := by decide +kernel
theorem dX5_goesOut_151 : decode cX5_goesOut 151 = .ok (.iastore, 1) := by decide +kernel
theorem dX5_goesOut_152 : decode cX5_goesOut 152 = .ok (.iload_n 2, 1) := by decide +kernel
theorem dX5_goesOut_153 : decode cX5_goesOut 153 = .ok (.ifCond .eq 32, 3) := by decide +kernel
theorem dX5_goesOut_156 : decode cX5_goesOut 156 = .ok (.aload_n 0, 1) := by decide +kernel
theorem dX5_goesOut_157 : decode cX5_goesOut 157 = .ok (.bipush 45, 2) := by decide +kernel
theorem dX5_goesOut_159 : decode cX5_goesOut 159 = .ok (.dup2, 1) := by decide +kernel
theorem dX5_goesOut_160 : decode cX5_goesOut 160 = .ok (.iaload, 1) := by decide +kernel
theorem dX5_goesOut_161 : decode cX5_goesOut 161 = .ok (.iconst 1, 1) := by decide +kernel
theorem dX5_goesOut_162 : decode cX5_goesOut 162 = .ok (.iadd, 1) := by decide +kernel
theorem dX5_goesOut_163 : decode cX5_goesOut 163 = .ok (.iastore, 1) := by decide +kernel
theorem dX5_goesOut_164 : decode cX5_goesOut 164 = .ok (.aload_n 0, 1) := by decide +kernel
theorem dX5_goesOut_165 : decode cX5_goesOut 165 = .ok (.bipush 45, 2) := by decide +kernel
theorem dX5_goesOut_167 : decode cX5_goesOut 167 = .ok (.iaload, 1) := by decide +kernel
theorem dX5_goesOut_168 : decode cX5_goesOut 168 = .ok (.iconst 2, 1) := by decide +kernel
theorem dX5_goesOut_169 : decode cX5_goesOut 169 = .ok (.if_icmp .ne 16, 3) := by decide +kernel
theorem dX5_goesOut_172 : decode cX5_goesOut 172 = .ok (.aload_n 0, 1) := by decide +kernel
theorem dX5_goesOut_173 : decode cX5_goesOut 173 = .ok (.bipush 11, 2) := by decide +kernel
theorem dX5_goesOut_175 : decode cX5_goesOut 175 = .ok (.dup2, 1) := by decide +kernel
theorem dX5_goesOut_176 : decode cX5_goesOut 176 = .ok (.iaload, 1) := by decide +kernel
theorem dX5_goesOut_177 : decode cX5_goesOut 177 = .ok (.iconst 1, 1) := by decide +kernel
theorem dX5_goesOut_178 : decode cX5_goesOut 178 = .ok (.iadd, 1) := by decide +kernel
theorem dX5_goesOut_179 : decode cX5_goesOut 179 = .ok (.iastore, 1) := by decide +kernel
theorem dX5_goesOut_180 : decode cX5_goesOut 180 = .ok (.aload_n 0, 1) := by decide +kernel
theorem dX5_goesOut_181 : decode cX5_goesOut 181 = .ok (.iconst 0, 1) := by decide +kernel
theorem dX5_goesOut_182 : decode cX5_goesOut 182 = .ok (.invokestatic 55, 3) := by decide +kernel
theorem dX5_goesOut_185 : decode cX5_goesOut 185 = .ok (.aload_n 0, 1) := by decide +kernel
theorem dX5_goesOut_186 : decode cX5_goesOut 186 = .ok (.bipush 15, 2) := by decide +kernel
theorem dX5_goesOut_188 : decode cX5_goesOut 188 = .ok (.dup2, 1) := by decide +kernel
theorem dX5_goesOut_189 : decode cX5_goesOut 189 = .ok (.iaload, 1) := by decide +kernel
theorem dX5_goesOut_190 : decode cX5_goesOut 190 = .ok (.iconst 1, 1) := by decide +kernel
theorem dX5_goesOut_191 : decode cX5_goesOut 191 = .ok (.iadd, 1) := by decide +kernel
theorem dX5_goesOut_192 : decode cX5_goesOut 192 = .ok (.iastore, 1) := by decide +kernel
theorem dX5_goesOut_193 : decode cX5_goesOut 193 = .ok (.aload_n 0, 1) := by decide +kernel
theorem dX5_goesOut_194 : decode cX5_goesOut 194 = .ok (.bipush 15, 2) := by decide +kernel
theorem dX5_goesOut_196 : decode cX5_goesOut 196 = .ok (.iaload, 1) := by decide +kernel
theorem dX5_goesOut_197 : decode cX5_goesOut 197 = .ok (.iconst 2, 1) := by decide +kernel
theorem dX5_goesOut_198 : decode cX5_goesOut 198 = .ok (.aload_n 0, 1) := by decide +kernel
theorem dX5_goesOut_199 : decode cX5_goesOut 199 = .ok (.iconst 4, 1) := by decide +kernel
theorem dX5_goesOut_200 : decode cX5_goesOut 200 = .ok (.iaload, 1) := by decide +kernel
theorem dX5_goesOut_201 : decode cX5_goesOut 201 = .ok (.imul, 1) := by decide +kernel
theorem dX5_goesOut_202 : decode cX5_goesOut 202 = .ok (.if_icmp .lt 29, 3) := by decide +kernel
theorem dX5_goesOut_205 : decode cX5_goesOut 205 = .ok (.aload_n 0, 1) := by decide +kernel
theorem dX5_goesOut_206 : decode cX5_goesOut 206 = .ok (.bipush 15, 2) := by decide +kernel
theorem dX5_goesOut_208 : decode cX5_goesOut 208 = .ok (.iconst 0, 1) := by decide +kernel
theorem dX5_goesOut_209 : decode cX5_goesOut 209 = .ok (.iastore, 1) := by decide +kernel
theorem dX5_goesOut_210 : decode cX5_goesOut 210 = .ok (.aload_n 0, 1) := by decide +kernel
theorem dX5_goesOut_211 : decode cX5_goesOut 211 = .ok (.bipush 23, 2) := by decide +kernel
theorem dX5_goesOut_213 : decode cX5_goesOut 213 = .ok (.aload_n 0, 1) := by decide +kernel
theorem dX5_goesOut_214 : decode cX5_goesOut 214 = .ok (.invokestatic 75, 3) := by decide +kernel
theorem dX5_goesOut_217 : decode cX5_goesOut 217 = .ok (.iastore, 1) := by decide +kernel
theorem dX5_goesOut_218 : decode cX5_goesOut 218 = .ok (.aload_n 0, 1) := by decide +kernel
theorem dX5_goesOut_219 : decode cX5_goesOut 219 = .ok (.bipush 20, 2) := by decide +kernel
theorem dX5_goesOut_221 : decode cX5_goesOut 221 = .ok (.aload_n 0, 1) := by decide +kernel
theorem dX5_goesOut_222 : decode cX5_goesOut 222 = .ok (.bipush 23, 2) := by decide +kernel
theorem dX5_goesOut_224 : decode cX5_goesOut 224 = .ok (.iaload, 1) := by decide +kernel
theorem dX5_goesOut_225 : decode cX5_goesOut 225 = .ok (.iadd, 1) := by decide +kernel
theorem dX5_goesOut_226 : decode cX5_goesOut 226 = .ok (.dup2, 1) := by decide +kernel
theorem dX5_goesOut_227 : decode cX5_goesOut 227 = .ok (.iaload, 1) := by decide +kernel
theorem dX5_goesOut_228 : decode cX5_goesOut 228 = .ok (.iconst 1, 1) := by decide +kernel
theorem dX5_goesOut_229 : decode cX5_goesOut 229 = .ok (.iadd, 1) := by decide +kernel
theorem dX5_goesOut_230 : decode cX5_goesOut 230 = .ok (.iastore, 1) := by decide +kernel
theorem dX5_goesOut_231 : decode cX5_goesOut 231 = .ok (.aload_n 0, 1) := by decide +kernel
theorem dX5_goesOut_232 : decode cX5_goesOut 232 = .ok (.bipush 19, 2) := by decide +kernel
theorem dX5_goesOut_234 : decode cX5_goesOut 234 = .ok (.dup2, 1) := by decide +kernel
theorem dX5_goesOut_235 : decode cX5_goesOut 235 = .ok (.iaload, 1) := by decide +kernel
theorem dX5_goesOut_236 : decode cX5_goesOut 236 = .ok (.aload_n 0, 1) := by decide +kernel
theorem dX5_goesOut_237 : decode cX5_goesOut 237 = .ok (.iconst 2, 1) := by decide +kernel
theorem dX5_goesOut_238 : decode cX5_goesOut 238 = .ok (.iaload, 1) := by decide +kernel
theorem dX5_goesOut_239 : decode cX5_goesOut 239 = .ok (.iadd, 1) := by decide +kernel
theorem dX5_goesOut_240 : decode cX5_goesOut 240 = .ok (.iastore, 1) := by decide +kernel
theorem dX5_goesOut_241 : decode cX5_goesOut 241 = .ok (.return_, 1) := by decide +kernel
set_option maxRecDepth 20000 in
theorem ggX5_ticks_X5_comes : GoodIn wsX5_ticks wsX5_comes := goodIn_r _ [4, 5, 6, 3, 7, 8, 9, 10, 11, 12, 13, 14, 15, 16, 17, 18, 19, 20, 21, 22] (by decide +kernel) (by decide +kernel)
set_option maxRecDepth 20000 in
theorem gX5_ticks_X5_comes : GoodIn wsX5_ticks (va_wsS RX5 78 yX5_comes wsX5_comes) := goodIn_app (goodIn_of _ (by decide +kernel)) ggX5_ticks_X5_comes
set_option maxRecDepth 20000 in
theorem ggX5_ticks_X5_goesOut : GoodIn wsX5_ticks wsX5_goesOut := goodIn_r _ [25, 26, 27, 3, 28, 8, 9, 10, 17, 18, 19, 14, 15, 16, 20, 21, 22, 29, 30, 31] (by decide +kernel) (by decide +kernel)
set_option maxRecDepth 20000 in
theorem gX5_ticks_X5_goesOut : GoodIn wsX5_ticks (va_wsS RX5 81 yX5_goesOut wsX5_goesOut) := goodIn_app (goodIn_of _ (by decide +kernel)) ggX5_ticks_X5_goesOut
theorem dX5_ticks_0 : decode cX5_ticks 0 = .ok (.aload_n 0, 1) := by decide +kernel
theorem dX5_ticks_1 : decode cX5_ticks 1 = .ok (.bipush 18, 2) := by decide +kernel
theorem dX5_ticks_3 : decode cX5_ticks 3 = .ok (.iaload, 1) := by decide +kernel
theorem dX5_ticks_4 : decode cX5_ticks 4 = .ok (.aload_n 0, 1) := by decide +kernel
theorem dX5_ticks_5 : decode cX5_ticks 5 = .ok (.iconst 0, 1) := by decide +kernel
theorem dX5_ticks_6 : decode cX5_ticks 6 = .ok (.iaload, 1) := by decide +kernel
theorem dX5_ticks_7 : decode cX5_ticks 7 = .ok (.if_icmp .ne 7, 3) := by decide +kernel
theorem dX5_ticks_10 : decode cX5_ticks 10 = .ok (.aload_n 0, 1) := by decide +kernel
theorem dX5_ticks_11 : decode cX5_ticks 11 = .ok (.invokestatic 78, 3) := by decide +kernel
theorem dX5_ticks_14 : decode cX5_ticks 14 = .ok (.aload_n 0, 1) := by decide +kernel
theorem dX5_ticks_15 : decode cX5_ticks 15 = .ok (.bipush 19, 2) := by decide +kernel
theorem dX5_ticks_17 : decode cX5_ticks 17 = .ok (.iaload, 1) := by decide +kernel
theorem dX5_ticks_18 : decode cX5_ticks 18 = .ok (.aload_n 0, 1) := by decide +kernel
theorem dX5_ticks_19 : decode cX5_ticks 19 = .ok (.iconst 0, 1) := by decide +kernel
theorem dX5_ticks_20 : decode cX5_ticks 20 = .ok (.iaload, 1) := by decide +kernel
theorem dX5_ticks_21 : decode cX5_ticks 21 = .ok (.if_icmp .ne 7, 3) := by decide +kernel
theorem dX5_ticks_24 : decode cX5_ticks 24 = .ok (.aload_n 0, 1) := by decide +kernel
theorem dX5_ticks_25 : decode cX5_ticks 25 = .ok (.invokestatic 81, 3) := by decide +kernel
theorem dX5_ticks_28 : decode cX5_ticks 28 = .ok (.aload_n 0, 1) := by decide +kernel
theorem dX5_ticks_29 : decode cX5_ticks 29 = .ok (.iconst 0, 1) := by decide +kernel
theorem dX5_ticks_30 : decode cX5_ticks 30 = .ok (.dup2, 1) := by decide +kernel
theorem dX5_ticks_31 : decode cX5_ticks 31 = .ok (.iaload, 1) := by decide +kernel
theorem dX5_ticks_32 : decode cX5_ticks 32 = .ok (.iconst 1, 1) := by decide +kernel
theorem dX5_ticks_33 : decode cX5_ticks 33 = .ok (.iadd, 1) := by decide +kernel
theorem dX5_ticks_34 : decode cX5_ticks 34 = .ok (.iastore, 1) := by decide +kernel
theorem dX5_ticks_35 : decode cX5_ticks 35 = .ok (.aload_n 0, 1) := by decide +kernel
theorem dX5_ticks_36 : decode cX5_ticks 36 = .ok (.bipush 25, 2) := by decide +kernel
theorem dX5_ticks_38 : decode cX5_ticks 38 = .ok (.dup2, 1) := by decide +kernel
theorem dX5_ticks_39 : decode cX5_ticks 39 = .ok (.iaload, 1) := by decide +kernel
theorem dX5_ticks_40 : decode cX5_ticks 40 = .ok (.aload_n 0, 1) := by decide +kernel
theorem dX5_ticks_41 : decode cX5_ticks 41 = .ok (.bipush 10, 2) := by decide +kernel
theorem dX5_ticks_43 : decode cX5_ticks 43 = .ok (.iaload, 1) := by decide +kernel
theorem dX5_ticks_44 : decode cX5_ticks 44 = .ok (.iadd, 1) := by decide +kernel
theorem dX5_ticks_45 : decode cX5_ticks 45 = .ok (.iastore, 1) := by decide +kernel
theorem dX5_ticks_46 : decode cX5_ticks 46 = .ok (.return_, 1) := by decide +kernel
set_option maxRecDepth 20000 in
theorem ggX5_passes_X5_ticks : GoodIn wsX5_passes wsX5_ticks := goodIn_r _ [4, 5, 6, 3, 7, 8, 9, 10, 11, 12, 13, 14, 15, 16, 17, 18, 19, 20, 21, 22, 23, 24, 25, 26, 27, 28, 29, 30, 31, 32, 33, 34] (by decide +kernel) (by decide +kernel)
set_option maxRecDepth 20000 in
theorem gX5_passes_X5_ticks : GoodIn wsX5_passes (va_wsS RX5 84 yX5_ticks wsX5_ticks) := goodIn_app (goodIn_of _ (by decide +kernel)) ggX5_passes_X5_ticks
theorem dX5_passes_0 : decode cX5_passes 0 = .ok (.iconst 0, 1) := by decide +kernel
theorem dX5_passes_1 : decode cX5_passes 1 = .ok (.istore_n 2, 1) := by decide +kernel
theorem dX5_passes_2 : decode cX5_passes 2 = .ok (.iload_n 2, 1) := by decide +kernel
theorem dX5_passes_3 : decode cX5_passes 3 = .ok (.iload_n 1, 1) := by decide +kernel
theorem dX5_passes_4 : decode cX5_passes 4 = .ok (.if_icmp .ge 13, 3) := by decide +kernel
theorem dX5_passes_7 : decode cX5_passes 7 = .ok (.aload_n 0, 1) := by decide +kernel
theorem dX5_passes_8 : decode cX5_passes 8 = .ok (.invokestatic 84, 3) := by decide +kernel
theorem dX5_passes_11 : decode cX5_passes 11 = .ok (.iinc 2 1, 3) := by decide +kernel
theorem dX5_passes_14 : decode cX5_passes 14 = .ok (.goto (-12), 3) := by decide +kernel
theorem dX5_passes_17 : decode cX5_passes 17 = .ok (.return_, 1) := by decide +kernel
set_option maxRecDepth 20000 in
theorem ggX5_isFor_X5_in : GoodIn wsX5_isFor wsX5_in := goodIn_r _ [4] (by decide +kernel) (by decide +kernel)
set_option maxRecDepth 20000 in
theorem gX5_isFor_X5_in : GoodIn wsX5_isFor (va_wsS RX5 40 yX5_in wsX5_in) := goodIn_app (goodIn_of _ (by decide +kernel)) ggX5_isFor_X5_in
theorem dX5_isFor_0 : decode cX5_isFor 0 = .ok (.iload_n 0, 1) := by decide +kernel
theorem dX5_isFor_1 : decode cX5_isFor 1 = .ok (.tableswitch 78 0 5 #[39, 47, 55, 63, 71, 71], 39) := by decide +kernel
theorem dX5_isFor_40 : decode cX5_isFor 40 = .ok (.iload_n 1, 1) := by decide +kernel
theorem dX5_isFor_41 : decode cX5_isFor 41 = .ok (.iconst 2, 1) := by decide +kernel
theorem dX5_isFor_42 : decode cX5_isFor 42 = .ok (.bipush 99, 2) := by decide +kernel
theorem dX5_isFor_44 : decode cX5_isFor 44 = .ok (.invokestatic 40, 3) := by decide +kernel
theorem dX5_isFor_47 : decode cX5_isFor 47 = .ok (.ireturn, 1) := by decide +kernel
theorem dX5_isFor_48 : decode cX5_isFor 48 = .ok (.iload_n 1, 1) := by decide +kernel
theorem dX5_isFor_49 : decode cX5_isFor 49 = .ok (.iconst 1, 1) := by decide +kernel
theorem dX5_isFor_50 : decode cX5_isFor 50 = .ok (.bipush 99, 2) := by decide +kernel
theorem dX5_isFor_52 : decode cX5_isFor 52 = .ok (.invokestatic 40, 3) := by decide +kernel
theorem dX5_isFor_55 : decode cX5_isFor 55 = .ok (.ireturn, 1) := by decide +kernel
theorem dX5_isFor_56 : decode cX5_isFor 56 = .ok (.iload_n 1, 1) := by decide +kernel
theorem dX5_isFor_57 : decode cX5_isFor 57 = .ok (.iconst 1, 1) := by decide +kernel
theorem dX5_isFor_58 : decode cX5_isFor 58 = .ok (.bipush 16, 2) := by decide +kernel
theorem dX5_isFor_60 : decode cX5_isFor 60 = .ok (.invokestatic 40, 3) := by decide +kernel
theorem dX5_isFor_63 : decode cX5_isFor 63 = .ok (.ireturn, 1) := by decide +kernel
theorem dX5_isFor_64 : decode cX5_isFor 64 = .ok (.iload_n 1, 1) := by decide +kernel
theorem dX5_isFor_65 : decode cX5_isFor 65 = .ok (.iconst 2, 1) := by decide +kernel
theorem dX5_isFor_66 : decode cX5_isFor 66 = .ok (.bipush 16, 2) := by decide +kernel
theorem dX5_isFor_68 : decode cX5_isFor 68 = .ok (.invokestatic 40, 3) := by decide +kernel
theorem dX5_isFor_71 : decode cX5_isFor 71 = .ok (.ireturn, 1) := by decide +kernel
theorem dX5_isFor_72 : decode cX5_isFor 72 = .ok (.iload_n 1, 1) := by decide +kernel
theorem dX5_isFor_73 : decode cX5_isFor 73 = .ok (.iconst 0, 1) := by decide +kernel
theorem dX5_isFor_74 : decode cX5_isFor 74 = .ok (.iconst 1, 1) := by decide +kernel
theorem dX5_isFor_75 : decode cX5_isFor 75 = .ok (.invokestatic 40, 3) := by decide +kernel
theorem dX5_isFor_78 : decode cX5_isFor 78 = .ok (.ireturn, 1) := by decide +kernel
theorem dX5_isFor_79 : decode cX5_isFor 79 = .ok (.iload_n 1, 1) := by decide +kernel
theorem dX5_isFor_80 : decode cX5_isFor 80 = .ok (.iconst 0, 1) := by decide +kernel
theorem dX5_isFor_81 : decode cX5_isFor 81 = .ok (.sipush 255, 3) := by decide +kernel
theorem dX5_isFor_84 : decode cX5_isFor 84 = .ok (.invokestatic 40, 3) := by decide +kernel
theorem dX5_isFor_87 : decode cX5_isFor 87 = .ok (.ireturn, 1) := by decide +kernel
theorem dX5_changes_0 : decode cX5_changes 0 = .ok (.aload_n 0, 1) := by decide +kernel
theorem dX5_changes_1 : decode cX5_changes 1 = .ok (.getfield 7, 3) := by decide +kernel
theorem dX5_changes_4 : decode cX5_changes 4 = .ok (.iload_n 1, 1) := by decide +kernel
theorem dX5_changes_5 : decode cX5_changes 5 = .ok (.iaload, 1) := by decide +kernel
theorem dX5_changes_6 : decode cX5_changes 6 = .ok (.istore_n 3, 1) := by decide +kernel
theorem dX5_changes_7 : decode cX5_changes 7 = .ok (.aload_n 0, 1) := by decide +kernel
theorem dX5_changes_8 : decode cX5_changes 8 = .ok (.getfield 7, 3) := by decide +kernel
theorem dX5_changes_11 : decode cX5_changes 11 = .ok (.iload_n 1, 1) := by decide +kernel
theorem dX5_changes_12 : decode cX5_changes 12 = .ok (.iload_n 2, 1) := by decide +kernel
theorem dX5_changes_13 : decode cX5_changes 13 = .ok (.iastore, 1) := by decide +kernel
theorem dX5_changes_14 : decode cX5_changes 14 = .ok (.iload_n 3, 1) := by decide +kernel
theorem dX5_changes_15 : decode cX5_changes 15 = .ok (.ireturn, 1) := by decide +kernel
set_option maxRecDepth 20000 in
theorem ggX5_set_X5_in : GoodIn wsX5_set wsX5_in := goodIn_r _ [5] (by decide +kernel) (by decide +kernel)
set_option maxRecDepth 20000 in
theorem gX5_set_X5_in : GoodIn wsX5_set (va_wsS RX5 40 yX5_in wsX5_in) := goodIn_app (goodIn_of _ (by decide +kernel)) ggX5_set_X5_in
set_option maxRecDepth 20000 in
theorem ggX5_set_X5_isFor : GoodIn wsX5_set wsX5_isFor := goodIn_r _ [8, 2, 3, 4, 5] (by decide +kernel) (by decide +kernel)
set_option maxRecDepth 20000 in
theorem gX5_set_X5_isFor : GoodIn wsX5_set (va_wsS RX5 87 yX5_isFor wsX5_isFor) := goodIn_app (goodIn_of _ (by decide +kernel)) ggX5_set_X5_isFor
set_option maxRecDepth 20000 in
theorem ggX5_set_X5_records : GoodIn wsX5_set wsX5_records := goodIn_r _ [12, 13, 14, 1, 15, 16, 4, 17, 22, 23, 24, 25, 26, 27, 28, 29, 30, 31, 32] (by decide +kernel) (by decide +kernel)
set_option maxRecDepth 20000 in
theorem gX5_set_X5_records : GoodIn wsX5_set (wsV RX5 44 RX5 yX5_records wsX5_records) := goodIn_app (goodIn_of _ (by decide +kernel)) ggX5_set_X5_records
set_option maxRecDepth 20000 in
theorem ggX5_set_X5_changes : GoodIn wsX5_set wsX5_changes := goodIn_r _ [21, 1, 22, 23, 24, 25, 26, 27, 28, 29, 30, 31, 32] (by decide +kernel) (by decide +kernel)
set_option maxRecDepth 20000 in
theorem gX5_set_X5_changes : GoodIn wsX5_set (wsV RX5 91 RX5 yX5_changes wsX5_changes) := goodIn_app (goodIn_of _ (by decide +kernel)) ggX5_set_X5_changes
theorem dX5_set_0 : decode cX5_set 0 = .ok (.iload_n 1, 1) := by decide +kernel
theorem dX5_set_1 : decode cX5_set 1 = .ok (.iconst 0, 1) := by decide +kernel
theorem dX5_set_2 : decode cX5_set 2 = .ok (.bipush 7, 2) := by decide +kernel
theorem dX5_set_4 : decode cX5_set 4 = .ok (.invokestatic 40, 3) := by decide +kernel
theorem dX5_set_7 : decode cX5_set 7 = .ok (.ifCond .eq 11, 3) := by decide +kernel
theorem dX5_set_10 : decode cX5_set 10 = .ok (.iload_n 1, 1) := by decide +kernel
theorem dX5_set_11 : decode cX5_set 11 = .ok (.iload_n 2, 1) := by decide +kernel
theorem dX5_set_12 : decode cX5_set 12 = .ok (.invokestatic 87, 3) := by decide +kernel
theorem dX5_set_15 : decode cX5_set 15 = .ok (.ifCond .ne 6, 3) := by decide +kernel
theorem dX5_set_18 : decode cX5_set 18 = .ok (.bipush (-2), 2) := by decide +kernel
theorem dX5_set_20 : decode cX5_set 20 = .ok (.ireturn, 1) := by decide +kernel
theorem dX5_set_21 : decode cX5_set 21 = .ok (.iload_n 1, 1) := by decide +kernel
theorem dX5_set_22 : decode cX5_set 22 = .ok (.iconst 3, 1) := by decide +kernel
theorem dX5_set_23 : decode cX5_set 23 = .ok (.if_icmp .ne 12, 3) := by decide +kernel
theorem dX5_set_26 : decode cX5_set 26 = .ok (.aload_n 0, 1) := by decide +kernel
theorem dX5_set_27 : decode cX5_set 27 = .ok (.getfield 7, 3) := by decide +kernel
theorem dX5_set_30 : decode cX5_set 30 = .ok (.iconst 0, 1) := by decide +kernel
theorem dX5_set_31 : decode cX5_set 31 = .ok (.iaload, 1) := by decide +kernel
theorem dX5_set_32 : decode cX5_set 32 = .ok (.ifCond .ne 19, 3) := by decide +kernel
theorem dX5_set_35 : decode cX5_set 35 = .ok (.iload_n 1, 1) := by decide +kernel
theorem dX5_set_36 : decode cX5_set 36 = .ok (.iconst 2, 1) := by decide +kernel
theorem dX5_set_37 : decode cX5_set 37 = .ok (.if_icmp .ne 17, 3) := by decide +kernel
theorem dX5_set_40 : decode cX5_set 40 = .ok (.iload_n 2, 1) := by decide +kernel
theorem dX5_set_41 : decode cX5_set 41 = .ok (.aload_n 0, 1) := by decide +kernel
theorem dX5_set_42 : decode cX5_set 42 = .ok (.getfield 7, 3) := by decide +kernel
theorem dX5_set_45 : decode cX5_set 45 = .ok (.bipush 10, 2) := by decide +kernel
theorem dX5_set_47 : decode cX5_set 47 = .ok (.iaload, 1) := by decide +kernel
theorem dX5_set_48 : decode cX5_set 48 = .ok (.if_icmp .ge 6, 3) := by decide +kernel
theorem dX5_set_51 : decode cX5_set 51 = .ok (.bipush (-5), 2) := by decide +kernel
theorem dX5_set_53 : decode cX5_set 53 = .ok (.ireturn, 1) := by decide +kernel
theorem dX5_set_54 : decode cX5_set 54 = .ok (.aload_n 0, 1) := by decide +kernel
theorem dX5_set_55 : decode cX5_set 55 = .ok (.invokevirtual 44, 3) := by decide +kernel
theorem dX5_set_58 : decode cX5_set 58 = .ok (.aload_n 0, 1) := by decide +kernel
theorem dX5_set_59 : decode cX5_set 59 = .ok (.iconst 1, 1) := by decide +kernel
theorem dX5_set_60 : decode cX5_set 60 = .ok (.iload_n 1, 1) := by decide +kernel
theorem dX5_set_61 : decode cX5_set 61 = .ok (.iadd, 1) := by decide +kernel
theorem dX5_set_62 : decode cX5_set 62 = .ok (.iload_n 2, 1) := by decide +kernel
theorem dX5_set_63 : decode cX5_set 63 = .ok (.invokevirtual 91, 3) := by decide +kernel
theorem dX5_set_66 : decode cX5_set 66 = .ok (.ireturn, 1) := by decide +kernel
set_option maxRecDepth 20000 in
theorem ggX5_mayTell_X5_in : GoodIn wsX5_mayTell wsX5_in := goodIn_r _ [4] (by decide +kernel) (by decide +kernel)
set_option maxRecDepth 20000 in
theorem gX5_mayTell_X5_in : GoodIn wsX5_mayTell (va_wsS RX5 40 yX5_in wsX5_in) := goodIn_app (goodIn_of _ (by decide +kernel)) ggX5_mayTell_X5_in
theorem dX5_mayTell_0 : decode cX5_mayTell 0 = .ok (.iload_n 0, 1) := by decide +kernel
theorem dX5_mayTell_1 : decode cX5_mayTell 1 = .ok (.iconst 0, 1) := by decide +kernel
theorem dX5_mayTell_2 : decode cX5_mayTell 2 = .ok (.bipush 15, 2) := by decide +kernel
theorem dX5_mayTell_4 : decode cX5_mayTell 4 = .ok (.invokestatic 40, 3) := by decide +kernel
theorem dX5_mayTell_7 : decode cX5_mayTell 7 = .ok (.ifCond .ne 7, 3) := by decide +kernel
theorem dX5_mayTell_10 : decode cX5_mayTell 10 = .ok (.iconst (-1), 1) := by decide +kernel
theorem dX5_mayTell_11 : decode cX5_mayTell 11 = .ok (.goto 20, 3) := by decide +kernel
theorem dX5_mayTell_14 : decode cX5_mayTell 14 = .ok (.iload_n 1, 1) := by decide +kernel
theorem dX5_mayTell_15 : decode cX5_mayTell 15 = .ok (.iconst 0, 1) := by decide +kernel
theorem dX5_mayTell_16 : decode cX5_mayTell 16 = .ok (.sipush 255, 3) := by decide +kernel
theorem dX5_mayTell_19 : decode cX5_mayTell 19 = .ok (.invokestatic 40, 3) := by decide +kernel
theorem dX5_mayTell_22 : decode cX5_mayTell 22 = .ok (.ifCond .eq 7, 3) := by decide +kernel
theorem dX5_mayTell_25 : decode cX5_mayTell 25 = .ok (.iconst 0, 1) := by decide +kernel
theorem dX5_mayTell_26 : decode cX5_mayTell 26 = .ok (.goto 5, 3) := by decide +kernel
theorem dX5_mayTell_29 : decode cX5_mayTell 29 = .ok (.bipush (-2), 2) := by decide +kernel
theorem dX5_mayTell_31 : decode cX5_mayTell 31 = .ok (.ireturn, 1) := by decide +kernel
set_option maxRecDepth 20000 in
theorem ggX5_value_X5_mayTell : GoodIn wsX5_value wsX5_mayTell := goodIn_r _ [4, 5, 6, 3, 7] (by decide +kernel) (by decide +kernel)
set_option maxRecDepth 20000 in
theorem gX5_value_X5_mayTell : GoodIn wsX5_value (va_wsS RX5 95 yX5_mayTell wsX5_mayTell) := goodIn_app (goodIn_of _ (by decide +kernel)) ggX5_value_X5_mayTell
set_option maxRecDepth 20000 in
theorem ggX5_value_X5_records : GoodIn wsX5_value wsX5_records := goodIn_r _ [11, 12, 13, 14, 15, 16, 3, 17, 22, 23, 24, 25, 26, 27, 28, 29, 30, 31, 32] (by decide +kernel) (by decide +kernel)
set_option maxRecDepth 20000 in
theorem gX5_value_X5_records : GoodIn wsX5_value (wsV RX5 44 RX5 yX5_records wsX5_records) := goodIn_app (goodIn_of _ (by decide +kernel)) ggX5_value_X5_records
set_option maxRecDepth 20000 in
theorem ggX5_value_X5_changes : GoodIn wsX5_value wsX5_changes := goodIn_r _ [21, 14, 22, 23, 24, 25, 26, 27, 28, 29, 30, 31, 32] (by decide +kernel) (by decide +kernel)
set_option maxRecDepth 20000 in
theorem gX5_value_X5_changes : GoodIn wsX5_value (wsV RX5 91 RX5 yX5_changes wsX5_changes) := goodIn_app (goodIn_of _ (by decide +kernel)) ggX5_value_X5_changes
theorem dX5_value_0 : decode cX5_value 0 = .ok (.iload_n 1, 1) := by decide +kernel
theorem dX5_value_1 : decode cX5_value 1 = .ok (.iload_n 2, 1) := by decide +kernel
theorem dX5_value_2 : decode cX5_value 2 = .ok (.invokestatic 95, 3) := by decide +kernel
theorem dX5_value_5 : decode cX5_value 5 = .ok (.istore_n 3, 1) := by decide +kernel
theorem dX5_value_6 : decode cX5_value 6 = .ok (.iload_n 3, 1) := by decide +kernel
theorem dX5_value_7 : decode cX5_value 7 = .ok (.ifCond .eq 5, 3) := by decide +kernel
theorem dX5_value_10 : decode cX5_value 10 = .ok (.iload_n 3, 1) := by decide +kernel
theorem dX5_value_11 : decode cX5_value 11 = .ok (.ireturn, 1) := by decide +kernel
theorem dX5_value_12 : decode cX5_value 12 = .ok (.aload_n 0, 1) := by decide +kernel
theorem dX5_value_13 : decode cX5_value 13 = .ok (.invokevirtual 44, 3) := by decide +kernel
theorem dX5_value_16 : decode cX5_value 16 = .ok (.aload_n 0, 1) := by decide +kernel
theorem dX5_value_17 : decode cX5_value 17 = .ok (.bipush 26, 2) := by decide +kernel
theorem dX5_value_19 : decode cX5_value 19 = .ok (.iload_n 1, 1) := by decide +kernel
theorem dX5_value_20 : decode cX5_value 20 = .ok (.iadd, 1) := by decide +kernel
theorem dX5_value_21 : decode cX5_value 21 = .ok (.iload_n 2, 1) := by decide +kernel
theorem dX5_value_22 : decode cX5_value 22 = .ok (.invokevirtual 91, 3) := by decide +kernel
theorem dX5_value_25 : decode cX5_value 25 = .ok (.ireturn, 1) := by decide +kernel
set_option maxRecDepth 20000 in
theorem ggX5_maySlip_X5_in : GoodIn wsX5_maySlip wsX5_in := goodIn_r _ [4] (by decide +kernel) (by decide +kernel)
set_option maxRecDepth 20000 in
theorem gX5_maySlip_X5_in : GoodIn wsX5_maySlip (va_wsS RX5 40 yX5_in wsX5_in) := goodIn_app (goodIn_of _ (by decide +kernel)) ggX5_maySlip_X5_in
theorem dX5_maySlip_0 : decode cX5_maySlip 0 = .ok (.iload_n 0, 1) := by decide +kernel
theorem dX5_maySlip_1 : decode cX5_maySlip 1 = .ok (.iconst 0, 1) := by decide +kernel
theorem dX5_maySlip_2 : decode cX5_maySlip 2 = .ok (.iconst 1, 1) := by decide +kernel
theorem dX5_maySlip_3 : decode cX5_maySlip 3 = .ok (.invokestatic 40, 3) := by decide +kernel
theorem dX5_maySlip_6 : decode cX5_maySlip 6 = .ok (.ifCond .eq 17, 3) := by decide +kernel
theorem dX5_maySlip_9 : decode cX5_maySlip 9 = .ok (.iload_n 1, 1) := by decide +kernel
theorem dX5_maySlip_10 : decode cX5_maySlip 10 = .ok (.iconst 1, 1) := by decide +kernel
theorem dX5_maySlip_11 : decode cX5_maySlip 11 = .ok (.bipush 99, 2) := by decide +kernel
theorem dX5_maySlip_13 : decode cX5_maySlip 13 = .ok (.invokestatic 40, 3) := by decide +kernel
theorem dX5_maySlip_16 : decode cX5_maySlip 16 = .ok (.ifCond .eq 7, 3) := by decide +kernel
theorem dX5_maySlip_19 : decode cX5_maySlip 19 = .ok (.iconst 0, 1) := by decide +kernel
theorem dX5_maySlip_20 : decode cX5_maySlip 20 = .ok (.goto 5, 3) := by decide +kernel
theorem dX5_maySlip_23 : decode cX5_maySlip 23 = .ok (.bipush (-2), 2) := by decide +kernel
theorem dX5_maySlip_25 : decode cX5_maySlip 25 = .ok (.ireturn, 1) := by decide +kernel
theorem dX5_slips_0 : decode cX5_slips 0 = .ok (.aload_n 0, 1) := by decide +kernel
theorem dX5_slips_1 : decode cX5_slips 1 = .ok (.getfield 7, 3) := by decide +kernel
theorem dX5_slips_4 : decode cX5_slips 4 = .ok (.bipush 18, 2) := by decide +kernel
theorem dX5_slips_6 : decode cX5_slips 6 = .ok (.iload_n 1, 1) := by decide +kernel
theorem dX5_slips_7 : decode cX5_slips 7 = .ok (.iadd, 1) := by decide +kernel
theorem dX5_slips_8 : decode cX5_slips 8 = .ok (.dup2, 1) := by decide +kernel
theorem dX5_slips_9 : decode cX5_slips 9 = .ok (.iaload, 1) := by decide +kernel
theorem dX5_slips_10 : decode cX5_slips 10 = .ok (.iload_n 2, 1) := by decide +kernel
theorem dX5_slips_11 : decode cX5_slips 11 = .ok (.iadd, 1) := by decide +kernel
theorem dX5_slips_12 : decode cX5_slips 12 = .ok (.iastore, 1) := by decide +kernel
theorem dX5_slips_13 : decode cX5_slips 13 = .ok (.aload_n 0, 1) := by decide +kernel
theorem dX5_slips_14 : decode cX5_slips 14 = .ok (.getfield 7, 3) := by decide +kernel
theorem dX5_slips_17 : decode cX5_slips 17 = .ok (.bipush 18, 2) := by decide +kernel
theorem dX5_slips_19 : decode cX5_slips 19 = .ok (.iload_n 1, 1) := by decide +kernel
theorem dX5_slips_20 : decode cX5_slips 20 = .ok (.iadd, 1) := by decide +kernel
theorem dX5_slips_21 : decode cX5_slips 21 = .ok (.iaload, 1) := by decide +kernel
theorem dX5_slips_22 : decode cX5_slips 22 = .ok (.ireturn, 1) := by decide +kernel
set_option maxRecDepth 20000 in
theorem ggX5_slip_X5_maySlip : GoodIn wsX5_slip wsX5_maySlip := goodIn_r _ [4, 5, 6, 3, 7] (by decide +kernel) (by decide +kernel)
set_option maxRecDepth 20000 in
theorem gX5_slip_X5_maySlip : GoodIn wsX5_slip (va_wsS RX5 98 yX5_maySlip wsX5_maySlip) := goodIn_app (goodIn_of _ (by decide +kernel)) ggX5_slip_X5_maySlip
set_option maxRecDepth 20000 in
theorem ggX5_slip_X5_records : GoodIn wsX5_slip wsX5_records := goodIn_r _ [11, 12, 13, 14, 15, 16, 3, 17, 22, 23, 24, 25, 26, 27, 28, 29, 30, 31, 32] (by decide +kernel) (by decide +kernel)
set_option maxRecDepth 20000 in
theorem gX5_slip_X5_records : GoodIn wsX5_slip (wsV RX5 44 RX5 yX5_records wsX5_records) := goodIn_app (goodIn_of _ (by decide +kernel)) ggX5_slip_X5_records
set_option maxRecDepth 20000 in
theorem ggX5_slip_X5_slips : GoodIn wsX5_slip wsX5_slips := goodIn_r _ [21, 14, 22, 23, 24, 25, 26, 27, 28, 29, 30, 31, 32] (by decide +kernel) (by decide +kernel)
set_option maxRecDepth 20000 in
theorem gX5_slip_X5_slips : GoodIn wsX5_slip (wsV RX5 101 RX5 yX5_slips wsX5_slips) := goodIn_app (goodIn_of _ (by decide +kernel)) ggX5_slip_X5_slips
theorem dX5_slip_0 : decode cX5_slip 0 = .ok (.iload_n 1, 1) := by decide +kernel
theorem dX5_slip_1 : decode cX5_slip 1 = .ok (.iload_n 2, 1) := by decide +kernel
theorem dX5_slip_2 : decode cX5_slip 2 = .ok (.invokestatic 98, 3) := by decide +kernel
theorem dX5_slip_5 : decode cX5_slip 5 = .ok (.istore_n 3, 1) := by decide +kernel
theorem dX5_slip_6 : decode cX5_slip 6 = .ok (.iload_n 3, 1) := by decide +kernel
theorem dX5_slip_7 : decode cX5_slip 7 = .ok (.ifCond .eq 5, 3) := by decide +kernel
theorem dX5_slip_10 : decode cX5_slip 10 = .ok (.iload_n 3, 1) := by decide +kernel
theorem dX5_slip_11 : decode cX5_slip 11 = .ok (.ireturn, 1) := by decide +kernel
theorem dX5_slip_12 : decode cX5_slip 12 = .ok (.aload_n 0, 1) := by decide +kernel
theorem dX5_slip_13 : decode cX5_slip 13 = .ok (.invokevirtual 44, 3) := by decide +kernel
theorem dX5_slip_16 : decode cX5_slip 16 = .ok (.aload_n 0, 1) := by decide +kernel
theorem dX5_slip_17 : decode cX5_slip 17 = .ok (.iload_n 1, 1) := by decide +kernel
theorem dX5_slip_18 : decode cX5_slip 18 = .ok (.iload_n 2, 1) := by decide +kernel
theorem dX5_slip_19 : decode cX5_slip 19 = .ok (.invokevirtual 101, 3) := by decide +kernel
theorem dX5_slip_22 : decode cX5_slip 22 = .ok (.ireturn, 1) := by decide +kernel
set_option maxRecDepth 20000 in
theorem ggX5_mayPass_X5_in : GoodIn wsX5_mayPass wsX5_in := goodIn_r _ [6] (by decide +kernel) (by decide +kernel)
set_option maxRecDepth 20000 in
theorem gX5_mayPass_X5_in : GoodIn wsX5_mayPass (va_wsS RX5 40 yX5_in wsX5_in) := goodIn_app (goodIn_of _ (by decide +kernel)) ggX5_mayPass_X5_in
theorem dX5_mayPass_0 : decode cX5_mayPass 0 = .ok (.iload_n 1, 1) := by decide +kernel
theorem dX5_mayPass_1 : decode cX5_mayPass 1 = .ok (.iconst 1, 1) := by decide +kernel
theorem dX5_mayPass_2 : decode cX5_mayPass 2 = .ok (.sipush 999, 3) := by decide +kernel
theorem dX5_mayPass_5 : decode cX5_mayPass 5 = .ok (.invokestatic 40, 3) := by decide +kernel
theorem dX5_mayPass_8 : decode cX5_mayPass 8 = .ok (.ifCond .ne 8, 3) := by decide +kernel
theorem dX5_mayPass_11 : decode cX5_mayPass 11 = .ok (.bipush (-2), 2) := by decide +kernel
theorem dX5_mayPass_13 : decode cX5_mayPass 13 = .ok (.goto 22, 3) := by decide +kernel
theorem dX5_mayPass_16 : decode cX5_mayPass 16 = .ok (.aload_n 0, 1) := by decide +kernel
theorem dX5_mayPass_17 : decode cX5_mayPass 17 = .ok (.getfield 7, 3) := by decide +kernel
theorem dX5_mayPass_20 : decode cX5_mayPass 20 = .ok (.iconst 0, 1) := by decide +kernel
theorem dX5_mayPass_21 : decode cX5_mayPass 21 = .ok (.iaload, 1) := by decide +kernel
theorem dX5_mayPass_22 : decode cX5_mayPass 22 = .ok (.iload_n 1, 1) := by decide +kernel
theorem dX5_mayPass_23 : decode cX5_mayPass 23 = .ok (.iadd, 1) := by decide +kernel
theorem dX5_mayPass_24 : decode cX5_mayPass 24 = .ok (.ldc 104, 2) := by decide +kernel
theorem dX5_mayPass_26 : decode cX5_mayPass 26 = .ok (.if_icmp .le 8, 3) := by decide +kernel
theorem dX5_mayPass_29 : decode cX5_mayPass 29 = .ok (.bipush (-4), 2) := by decide +kernel
theorem dX5_mayPass_31 : decode cX5_mayPass 31 = .ok (.goto 4, 3) := by decide +kernel
theorem dX5_mayPass_34 : decode cX5_mayPass 34 = .ok (.iconst 0, 1) := by decide +kernel
theorem dX5_mayPass_35 : decode cX5_mayPass 35 = .ok (.ireturn, 1) := by decide +kernel
set_option maxRecDepth 20000 in
theorem ggX5_pass_X5_mayPass : GoodIn wsX5_pass wsX5_mayPass := goodIn_r _ [6, 1, 7, 8, 9, 5, 10, 56, 57, 58, 59, 60, 61, 62, 63, 64, 65, 66] (by decide +kernel) (by decide +kernel)
set_option maxRecDepth 20000 in
theorem gX5_pass_X5_mayPass : GoodIn wsX5_pass (wsV RX5 105 RX5 yX5_mayPass wsX5_mayPass) := goodIn_app (goodIn_of _ (by decide +kernel)) ggX5_pass_X5_mayPass
set_option maxRecDepth 20000 in
theorem ggX5_pass_X5_records : GoodIn wsX5_pass wsX5_records := goodIn_r _ [14, 15, 16, 1, 17, 18, 5, 19, 56, 57, 58, 59, 60, 61, 62, 63, 64, 65, 66] (by decide +kernel) (by decide +kernel)
set_option maxRecDepth 20000 in
theorem gX5_pass_X5_records : GoodIn wsX5_pass (wsV RX5 44 RX5 yX5_records wsX5_records) := goodIn_app (goodIn_of _ (by decide +kernel)) ggX5_pass_X5_records
set_option maxRecDepth 20000 in
theorem ggX5_pass_X5_passes : GoodIn wsX5_pass wsX5_passes := goodIn_r _ [22, 23, 24, 5, 25, 26, 27, 28, 29, 30, 31, 32, 33, 34, 35, 36, 37, 38, 39, 40, 41, 42, 43, 44, 45, 46, 47, 48, 49, 50, 51, 52, 53, 54, 55] (by decide +kernel) (by decide +kernel)
set_option maxRecDepth 20000 in
theorem gX5_pass_X5_passes : GoodIn wsX5_pass (va_wsS RX5 109 yX5_passes wsX5_passes) := goodIn_app (goodIn_of _ (by decide +kernel)) ggX5_pass_X5_passes
theorem dX5_pass_0 : decode cX5_pass 0 = .ok (.aload_n 0, 1) := by decide +kernel
theorem dX5_pass_1 : decode cX5_pass 1 = .ok (.iload_n 1, 1) := by decide +kernel
theorem dX5_pass_2 : decode cX5_pass 2 = .ok (.invokevirtual 105, 3) := by decide +kernel
theorem dX5_pass_5 : decode cX5_pass 5 = .ok (.istore_n 2, 1) := by decide +kernel
theorem dX5_pass_6 : decode cX5_pass 6 = .ok (.iload_n 2, 1) := by decide +kernel
theorem dX5_pass_7 : decode cX5_pass 7 = .ok (.ifCond .eq 5, 3) := by decide +kernel
theorem dX5_pass_10 : decode cX5_pass 10 = .ok (.iload_n 2, 1) := by decide +kernel
theorem dX5_pass_11 : decode cX5_pass 11 = .ok (.ireturn, 1) := by decide +kernel
theorem dX5_pass_12 : decode cX5_pass 12 = .ok (.aload_n 0, 1) := by decide +kernel
theorem dX5_pass_13 : decode cX5_pass 13 = .ok (.invokevirtual 44, 3) := by decide +kernel
theorem dX5_pass_16 : decode cX5_pass 16 = .ok (.aload_n 0, 1) := by decide +kernel
theorem dX5_pass_17 : decode cX5_pass 17 = .ok (.getfield 7, 3) := by decide +kernel
theorem dX5_pass_20 : decode cX5_pass 20 = .ok (.iload_n 1, 1) := by decide +kernel
theorem dX5_pass_21 : decode cX5_pass 21 = .ok (.invokestatic 109, 3) := by decide +kernel
theorem dX5_pass_24 : decode cX5_pass 24 = .ok (.aload_n 0, 1) := by decide +kernel
theorem dX5_pass_25 : decode cX5_pass 25 = .ok (.getfield 7, 3) := by decide +kernel
theorem dX5_pass_28 : decode cX5_pass 28 = .ok (.iconst 0, 1) := by decide +kernel
theorem dX5_pass_29 : decode cX5_pass 29 = .ok (.iaload, 1) := by decide +kernel
theorem dX5_pass_30 : decode cX5_pass 30 = .ok (.ireturn, 1) := by decide +kernel
set_option maxRecDepth 20000 in
theorem ggX5_flush_X5_records : GoodIn wsX5_flush wsX5_records := goodIn_r _ [6, 7, 8, 1, 9, 10, 5, 11, 24, 25, 26, 27, 28, 29, 30, 31, 32, 33, 34] (by decide +kernel) (by decide +kernel)
set_option maxRecDepth 20000 in
theorem gX5_flush_X5_records : GoodIn wsX5_flush (wsV RX5 44 RX5 yX5_records wsX5_records) := goodIn_app (goodIn_of _ (by decide +kernel)) ggX5_flush_X5_records
set_option maxRecDepth 20000 in
theorem ggX5_flush_X5_loses : GoodIn wsX5_flush wsX5_loses := goodIn_r _ [14, 15, 16, 5, 17, 18, 19, 20, 21, 22, 23] (by decide +kernel) (by decide +kernel)
set_option maxRecDepth 20000 in
theorem gX5_flush_X5_loses : GoodIn wsX5_flush (va_wsS RX5 67 yX5_loses wsX5_loses) := goodIn_app (goodIn_of _ (by decide +kernel)) ggX5_flush_X5_loses
theorem dX5_flush_0 : decode cX5_flush 0 = .ok (.aload_n 0, 1) := by decide +kernel
theorem dX5_flush_1 : decode cX5_flush 1 = .ok (.invokevirtual 44, 3) := by decide +kernel
theorem dX5_flush_4 : decode cX5_flush 4 = .ok (.aload_n 0, 1) := by decide +kernel
theorem dX5_flush_5 : decode cX5_flush 5 = .ok (.getfield 7, 3) := by decide +kernel
theorem dX5_flush_8 : decode cX5_flush 8 = .ok (.bipush 10, 2) := by decide +kernel
theorem dX5_flush_10 : decode cX5_flush 10 = .ok (.iaload, 1) := by decide +kernel
theorem dX5_flush_11 : decode cX5_flush 11 = .ok (.istore_n 1, 1) := by decide +kernel
theorem dX5_flush_12 : decode cX5_flush 12 = .ok (.aload_n 0, 1) := by decide +kernel
theorem dX5_flush_13 : decode cX5_flush 13 = .ok (.getfield 7, 3) := by decide +kernel
theorem dX5_flush_16 : decode cX5_flush 16 = .ok (.bipush 10, 2) := by decide +kernel
theorem dX5_flush_18 : decode cX5_flush 18 = .ok (.iaload, 1) := by decide +kernel
theorem dX5_flush_19 : decode cX5_flush 19 = .ok (.ifCond .le 15, 3) := by decide +kernel
theorem dX5_flush_22 : decode cX5_flush 22 = .ok (.aload_n 0, 1) := by decide +kernel
theorem dX5_flush_23 : decode cX5_flush 23 = .ok (.getfield 7, 3) := by decide +kernel
theorem dX5_flush_26 : decode cX5_flush 26 = .ok (.iconst 0, 1) := by decide +kernel
theorem dX5_flush_27 : decode cX5_flush 27 = .ok (.iconst 2, 1) := by decide +kernel
theorem dX5_flush_28 : decode cX5_flush 28 = .ok (.invokestatic 67, 3) := by decide +kernel
theorem dX5_flush_31 : decode cX5_flush 31 = .ok (.goto (-19), 3) := by decide +kernel
theorem dX5_flush_34 : decode cX5_flush 34 = .ok (.iload_n 1, 1) := by decide +kernel
theorem dX5_flush_35 : decode cX5_flush 35 = .ok (.ireturn, 1) := by decide +kernel
set_option maxRecDepth 20000 in
theorem ggX5_waiting_X5_in : GoodIn wsX5_waiting wsX5_in := goodIn_r _ [5] (by decide +kernel) (by decide +kernel)
set_option maxRecDepth 20000 in
theorem gX5_waiting_X5_in : GoodIn wsX5_waiting (va_wsS RX5 40 yX5_in wsX5_in) := goodIn_app (goodIn_of _ (by decide +kernel)) ggX5_waiting_X5_in
set_option maxRecDepth 20000 in
theorem ggX5_waiting_X5_of : GoodIn wsX5_waiting wsX5_of := goodIn_r _ [8] (by decide +kernel) (by decide +kernel)
set_option maxRecDepth 20000 in
theorem gX5_waiting_X5_of : GoodIn wsX5_waiting (va_wsS RX5 47 yX5_of wsX5_of) := goodIn_app (goodIn_of _ (by decide +kernel)) ggX5_waiting_X5_of
theorem dX5_waiting_0 : decode cX5_waiting 0 = .ok (.iload_n 1, 1) := by decide +kernel
theorem dX5_waiting_1 : decode cX5_waiting 1 = .ok (.iconst 0, 1) := by decide +kernel
theorem dX5_waiting_2 : decode cX5_waiting 2 = .ok (.aload_n 0, 1) := by decide +kernel
theorem dX5_waiting_3 : decode cX5_waiting 3 = .ok (.getfield 7, 3) := by decide +kernel
theorem dX5_waiting_6 : decode cX5_waiting 6 = .ok (.bipush 10, 2) := by decide +kernel
theorem dX5_waiting_8 : decode cX5_waiting 8 = .ok (.iaload, 1) := by decide +kernel
theorem dX5_waiting_9 : decode cX5_waiting 9 = .ok (.iconst 1, 1) := by decide +kernel
theorem dX5_waiting_10 : decode cX5_waiting 10 = .ok (.isub, 1) := by decide +kernel
theorem dX5_waiting_11 : decode cX5_waiting 11 = .ok (.invokestatic 40, 3) := by decide +kernel
theorem dX5_waiting_14 : decode cX5_waiting 14 = .ok (.ifCond .ne 5, 3) := by decide +kernel
theorem dX5_waiting_17 : decode cX5_waiting 17 = .ok (.iconst (-1), 1) := by decide +kernel
theorem dX5_waiting_18 : decode cX5_waiting 18 = .ok (.ireturn, 1) := by decide +kernel
theorem dX5_waiting_19 : decode cX5_waiting 19 = .ok (.iload_n 2, 1) := by decide +kernel
theorem dX5_waiting_20 : decode cX5_waiting 20 = .ok (.iconst 0, 1) := by decide +kernel
theorem dX5_waiting_21 : decode cX5_waiting 21 = .ok (.iconst 3, 1) := by decide +kernel
theorem dX5_waiting_22 : decode cX5_waiting 22 = .ok (.invokestatic 40, 3) := by decide +kernel
theorem dX5_waiting_25 : decode cX5_waiting 25 = .ok (.ifCond .eq 15, 3) := by decide +kernel
theorem dX5_waiting_28 : decode cX5_waiting 28 = .ok (.aload_n 0, 1) := by decide +kernel
theorem dX5_waiting_29 : decode cX5_waiting 29 = .ok (.getfield 7, 3) := by decide +kernel
theorem dX5_waiting_32 : decode cX5_waiting 32 = .ok (.iload_n 1, 1) := by decide +kernel
theorem dX5_waiting_33 : decode cX5_waiting 33 = .ok (.iload_n 2, 1) := by decide +kernel
theorem dX5_waiting_34 : decode cX5_waiting 34 = .ok (.invokestatic 47, 3) := by decide +kernel
theorem dX5_waiting_37 : decode cX5_waiting 37 = .ok (.goto 5, 3) := by decide +kernel
theorem dX5_waiting_40 : decode cX5_waiting 40 = .ok (.bipush (-2), 2) := by decide +kernel
theorem dX5_waiting_42 : decode cX5_waiting 42 = .ok (.ireturn, 1) := by decide +kernel
set_option maxRecDepth 20000 in
theorem ggX5_row_X5_in : GoodIn wsX5_row wsX5_in := goodIn_r _ [5] (by decide +kernel) (by decide +kernel)
set_option maxRecDepth 20000 in
theorem gX5_row_X5_in : GoodIn wsX5_row (va_wsS RX5 40 yX5_in wsX5_in) := goodIn_app (goodIn_of _ (by decide +kernel)) ggX5_row_X5_in
theorem dX5_row_0 : decode cX5_row 0 = .ok (.iload_n 1, 1) := by decide +kernel
theorem dX5_row_1 : decode cX5_row 1 = .ok (.iconst 0, 1) := by decide +kernel
theorem dX5_row_2 : decode cX5_row 2 = .ok (.iconst 2, 1) := by decide +kernel
theorem dX5_row_3 : decode cX5_row 3 = .ok (.aload_n 0, 1) := by decide +kernel
theorem dX5_row_4 : decode cX5_row 4 = .ok (.getfield 7, 3) := by decide +kernel
theorem dX5_row_7 : decode cX5_row 7 = .ok (.iconst 4, 1) := by decide +kernel
theorem dX5_row_8 : decode cX5_row 8 = .ok (.iaload, 1) := by decide +kernel
theorem dX5_row_9 : decode cX5_row 9 = .ok (.imul, 1) := by decide +kernel
theorem dX5_row_10 : decode cX5_row 10 = .ok (.iconst 1, 1) := by decide +kernel
theorem dX5_row_11 : decode cX5_row 11 = .ok (.isub, 1) := by decide +kernel
theorem dX5_row_12 : decode cX5_row 12 = .ok (.invokestatic 40, 3) := by decide +kernel
theorem dX5_row_15 : decode cX5_row 15 = .ok (.ifCond .ne 5, 3) := by decide +kernel
theorem dX5_row_18 : decode cX5_row 18 = .ok (.iconst (-1), 1) := by decide +kernel
theorem dX5_row_19 : decode cX5_row 19 = .ok (.ireturn, 1) := by decide +kernel
theorem dX5_row_20 : decode cX5_row 20 = .ok (.iload_n 2, 1) := by decide +kernel
theorem dX5_row_21 : decode cX5_row 21 = .ok (.iconst 0, 1) := by decide +kernel
theorem dX5_row_22 : decode cX5_row 22 = .ok (.iconst 2, 1) := by decide +kernel
theorem dX5_row_23 : decode cX5_row 23 = .ok (.invokestatic 40, 3) := by decide +kernel
theorem dX5_row_26 : decode cX5_row 26 = .ok (.ifCond .eq 19, 3) := by decide +kernel
theorem dX5_row_29 : decode cX5_row 29 = .ok (.aload_n 0, 1) := by decide +kernel
theorem dX5_row_30 : decode cX5_row 30 = .ok (.getfield 7, 3) := by decide +kernel
theorem dX5_row_33 : decode cX5_row 33 = .ok (.bipush 106, 2) := by decide +kernel
theorem dX5_row_35 : decode cX5_row 35 = .ok (.iconst 3, 1) := by decide +kernel
theorem dX5_row_36 : decode cX5_row 36 = .ok (.iload_n 1, 1) := by decide +kernel
theorem dX5_row_37 : decode cX5_row 37 = .ok (.imul, 1) := by decide +kernel
theorem dX5_row_38 : decode cX5_row 38 = .ok (.iadd, 1) := by decide +kernel
theorem dX5_row_39 : decode cX5_row 39 = .ok (.iload_n 2, 1) := by decide +kernel
theorem dX5_row_40 : decode cX5_row 40 = .ok (.iadd, 1) := by decide +kernel
theorem dX5_row_41 : decode cX5_row 41 = .ok (.iaload, 1) := by decide +kernel
theorem dX5_row_42 : decode cX5_row 42 = .ok (.goto 5, 3) := by decide +kernel
theorem dX5_row_45 : decode cX5_row 45 = .ok (.bipush (-2), 2) := by decide +kernel
theorem dX5_row_47 : decode cX5_row 47 = .ok (.ireturn, 1) := by decide +kernel
set_option maxRecDepth 20000 in
theorem ggX5_ofMissing_X5_in : GoodIn wsX5_ofMissing wsX5_in := goodIn_r _ [5] (by decide +kernel) (by decide +kernel)
set_option maxRecDepth 20000 in
theorem gX5_ofMissing_X5_in : GoodIn wsX5_ofMissing (va_wsS RX5 40 yX5_in wsX5_in) := goodIn_app (goodIn_of _ (by decide +kernel)) ggX5_ofMissing_X5_in
theorem dX5_ofMissing_0 : decode cX5_ofMissing 0 = .ok (.iload_n 1, 1) := by decide +kernel
theorem dX5_ofMissing_1 : decode cX5_ofMissing 1 = .ok (.iconst 0, 1) := by decide +kernel
theorem dX5_ofMissing_2 : decode cX5_ofMissing 2 = .ok (.aload_n 0, 1) := by decide +kernel
theorem dX5_ofMissing_3 : decode cX5_ofMissing 3 = .ok (.getfield 7, 3) := by decide +kernel
theorem dX5_ofMissing_6 : decode cX5_ofMissing 6 = .ok (.bipush 24, 2) := by decide +kernel
theorem dX5_ofMissing_8 : decode cX5_ofMissing 8 = .ok (.iaload, 1) := by decide +kernel
theorem dX5_ofMissing_9 : decode cX5_ofMissing 9 = .ok (.iconst 1, 1) := by decide +kernel
theorem dX5_ofMissing_10 : decode cX5_ofMissing 10 = .ok (.isub, 1) := by decide +kernel
theorem dX5_ofMissing_11 : decode cX5_ofMissing 11 = .ok (.invokestatic 40, 3) := by decide +kernel
theorem dX5_ofMissing_14 : decode cX5_ofMissing 14 = .ok (.ifCond .ne 5, 3) := by decide +kernel
theorem dX5_ofMissing_17 : decode cX5_ofMissing 17 = .ok (.iconst (-1), 1) := by decide +kernel
theorem dX5_ofMissing_18 : decode cX5_ofMissing 18 = .ok (.ireturn, 1) := by decide +kernel
theorem dX5_ofMissing_19 : decode cX5_ofMissing 19 = .ok (.iload_n 2, 1) := by decide +kernel
theorem dX5_ofMissing_20 : decode cX5_ofMissing 20 = .ok (.iconst 0, 1) := by decide +kernel
theorem dX5_ofMissing_21 : decode cX5_ofMissing 21 = .ok (.iconst 3, 1) := by decide +kernel
theorem dX5_ofMissing_22 : decode cX5_ofMissing 22 = .ok (.invokestatic 40, 3) := by decide +kernel
theorem dX5_ofMissing_25 : decode cX5_ofMissing 25 = .ok (.ifCond .eq 20, 3) := by decide +kernel
theorem dX5_ofMissing_28 : decode cX5_ofMissing 28 = .ok (.aload_n 0, 1) := by decide +kernel
theorem dX5_ofMissing_29 : decode cX5_ofMissing 29 = .ok (.getfield 7, 3) := by decide +kernel
theorem dX5_ofMissing_32 : decode cX5_ofMissing 32 = .ok (.sipush 202, 3) := by decide +kernel
theorem dX5_ofMissing_35 : decode cX5_ofMissing 35 = .ok (.iconst 4, 1) := by decide +kernel
theorem dX5_ofMissing_36 : decode cX5_ofMissing 36 = .ok (.iload_n 1, 1) := by decide +kernel
theorem dX5_ofMissing_37 : decode cX5_ofMissing 37 = .ok (.imul, 1) := by decide +kernel
theorem dX5_ofMissing_38 : decode cX5_ofMissing 38 = .ok (.iadd, 1) := by decide +kernel
theorem dX5_ofMissing_39 : decode cX5_ofMissing 39 = .ok (.iload_n 2, 1) := by decide +kernel
theorem dX5_ofMissing_40 : decode cX5_ofMissing 40 = .ok (.iadd, 1) := by decide +kernel
theorem dX5_ofMissing_41 : decode cX5_ofMissing 41 = .ok (.iaload, 1) := by decide +kernel
theorem dX5_ofMissing_42 : decode cX5_ofMissing 42 = .ok (.goto 5, 3) := by decide +kernel
theorem dX5_ofMissing_45 : decode cX5_ofMissing 45 = .ok (.bipush (-2), 2) := by decide +kernel
theorem dX5_ofMissing_47 : decode cX5_ofMissing 47 = .ok (.ireturn, 1) := by decide +kernel
set_option maxRecDepth 20000 in
theorem ggX5_count_X5_in : GoodIn wsX5_count wsX5_in := goodIn_r _ [7] (by decide +kernel) (by decide +kernel)
set_option maxRecDepth 20000 in
theorem gX5_count_X5_in : GoodIn wsX5_count (va_wsS RX5 40 yX5_in wsX5_in) := goodIn_app (goodIn_of _ (by decide +kernel)) ggX5_count_X5_in
theorem dX5_count_0 : decode cX5_count 0 = .ok (.iload_n 1, 1) := by decide +kernel
theorem dX5_count_1 : decode cX5_count 1 = .ok (.iconst 0, 1) := by decide +kernel
theorem dX5_count_2 : decode cX5_count 2 = .ok (.bipush 25, 2) := by decide +kernel
theorem dX5_count_4 : decode cX5_count 4 = .ok (.invokestatic 40, 3) := by decide +kernel
theorem dX5_count_7 : decode cX5_count 7 = .ok (.ifCond .ne 6, 3) := by decide +kernel
theorem dX5_count_10 : decode cX5_count 10 = .ok (.bipush (-2), 2) := by decide +kernel
theorem dX5_count_12 : decode cX5_count 12 = .ok (.ireturn, 1) := by decide +kernel
theorem dX5_count_13 : decode cX5_count 13 = .ok (.iload_n 1, 1) := by decide +kernel
theorem dX5_count_14 : decode cX5_count 14 = .ok (.bipush 16, 2) := by decide +kernel
theorem dX5_count_16 : decode cX5_count 16 = .ok (.if_icmp .ge 28, 3) := by decide +kernel
theorem dX5_count_19 : decode cX5_count 19 = .ok (.iload_n 1, 1) := by decide +kernel
theorem dX5_count_20 : decode cX5_count 20 = .ok (.ifCond .ne 12, 3) := by decide +kernel
theorem dX5_count_23 : decode cX5_count 23 = .ok (.aload_n 0, 1) := by decide +kernel
theorem dX5_count_24 : decode cX5_count 24 = .ok (.getfield 7, 3) := by decide +kernel
theorem dX5_count_27 : decode cX5_count 27 = .ok (.iconst 0, 1) := by decide +kernel
theorem dX5_count_28 : decode cX5_count 28 = .ok (.iaload, 1) := by decide +kernel
theorem dX5_count_29 : decode cX5_count 29 = .ok (.goto 14, 3) := by decide +kernel
theorem dX5_count_32 : decode cX5_count 32 = .ok (.aload_n 0, 1) := by decide +kernel
theorem dX5_count_33 : decode cX5_count 33 = .ok (.getfield 7, 3) := by decide +kernel
theorem dX5_count_36 : decode cX5_count 36 = .ok (.bipush 9, 2) := by decide +kernel
theorem dX5_count_38 : decode cX5_count 38 = .ok (.iload_n 1, 1) := by decide +kernel
theorem dX5_count_39 : decode cX5_count 39 = .ok (.iadd, 1) := by decide +kernel
theorem dX5_count_40 : decode cX5_count 40 = .ok (.iconst 1, 1) := by decide +kernel
theorem dX5_count_41 : decode cX5_count 41 = .ok (.isub, 1) := by decide +kernel
theorem dX5_count_42 : decode cX5_count 42 = .ok (.iaload, 1) := by decide +kernel
theorem dX5_count_43 : decode cX5_count 43 = .ok (.ireturn, 1) := by decide +kernel
theorem dX5_count_44 : decode cX5_count 44 = .ok (.iload_n 1, 1) := by decide +kernel
theorem dX5_count_45 : decode cX5_count 45 = .ok (.bipush 24, 2) := by decide +kernel
theorem dX5_count_47 : decode cX5_count 47 = .ok (.if_icmp .ge 17, 3) := by decide +kernel
theorem dX5_count_50 : decode cX5_count 50 = .ok (.aload_n 0, 1) := by decide +kernel
theorem dX5_count_51 : decode cX5_count 51 = .ok (.getfield 7, 3) := by decide +kernel
theorem dX5_count_54 : decode cX5_count 54 = .ok (.iconst 1, 1) := by decide +kernel
theorem dX5_count_55 : decode cX5_count 55 = .ok (.iload_n 1, 1) := by decide +kernel
theorem dX5_count_56 : decode cX5_count 56 = .ok (.iadd, 1) := by decide +kernel
theorem dX5_count_57 : decode cX5_count 57 = .ok (.bipush 16, 2) := by decide +kernel
theorem dX5_count_59 : decode cX5_count 59 = .ok (.isub, 1) := by decide +kernel
theorem dX5_count_60 : decode cX5_count 60 = .ok (.iaload, 1) := by decide +kernel
theorem dX5_count_61 : decode cX5_count 61 = .ok (.goto 20, 3) := by decide +kernel
theorem dX5_count_64 : decode cX5_count 64 = .ok (.iload_n 1, 1) := by decide +kernel
theorem dX5_count_65 : decode cX5_count 65 = .ok (.bipush 24, 2) := by decide +kernel
theorem dX5_count_67 : decode cX5_count 67 = .ok (.if_icmp .ne 10, 3) := by decide +kernel
theorem dX5_count_70 : decode cX5_count 70 = .ok (.aload_n 0, 1) := by decide +kernel
theorem dX5_count_71 : decode cX5_count 71 = .ok (.getfield 112, 3) := by decide +kernel
theorem dX5_count_74 : decode cX5_count 74 = .ok (.goto 7, 3) := by decide +kernel
theorem dX5_count_77 : decode cX5_count 77 = .ok (.aload_n 0, 1) := by decide +kernel
theorem dX5_count_78 : decode cX5_count 78 = .ok (.getfield 32, 3) := by decide +kernel
theorem dX5_count_81 : decode cX5_count 81 = .ok (.ireturn, 1) := by decide +kernel
theorem dX5_shown_0 : decode cX5_shown 0 = .ok (.iconst 0, 1) := by decide +kernel
theorem dX5_shown_1 : decode cX5_shown 1 = .ok (.istore_n 1, 1) := by decide +kernel
theorem dX5_shown_2 : decode cX5_shown 2 = .ok (.iload_n 1, 1) := by decide +kernel
theorem dX5_shown_3 : decode cX5_shown 3 = .ok (.iconst 2, 1) := by decide +kernel
theorem dX5_shown_4 : decode cX5_shown 4 = .ok (.aload_n 0, 1) := by decide +kernel
theorem dX5_shown_5 : decode cX5_shown 5 = .ok (.getfield 7, 3) := by decide +kernel
theorem dX5_shown_8 : decode cX5_shown 8 = .ok (.iconst 4, 1) := by decide +kernel
theorem dX5_shown_9 : decode cX5_shown 9 = .ok (.iaload, 1) := by decide +kernel
theorem dX5_shown_10 : decode cX5_shown 10 = .ok (.imul, 1) := by decide +kernel
theorem dX5_shown_11 : decode cX5_shown 11 = .ok (.if_icmp .ge 27, 3) := by decide +kernel
theorem dX5_shown_14 : decode cX5_shown 14 = .ok (.aload_n 0, 1) := by decide +kernel
theorem dX5_shown_15 : decode cX5_shown 15 = .ok (.getfield 7, 3) := by decide +kernel
theorem dX5_shown_18 : decode cX5_shown 18 = .ok (.bipush 106, 2) := by decide +kernel
theorem dX5_shown_20 : decode cX5_shown 20 = .ok (.iconst 3, 1) := by decide +kernel
theorem dX5_shown_21 : decode cX5_shown 21 = .ok (.iload_n 1, 1) := by decide +kernel
theorem dX5_shown_22 : decode cX5_shown 22 = .ok (.imul, 1) := by decide +kernel
theorem dX5_shown_23 : decode cX5_shown 23 = .ok (.iadd, 1) := by decide +kernel
theorem dX5_shown_24 : decode cX5_shown 24 = .ok (.iconst 1, 1) := by decide +kernel
theorem dX5_shown_25 : decode cX5_shown 25 = .ok (.iadd, 1) := by decide +kernel
theorem dX5_shown_26 : decode cX5_shown 26 = .ok (.iaload, 1) := by decide +kernel
theorem dX5_shown_27 : decode cX5_shown 27 = .ok (.bipush (-6), 2) := by decide +kernel
theorem dX5_shown_29 : decode cX5_shown 29 = .ok (.if_icmp .eq 9, 3) := by decide +kernel
theorem dX5_shown_32 : decode cX5_shown 32 = .ok (.iinc 1 1, 3) := by decide +kernel
theorem dX5_shown_35 : decode cX5_shown 35 = .ok (.goto (-33), 3) := by decide +kernel
theorem dX5_shown_38 : decode cX5_shown 38 = .ok (.iload_n 1, 1) := by decide +kernel
theorem dX5_shown_39 : decode cX5_shown 39 = .ok (.ireturn, 1) := by decide +kernel
set_option maxRecDepth 20000 in
theorem ggX5_ratio_Jxf58ca_floatToIntBits_5c35a : GoodIn wsX5_ratio wsJxf58ca_floatToIntBits_5c35a := goodIn_r _ [5, 6, 7, 8, 9, 10, 11, 12, 4, 13] (by decide +kernel) (by decide +kernel)
set_option maxRecDepth 20000 in
theorem gX5_ratio_Jxf58ca_floatToIntBits_5c35a : GoodIn wsX5_ratio (va_wsS RX5 115 yJxf58ca_floatToIntBits_5c35a wsJxf58ca_floatToIntBits_5c35a) := goodIn_app (goodIn_of _ (by decide +kernel)) ggX5_ratio_Jxf58ca_floatToIntBits_5c35a
theorem dX5_ratio_0 : decode cX5_ratio 0 = .ok (.aload_n 0, 1) := by decide +kernel
theorem dX5_ratio_1 : decode cX5_ratio 1 = .ok (.getfield 7, 3) := by decide +kernel
theorem dX5_ratio_4 : decode cX5_ratio 4 = .ok (.iconst 1, 1) := by decide +kernel
theorem dX5_ratio_5 : decode cX5_ratio 5 = .ok (.iaload, 1) := by decide +kernel
theorem dX5_ratio_6 : decode cX5_ratio 6 = .ok (.i2d, 1) := by decide +kernel
theorem dX5_ratio_7 : decode cX5_ratio 7 = .ok (.iconst 2, 1) := by decide +kernel
theorem dX5_ratio_8 : decode cX5_ratio 8 = .ok (.aload_n 0, 1) := by decide +kernel
theorem dX5_ratio_9 : decode cX5_ratio 9 = .ok (.getfield 7, 3) := by decide +kernel
theorem dX5_ratio_12 : decode cX5_ratio 12 = .ok (.iconst 2, 1) := by decide +kernel
theorem dX5_ratio_13 : decode cX5_ratio 13 = .ok (.iaload, 1) := by decide +kernel
theorem dX5_ratio_14 : decode cX5_ratio 14 = .ok (.imul, 1) := by decide +kernel
theorem dX5_ratio_15 : decode cX5_ratio 15 = .ok (.i2d, 1) := by decide +kernel
theorem dX5_ratio_16 : decode cX5_ratio 16 = .ok (.ddiv, 1) := by decide +kernel
theorem dX5_ratio_17 : decode cX5_ratio 17 = .ok (.d2f, 1) := by decide +kernel
theorem dX5_ratio_18 : decode cX5_ratio 18 = .ok (.invokestatic 115, 3) := by decide +kernel
theorem dX5_ratio_21 : decode cX5_ratio 21 = .ok (.ireturn, 1) := by decide +kernel
set_option maxRecDepth 20000 in
theorem ggX5_fill_Jxe99ae_doubleToLongBits_ccdee : GoodIn wsX5_fill wsJxe99ae_doubleToLongBits_ccdee := goodIn_r _ [5, 6, 7, 8, 9, 10, 11, 12, 4, 13] (by decide +kernel) (by decide +kernel)
set_option maxRecDepth 20000 in
theorem gX5_fill_Jxe99ae_doubleToLongBits_ccdee : GoodIn wsX5_fill (va_wsS RX5 121 yJxe99ae_doubleToLongBits_ccdee wsJxe99ae_doubleToLongBits_ccdee) := goodIn_app (goodIn_of _ (by decide +kernel)) ggX5_fill_Jxe99ae_doubleToLongBits_ccdee
theorem dX5_fill_0 : decode cX5_fill 0 = .ok (.aload_n 0, 1) := by decide +kernel
theorem dX5_fill_1 : decode cX5_fill 1 = .ok (.getfield 7, 3) := by decide +kernel
theorem dX5_fill_4 : decode cX5_fill 4 = .ok (.iconst 0, 1) := by decide +kernel
theorem dX5_fill_5 : decode cX5_fill 5 = .ok (.iaload, 1) := by decide +kernel
theorem dX5_fill_6 : decode cX5_fill 6 = .ok (.ifCond .ne 7, 3) := by decide +kernel
theorem dX5_fill_9 : decode cX5_fill 9 = .ok (.lconst 0, 1) := by decide +kernel
theorem dX5_fill_10 : decode cX5_fill 10 = .ok (.goto 22, 3) := by decide +kernel
theorem dX5_fill_13 : decode cX5_fill 13 = .ok (.aload_n 0, 1) := by decide +kernel
theorem dX5_fill_14 : decode cX5_fill 14 = .ok (.getfield 7, 3) := by decide +kernel
theorem dX5_fill_17 : decode cX5_fill 17 = .ok (.bipush 25, 2) := by decide +kernel
theorem dX5_fill_19 : decode cX5_fill 19 = .ok (.iaload, 1) := by decide +kernel
theorem dX5_fill_20 : decode cX5_fill 20 = .ok (.i2d, 1) := by decide +kernel
theorem dX5_fill_21 : decode cX5_fill 21 = .ok (.aload_n 0, 1) := by decide +kernel
theorem dX5_fill_22 : decode cX5_fill 22 = .ok (.getfield 7, 3) := by decide +kernel
theorem dX5_fill_25 : decode cX5_fill 25 = .ok (.iconst 0, 1) := by decide +kernel
theorem dX5_fill_26 : decode cX5_fill 26 = .ok (.iaload, 1) := by decide +kernel
theorem dX5_fill_27 : decode cX5_fill 27 = .ok (.i2d, 1) := by decide +kernel
theorem dX5_fill_28 : decode cX5_fill 28 = .ok (.ddiv, 1) := by decide +kernel
theorem dX5_fill_29 : decode cX5_fill 29 = .ok (.invokestatic 121, 3) := by decide +kernel
theorem dX5_fill_32 : decode cX5_fill 32 = .ok (.lreturn, 1) := by decide +kernel
set_option maxRecDepth 20000 in
theorem ggX5_tries_X5_lays : GoodIn wsX5_tries wsX5_lays := goodIn_r _ [6] (by decide +kernel) (by decide +kernel)
set_option maxRecDepth 20000 in
theorem gX5_tries_X5_lays : GoodIn wsX5_tries (va_wsS RX5 36 yX5_lays wsX5_lays) := goodIn_app (goodIn_of _ (by decide +kernel)) ggX5_tries_X5_lays
theorem dX5_tries_0 : decode cX5_tries 0 = .ok (.aload_n 0, 1) := by decide +kernel
theorem dX5_tries_1 : decode cX5_tries 1 = .ok (.getfield 7, 3) := by decide +kernel
theorem dX5_tries_4 : decode cX5_tries 4 = .ok (.iconst 0, 1) := by decide +kernel
theorem dX5_tries_5 : decode cX5_tries 5 = .ok (.aload_n 0, 1) := by decide +kernel
theorem dX5_tries_6 : decode cX5_tries 6 = .ok (.getfield 13, 3) := by decide +kernel
theorem dX5_tries_9 : decode cX5_tries 9 = .ok (.iconst 0, 1) := by decide +kernel
theorem dX5_tries_10 : decode cX5_tries 10 = .ok (.invokestatic 36, 3) := by decide +kernel
theorem dX5_tries_13 : decode cX5_tries 13 = .ok (.return_, 1) := by decide +kernel
theorem dX5_more_0 : decode cX5_more 0 = .ok (.iload_n 1, 1) := by decide +kernel
theorem dX5_more_1 : decode cX5_more 1 = .ok (.ifCond .ne 8, 3) := by decide +kernel
theorem dX5_more_4 : decode cX5_more 4 = .ok (.bipush 12, 2) := by decide +kernel
theorem dX5_more_6 : decode cX5_more 6 = .ok (.goto 15, 3) := by decide +kernel
theorem dX5_more_9 : decode cX5_more 9 = .ok (.iload_n 1, 1) := by decide +kernel
theorem dX5_more_10 : decode cX5_more 10 = .ok (.iconst 1, 1) := by decide +kernel
theorem dX5_more_11 : decode cX5_more 11 = .ok (.if_icmp .ne 8, 3) := by decide +kernel
theorem dX5_more_14 : decode cX5_more 14 = .ok (.bipush 14, 2) := by decide +kernel
theorem dX5_more_16 : decode cX5_more 16 = .ok (.goto 5, 3) := by decide +kernel
theorem dX5_more_19 : decode cX5_more 19 = .ok (.bipush 20, 2) := by decide +kernel
theorem dX5_more_21 : decode cX5_more 21 = .ok (.istore_n 2, 1) := by decide +kernel
theorem dX5_more_22 : decode cX5_more 22 = .ok (.aload_n 0, 1) := by decide +kernel
theorem dX5_more_23 : decode cX5_more 23 = .ok (.getfield 13, 3) := by decide +kernel
theorem dX5_more_26 : decode cX5_more 26 = .ok (.iload_n 2, 1) := by decide +kernel
theorem dX5_more_27 : decode cX5_more 27 = .ok (.iaload, 1) := by decide +kernel
theorem dX5_more_28 : decode cX5_more 28 = .ok (.aload_n 0, 1) := by decide +kernel
theorem dX5_more_29 : decode cX5_more 29 = .ok (.getfield 7, 3) := by decide +kernel
theorem dX5_more_32 : decode cX5_more 32 = .ok (.iload_n 2, 1) := by decide +kernel
theorem dX5_more_33 : decode cX5_more 33 = .ok (.iaload, 1) := by decide +kernel
theorem dX5_more_34 : decode cX5_more 34 = .ok (.isub, 1) := by decide +kernel
theorem dX5_more_35 : decode cX5_more 35 = .ok (.ireturn, 1) := by decide +kernel
set_option maxRecDepth 20000 in
theorem ggX5_areTicks_X5_in : GoodIn wsX5_areTicks wsX5_in := goodIn_r _ [4] (by decide +kernel) (by decide +kernel)
set_option maxRecDepth 20000 in
theorem gX5_areTicks_X5_in : GoodIn wsX5_areTicks (va_wsS RX5 40 yX5_in wsX5_in) := goodIn_app (goodIn_of _ (by decide +kernel)) ggX5_areTicks_X5_in
theorem dX5_areTicks_0 : decode cX5_areTicks 0 = .ok (.iload_n 0, 1) := by decide +kernel
theorem dX5_areTicks_1 : decode cX5_areTicks 1 = .ok (.iconst 1, 1) := by decide +kernel
theorem dX5_areTicks_2 : decode cX5_areTicks 2 = .ok (.sipush 999, 3) := by decide +kernel
theorem dX5_areTicks_5 : decode cX5_areTicks 5 = .ok (.invokestatic 40, 3) := by decide +kernel
theorem dX5_areTicks_8 : decode cX5_areTicks 8 = .ok (.ireturn, 1) := by decide +kernel
set_option maxRecDepth 20000 in
theorem ggX5_would_X5_areTicks : GoodIn wsX5_would wsX5_areTicks := goodIn_r _ [5, 6, 7, 4, 8] (by decide +kernel) (by decide +kernel)
set_option maxRecDepth 20000 in
theorem gX5_would_X5_areTicks : GoodIn wsX5_would (va_wsS RX5 127 yX5_areTicks wsX5_areTicks) := goodIn_app (goodIn_of _ (by decide +kernel)) ggX5_would_X5_areTicks
set_option maxRecDepth 20000 in
theorem ggX5_would_X5_in : GoodIn wsX5_would wsX5_in := goodIn_r _ [8] (by decide +kernel) (by decide +kernel)
set_option maxRecDepth 20000 in
theorem gX5_would_X5_in : GoodIn wsX5_would (va_wsS RX5 40 yX5_in wsX5_in) := goodIn_app (goodIn_of _ (by decide +kernel)) ggX5_would_X5_in
set_option maxRecDepth 20000 in
theorem ggX5_would_X5_tries : GoodIn wsX5_would wsX5_tries := goodIn_r _ [12, 13, 1, 14, 15, 4, 16, 57, 58, 59, 60, 61, 62, 63, 64, 65, 66, 67] (by decide +kernel) (by decide +kernel)
set_option maxRecDepth 20000 in
theorem gX5_would_X5_tries : GoodIn wsX5_would (wsV RX5 131 RX5 yX5_tries wsX5_tries) := goodIn_app (goodIn_of _ (by decide +kernel)) ggX5_would_X5_tries
set_option maxRecDepth 20000 in
theorem ggX5_would_X5_passes : GoodIn wsX5_would wsX5_passes := goodIn_r _ [19, 20, 21, 4, 22, 23, 24, 25, 26, 27, 28, 29, 30, 31, 32, 33, 34, 35, 36, 37, 38, 39, 40, 41, 42, 43, 44, 45, 46, 47, 48, 49, 50, 51, 52] (by decide +kernel) (by decide +kernel)
set_option maxRecDepth 20000 in
theorem gX5_would_X5_passes : GoodIn wsX5_would (va_wsS RX5 109 yX5_passes wsX5_passes) := goodIn_app (goodIn_of _ (by decide +kernel)) ggX5_would_X5_passes
set_option maxRecDepth 20000 in
theorem ggX5_would_X5_more : GoodIn wsX5_would wsX5_more := goodIn_r _ [56, 1, 13, 57, 58, 59, 60, 61, 62, 63, 64, 65, 66, 67] (by decide +kernel) (by decide +kernel)
set_option maxRecDepth 20000 in
theorem gX5_would_X5_more : GoodIn wsX5_would (wsV RX5 134 RX5 yX5_more wsX5_more) := goodIn_app (goodIn_of _ (by decide +kernel)) ggX5_would_X5_more
theorem dX5_would_0 : decode cX5_would 0 = .ok (.iload_n 1, 1) := by decide +kernel
theorem dX5_would_1 : decode cX5_would 1 = .ok (.invokestatic 127, 3) := by decide +kernel
theorem dX5_would_4 : decode cX5_would 4 = .ok (.ifCond .eq 12, 3) := by decide +kernel
theorem dX5_would_7 : decode cX5_would 7 = .ok (.iload_n 2, 1) := by decide +kernel
theorem dX5_would_8 : decode cX5_would 8 = .ok (.iconst 0, 1) := by decide +kernel
theorem dX5_would_9 : decode cX5_would 9 = .ok (.iconst 2, 1) := by decide +kernel
theorem dX5_would_10 : decode cX5_would 10 = .ok (.invokestatic 40, 3) := by decide +kernel
theorem dX5_would_13 : decode cX5_would 13 = .ok (.ifCond .ne 6, 3) := by decide +kernel
theorem dX5_would_16 : decode cX5_would 16 = .ok (.bipush (-2), 2) := by decide +kernel
theorem dX5_would_18 : decode cX5_would 18 = .ok (.ireturn, 1) := by decide +kernel
theorem dX5_would_19 : decode cX5_would 19 = .ok (.aload_n 0, 1) := by decide +kernel
theorem dX5_would_20 : decode cX5_would 20 = .ok (.invokevirtual 131, 3) := by decide +kernel
theorem dX5_would_23 : decode cX5_would 23 = .ok (.aload_n 0, 1) := by decide +kernel
theorem dX5_would_24 : decode cX5_would 24 = .ok (.getfield 13, 3) := by decide +kernel
theorem dX5_would_27 : decode cX5_would 27 = .ok (.iload_n 1, 1) := by decide +kernel
theorem dX5_would_28 : decode cX5_would 28 = .ok (.invokestatic 109, 3) := by decide +kernel
theorem dX5_would_31 : decode cX5_would 31 = .ok (.aload_n 0, 1) := by decide +kernel
theorem dX5_would_32 : decode cX5_would 32 = .ok (.iload_n 2, 1) := by decide +kernel
theorem dX5_would_33 : decode cX5_would 33 = .ok (.invokevirtual 134, 3) := by decide +kernel
theorem dX5_would_36 : decode cX5_would 36 = .ok (.ireturn, 1) := by decide +kernel
set_option maxRecDepth 20000 in
theorem ggX5_leastRoom_X5_areTicks : GoodIn wsX5_leastRoom wsX5_areTicks := goodIn_r _ [6, 7, 8, 5, 9] (by decide +kernel) (by decide +kernel)
set_option maxRecDepth 20000 in
theorem gX5_leastRoom_X5_areTicks : GoodIn wsX5_leastRoom (va_wsS RX5 127 yX5_areTicks wsX5_areTicks) := goodIn_app (goodIn_of _ (by decide +kernel)) ggX5_leastRoom_X5_areTicks
set_option maxRecDepth 20000 in
theorem ggX5_leastRoom_X5_tries : GoodIn wsX5_leastRoom wsX5_tries := goodIn_r _ [13, 1, 2, 14, 15, 5, 16, 57, 58, 59, 60, 61, 62, 63, 64, 65, 66, 67] (by decide +kernel) (by decide +kernel)
set_option maxRecDepth 20000 in
theorem gX5_leastRoom_X5_tries : GoodIn wsX5_leastRoom (wsV RX5 131 RX5 yX5_tries wsX5_tries) := goodIn_app (goodIn_of _ (by decide +kernel)) ggX5_leastRoom_X5_tries
set_option maxRecDepth 20000 in
theorem ggX5_leastRoom_X5_passes : GoodIn wsX5_leastRoom wsX5_passes := goodIn_r _ [19, 20, 21, 5, 22, 23, 24, 25, 26, 27, 28, 29, 30, 31, 32, 33, 34, 35, 36, 37, 38, 39, 40, 41, 42, 43, 44, 45, 46, 47, 48, 49, 50, 51, 52] (by decide +kernel) (by decide +kernel)
set_option maxRecDepth 20000 in
theorem gX5_leastRoom_X5_passes : GoodIn wsX5_leastRoom (va_wsS RX5 109 yX5_passes wsX5_passes) := goodIn_app (goodIn_of _ (by decide +kernel)) ggX5_leastRoom_X5_passes
set_option maxRecDepth 20000 in
theorem ggX5_leastRoom_X5_more : GoodIn wsX5_leastRoom wsX5_more := goodIn_r _ [56, 2, 1, 57, 58, 59, 60, 61, 62, 63, 64, 65, 66, 67] (by decide +kernel) (by decide +kernel)
set_option maxRecDepth 20000 in
theorem gX5_leastRoom_X5_more : GoodIn wsX5_leastRoom (wsV RX5 134 RX5 yX5_more wsX5_more) := goodIn_app (goodIn_of _ (by decide +kernel)) ggX5_leastRoom_X5_more
theorem dX5_leastRoom_0 : decode cX5_leastRoom 0 = .ok (.iload_n 1, 1) := by decide +kernel
theorem dX5_leastRoom_1 : decode cX5_leastRoom 1 = .ok (.invokestatic 127, 3) := by decide +kernel
theorem dX5_leastRoom_4 : decode cX5_leastRoom 4 = .ok (.ifCond .ne 6, 3) := by decide +kernel
theorem dX5_leastRoom_7 : decode cX5_leastRoom 7 = .ok (.bipush (-2), 2) := by decide +kernel
theorem dX5_leastRoom_9 : decode cX5_leastRoom 9 = .ok (.ireturn, 1) := by decide +kernel
theorem dX5_leastRoom_10 : decode cX5_leastRoom 10 = .ok (.aload_n 0, 1) := by decide +kernel
theorem dX5_leastRoom_11 : decode cX5_leastRoom 11 = .ok (.getfield 7, 3) := by decide +kernel
theorem dX5_leastRoom_14 : decode cX5_leastRoom 14 = .ok (.bipush 10, 2) := by decide +kernel
theorem dX5_leastRoom_16 : decode cX5_leastRoom 16 = .ok (.iaload, 1) := by decide +kernel
theorem dX5_leastRoom_17 : decode cX5_leastRoom 17 = .ok (.iconst 1, 1) := by decide +kernel
theorem dX5_leastRoom_18 : decode cX5_leastRoom 18 = .ok (.if_icmp .le 13, 3) := by decide +kernel
theorem dX5_leastRoom_21 : decode cX5_leastRoom 21 = .ok (.aload_n 0, 1) := by decide +kernel
theorem dX5_leastRoom_22 : decode cX5_leastRoom 22 = .ok (.getfield 7, 3) := by decide +kernel
theorem dX5_leastRoom_25 : decode cX5_leastRoom 25 = .ok (.bipush 10, 2) := by decide +kernel
theorem dX5_leastRoom_27 : decode cX5_leastRoom 27 = .ok (.iaload, 1) := by decide +kernel
theorem dX5_leastRoom_28 : decode cX5_leastRoom 28 = .ok (.goto 4, 3) := by decide +kernel
theorem dX5_leastRoom_31 : decode cX5_leastRoom 31 = .ok (.iconst 1, 1) := by decide +kernel
theorem dX5_leastRoom_32 : decode cX5_leastRoom 32 = .ok (.istore_n 2, 1) := by decide +kernel
theorem dX5_leastRoom_33 : decode cX5_leastRoom 33 = .ok (.iload_n 2, 1) := by decide +kernel
theorem dX5_leastRoom_34 : decode cX5_leastRoom 34 = .ok (.bipush 16, 2) := by decide +kernel
theorem dX5_leastRoom_36 : decode cX5_leastRoom 36 = .ok (.if_icmp .gt 38, 3) := by decide +kernel
theorem dX5_leastRoom_39 : decode cX5_leastRoom 39 = .ok (.aload_n 0, 1) := by decide +kernel
theorem dX5_leastRoom_40 : decode cX5_leastRoom 40 = .ok (.invokevirtual 131, 3) := by decide +kernel
theorem dX5_leastRoom_43 : decode cX5_leastRoom 43 = .ok (.aload_n 0, 1) := by decide +kernel
theorem dX5_leastRoom_44 : decode cX5_leastRoom 44 = .ok (.getfield 13, 3) := by decide +kernel
theorem dX5_leastRoom_47 : decode cX5_leastRoom 47 = .ok (.iconst 3, 1) := by decide +kernel
theorem dX5_leastRoom_48 : decode cX5_leastRoom 48 = .ok (.iload_n 2, 1) := by decide +kernel
theorem dX5_leastRoom_49 : decode cX5_leastRoom 49 = .ok (.iastore, 1) := by decide +kernel
theorem dX5_leastRoom_50 : decode cX5_leastRoom 50 = .ok (.aload_n 0, 1) := by decide +kernel
theorem dX5_leastRoom_51 : decode cX5_leastRoom 51 = .ok (.getfield 13, 3) := by decide +kernel
theorem dX5_leastRoom_54 : decode cX5_leastRoom 54 = .ok (.iload_n 1, 1) := by decide +kernel
theorem dX5_leastRoom_55 : decode cX5_leastRoom 55 = .ok (.invokestatic 109, 3) := by decide +kernel
theorem dX5_leastRoom_58 : decode cX5_leastRoom 58 = .ok (.aload_n 0, 1) := by decide +kernel
theorem dX5_leastRoom_59 : decode cX5_leastRoom 59 = .ok (.iconst 0, 1) := by decide +kernel
theorem dX5_leastRoom_60 : decode cX5_leastRoom 60 = .ok (.invokevirtual 134, 3) := by decide +kernel
theorem dX5_leastRoom_63 : decode cX5_leastRoom 63 = .ok (.ifCond .ne 5, 3) := by decide +kernel
theorem dX5_leastRoom_66 : decode cX5_leastRoom 66 = .ok (.iload_n 2, 1) := by decide +kernel
theorem dX5_leastRoom_67 : decode cX5_leastRoom 67 = .ok (.ireturn, 1) := by decide +kernel
theorem dX5_leastRoom_68 : decode cX5_leastRoom 68 = .ok (.iinc 2 1, 3) := by decide +kernel
theorem dX5_leastRoom_71 : decode cX5_leastRoom 71 = .ok (.goto (-38), 3) := by decide +kernel
theorem dX5_leastRoom_74 : decode cX5_leastRoom 74 = .ok (.bipush (-6), 2) := by decide +kernel
theorem dX5_leastRoom_76 : decode cX5_leastRoom 76 = .ok (.ireturn, 1) := by decide +kernel
set_option maxRecDepth 20000 in
theorem ggX5_bestOut_X5_areTicks : GoodIn wsX5_bestOut wsX5_areTicks := goodIn_r _ [5, 6, 7, 4, 8] (by decide +kernel) (by decide +kernel)
set_option maxRecDepth 20000 in
theorem gX5_bestOut_X5_areTicks : GoodIn wsX5_bestOut (va_wsS RX5 127 yX5_areTicks wsX5_areTicks) := goodIn_app (goodIn_of _ (by decide +kernel)) ggX5_bestOut_X5_areTicks
set_option maxRecDepth 20000 in
theorem ggX5_bestOut_X5_in : GoodIn wsX5_bestOut wsX5_in := goodIn_r _ [8] (by decide +kernel) (by decide +kernel)
set_option maxRecDepth 20000 in
theorem gX5_bestOut_X5_in : GoodIn wsX5_bestOut (va_wsS RX5 40 yX5_in wsX5_in) := goodIn_app (goodIn_of _ (by decide +kernel)) ggX5_bestOut_X5_in
set_option maxRecDepth 20000 in
theorem ggX5_bestOut_X5_tries : GoodIn wsX5_bestOut wsX5_tries := goodIn_r _ [12, 13, 1, 14, 15, 4, 16, 57, 58, 59, 60, 61, 62, 63, 64, 65, 66, 67] (by decide +kernel) (by decide +kernel)
set_option maxRecDepth 20000 in
theorem gX5_bestOut_X5_tries : GoodIn wsX5_bestOut (wsV RX5 131 RX5 yX5_tries wsX5_tries) := goodIn_app (goodIn_of _ (by decide +kernel)) ggX5_bestOut_X5_tries
set_option maxRecDepth 20000 in
theorem ggX5_bestOut_X5_passes : GoodIn wsX5_bestOut wsX5_passes := goodIn_r _ [19, 20, 21, 4, 22, 23, 24, 25, 26, 27, 28, 29, 30, 31, 32, 33, 34, 35, 36, 37, 38, 39, 40, 41, 42, 43, 44, 45, 46, 47, 48, 49, 50, 51, 52] (by decide +kernel) (by decide +kernel)
set_option maxRecDepth 20000 in
theorem gX5_bestOut_X5_passes : GoodIn wsX5_bestOut (va_wsS RX5 109 yX5_passes wsX5_passes) := goodIn_app (goodIn_of _ (by decide +kernel)) ggX5_bestOut_X5_passes
set_option maxRecDepth 20000 in
theorem ggX5_bestOut_X5_more : GoodIn wsX5_bestOut wsX5_more := goodIn_r _ [56, 1, 13, 57, 58, 59, 60, 61, 62, 63, 64, 65, 66, 67] (by decide +kernel) (by decide +kernel)
set_option maxRecDepth 20000 in
theorem gX5_bestOut_X5_more : GoodIn wsX5_bestOut (wsV RX5 134 RX5 yX5_more wsX5_more) := goodIn_app (goodIn_of _ (by decide +kernel)) ggX5_bestOut_X5_more
theorem dX5_bestOut_0 : decode cX5_bestOut 0 = .ok (.iload_n 1, 1) := by decide +kernel
theorem dX5_bestOut_1 : decode cX5_bestOut 1 = .ok (.invokestatic 127, 3) := by decide +kernel
theorem dX5_bestOut_4 : decode cX5_bestOut 4 = .ok (.ifCond .eq 12, 3) := by decide +kernel
theorem dX5_bestOut_7 : decode cX5_bestOut 7 = .ok (.iload_n 2, 1) := by decide +kernel
theorem dX5_bestOut_8 : decode cX5_bestOut 8 = .ok (.iconst 0, 1) := by decide +kernel
theorem dX5_bestOut_9 : decode cX5_bestOut 9 = .ok (.iconst 1, 1) := by decide +kernel
theorem dX5_bestOut_10 : decode cX5_bestOut 10 = .ok (.invokestatic 40, 3) := by decide +kernel
theorem dX5_bestOut_13 : decode cX5_bestOut 13 = .ok (.ifCond .ne 6, 3) := by decide +kernel
theorem dX5_bestOut_16 : decode cX5_bestOut 16 = .ok (.bipush (-2), 2) := by decide +kernel
theorem dX5_bestOut_18 : decode cX5_bestOut 18 = .ok (.ireturn, 1) := by decide +kernel
theorem dX5_bestOut_19 : decode cX5_bestOut 19 = .ok (.iconst 0, 1) := by decide +kernel
theorem dX5_bestOut_20 : decode cX5_bestOut 20 = .ok (.istore_n 3, 1) := by decide +kernel
theorem dX5_bestOut_21 : decode cX5_bestOut 21 = .ok (.iconst 0, 1) := by decide +kernel
theorem dX5_bestOut_22 : decode cX5_bestOut 22 = .ok (.istore 4, 2) := by decide +kernel
theorem dX5_bestOut_24 : decode cX5_bestOut 24 = .ok (.iconst 1, 1) := by decide +kernel
theorem dX5_bestOut_25 : decode cX5_bestOut 25 = .ok (.istore 5, 2) := by decide +kernel
theorem dX5_bestOut_27 : decode cX5_bestOut 27 = .ok (.iload 5, 2) := by decide +kernel
theorem dX5_bestOut_29 : decode cX5_bestOut 29 = .ok (.bipush 99, 2) := by decide +kernel
theorem dX5_bestOut_31 : decode cX5_bestOut 31 = .ok (.if_icmp .gt 60, 3) := by decide +kernel
theorem dX5_bestOut_34 : decode cX5_bestOut 34 = .ok (.aload_n 0, 1) := by decide +kernel
theorem dX5_bestOut_35 : decode cX5_bestOut 35 = .ok (.invokevirtual 131, 3) := by decide +kernel
theorem dX5_bestOut_38 : decode cX5_bestOut 38 = .ok (.aload_n 0, 1) := by decide +kernel
theorem dX5_bestOut_39 : decode cX5_bestOut 39 = .ok (.getfield 13, 3) := by decide +kernel
theorem dX5_bestOut_42 : decode cX5_bestOut 42 = .ok (.iconst 2, 1) := by decide +kernel
theorem dX5_bestOut_43 : decode cX5_bestOut 43 = .ok (.iload 5, 2) := by decide +kernel
theorem dX5_bestOut_45 : decode cX5_bestOut 45 = .ok (.iastore, 1) := by decide +kernel
theorem dX5_bestOut_46 : decode cX5_bestOut 46 = .ok (.aload_n 0, 1) := by decide +kernel
theorem dX5_bestOut_47 : decode cX5_bestOut 47 = .ok (.getfield 13, 3) := by decide +kernel
theorem dX5_bestOut_50 : decode cX5_bestOut 50 = .ok (.iload_n 1, 1) := by decide +kernel
theorem dX5_bestOut_51 : decode cX5_bestOut 51 = .ok (.invokestatic 109, 3) := by decide +kernel
theorem dX5_bestOut_54 : decode cX5_bestOut 54 = .ok (.aload_n 0, 1) := by decide +kernel
theorem dX5_bestOut_55 : decode cX5_bestOut 55 = .ok (.iconst 0, 1) := by decide +kernel
theorem dX5_bestOut_56 : decode cX5_bestOut 56 = .ok (.invokevirtual 134, 3) := by decide +kernel
theorem dX5_bestOut_59 : decode cX5_bestOut 59 = .ok (.aload_n 0, 1) := by decide +kernel
theorem dX5_bestOut_60 : decode cX5_bestOut 60 = .ok (.iconst 1, 1) := by decide +kernel
theorem dX5_bestOut_61 : decode cX5_bestOut 61 = .ok (.invokevirtual 134, 3) := by decide +kernel
theorem dX5_bestOut_64 : decode cX5_bestOut 64 = .ok (.iadd, 1) := by decide +kernel
theorem dX5_bestOut_65 : decode cX5_bestOut 65 = .ok (.istore 6, 2) := by decide +kernel
theorem dX5_bestOut_67 : decode cX5_bestOut 67 = .ok (.iload_n 3, 1) := by decide +kernel
theorem dX5_bestOut_68 : decode cX5_bestOut 68 = .ok (.ifCond .eq 10, 3) := by decide +kernel
theorem dX5_bestOut_71 : decode cX5_bestOut 71 = .ok (.iload 6, 2) := by decide +kernel
theorem dX5_bestOut_73 : decode cX5_bestOut 73 = .ok (.iload 4, 2) := by decide +kernel
theorem dX5_bestOut_75 : decode cX5_bestOut 75 = .ok (.if_icmp .ge 10, 3) := by decide +kernel
theorem dX5_bestOut_78 : decode cX5_bestOut 78 = .ok (.iload 5, 2) := by decide +kernel
theorem dX5_bestOut_80 : decode cX5_bestOut 80 = .ok (.istore_n 3, 1) := by decide +kernel
theorem dX5_bestOut_81 : decode cX5_bestOut 81 = .ok (.iload 6, 2) := by decide +kernel
theorem dX5_bestOut_83 : decode cX5_bestOut 83 = .ok (.istore 4, 2) := by decide +kernel
theorem dX5_bestOut_85 : decode cX5_bestOut 85 = .ok (.iinc 5 1, 3) := by decide +kernel
theorem dX5_bestOut_88 : decode cX5_bestOut 88 = .ok (.goto (-61), 3) := by decide +kernel
theorem dX5_bestOut_91 : decode cX5_bestOut 91 = .ok (.iload_n 2, 1) := by decide +kernel
theorem dX5_bestOut_92 : decode cX5_bestOut 92 = .ok (.ifCond .ne 7, 3) := by decide +kernel
theorem dX5_bestOut_95 : decode cX5_bestOut 95 = .ok (.iload_n 3, 1) := by decide +kernel
theorem dX5_bestOut_96 : decode cX5_bestOut 96 = .ok (.goto 5, 3) := by decide +kernel
theorem dX5_bestOut_99 : decode cX5_bestOut 99 = .ok (.iload 4, 2) := by decide +kernel
theorem dX5_bestOut_101 : decode cX5_bestOut 101 = .ok (.ireturn, 1) := by decide +kernel
theorem dX5_byteOf_0 : decode cX5_byteOf 0 = .ok (.lload_n 0, 1) := by decide +kernel
theorem dX5_byteOf_1 : decode cX5_byteOf 1 = .ok (.bipush 8, 2) := by decide +kernel
theorem dX5_byteOf_3 : decode cX5_byteOf 3 = .ok (.iload_n 2, 1) := by decide +kernel
theorem dX5_byteOf_4 : decode cX5_byteOf 4 = .ok (.imul, 1) := by decide +kernel
theorem dX5_byteOf_5 : decode cX5_byteOf 5 = .ok (.lshr, 1) := by decide +kernel
theorem dX5_byteOf_6 : decode cX5_byteOf 6 = .ok (.ldc2_w 137, 3) := by decide +kernel
theorem dX5_byteOf_9 : decode cX5_byteOf 9 = .ok (.land, 1) := by decide +kernel
theorem dX5_byteOf_10 : decode cX5_byteOf 10 = .ok (.l2i, 1) := by decide +kernel
theorem dX5_byteOf_11 : decode cX5_byteOf 11 = .ok (.ireturn, 1) := by decide +kernel
set_option maxRecDepth 20000 in
theorem ggX5_toldBy_X5_byteOf : GoodIn wsX5_toldBy wsX5_byteOf := goodIn_r _ [4, 5] (by decide +kernel) (by decide +kernel)
set_option maxRecDepth 20000 in
theorem gX5_toldBy_X5_byteOf : GoodIn wsX5_toldBy (va_wsS RX5 139 yX5_byteOf wsX5_byteOf) := goodIn_app (goodIn_of _ (by decide +kernel)) ggX5_toldBy_X5_byteOf
set_option maxRecDepth 20000 in
theorem ggX5_toldBy_X5_in : GoodIn wsX5_toldBy wsX5_in := goodIn_r _ [8] (by decide +kernel) (by decide +kernel)
set_option maxRecDepth 20000 in
theorem gX5_toldBy_X5_in : GoodIn wsX5_toldBy (va_wsS RX5 40 yX5_in wsX5_in) := goodIn_app (goodIn_of _ (by decide +kernel)) ggX5_toldBy_X5_in
theorem dX5_toldBy_0 : decode cX5_toldBy 0 = .ok (.iconst 0, 1) := by decide +kernel
theorem dX5_toldBy_1 : decode cX5_toldBy 1 = .ok (.istore_n 2, 1) := by decide +kernel
theorem dX5_toldBy_2 : decode cX5_toldBy 2 = .ok (.iload_n 2, 1) := by decide +kernel
theorem dX5_toldBy_3 : decode cX5_toldBy 3 = .ok (.bipush 8, 2) := by decide +kernel
theorem dX5_toldBy_5 : decode cX5_toldBy 5 = .ok (.if_icmp .ge 35, 3) := by decide +kernel
theorem dX5_toldBy_8 : decode cX5_toldBy 8 = .ok (.lload_n 0, 1) := by decide +kernel
theorem dX5_toldBy_9 : decode cX5_toldBy 9 = .ok (.iload_n 2, 1) := by decide +kernel
theorem dX5_toldBy_10 : decode cX5_toldBy 10 = .ok (.invokestatic 139, 3) := by decide +kernel
theorem dX5_toldBy_13 : decode cX5_toldBy 13 = .ok (.ifCond .eq 27, 3) := by decide +kernel
theorem dX5_toldBy_16 : decode cX5_toldBy 16 = .ok (.lload_n 0, 1) := by decide +kernel
theorem dX5_toldBy_17 : decode cX5_toldBy 17 = .ok (.iload_n 2, 1) := by decide +kernel
theorem dX5_toldBy_18 : decode cX5_toldBy 18 = .ok (.invokestatic 139, 3) := by decide +kernel
theorem dX5_toldBy_21 : decode cX5_toldBy 21 = .ok (.bipush 33, 2) := by decide +kernel
theorem dX5_toldBy_23 : decode cX5_toldBy 23 = .ok (.bipush 126, 2) := by decide +kernel
theorem dX5_toldBy_25 : decode cX5_toldBy 25 = .ok (.invokestatic 40, 3) := by decide +kernel
theorem dX5_toldBy_28 : decode cX5_toldBy 28 = .ok (.ifCond .ne 6, 3) := by decide +kernel
theorem dX5_toldBy_31 : decode cX5_toldBy 31 = .ok (.bipush (-2), 2) := by decide +kernel
theorem dX5_toldBy_33 : decode cX5_toldBy 33 = .ok (.ireturn, 1) := by decide +kernel
theorem dX5_toldBy_34 : decode cX5_toldBy 34 = .ok (.iinc 2 1, 3) := by decide +kernel
theorem dX5_toldBy_37 : decode cX5_toldBy 37 = .ok (.goto (-35), 3) := by decide +kernel
theorem dX5_toldBy_40 : decode cX5_toldBy 40 = .ok (.iload_n 2, 1) := by decide +kernel
theorem dX5_toldBy_41 : decode cX5_toldBy 41 = .ok (.istore_n 3, 1) := by decide +kernel
theorem dX5_toldBy_42 : decode cX5_toldBy 42 = .ok (.iload_n 3, 1) := by decide +kernel
theorem dX5_toldBy_43 : decode cX5_toldBy 43 = .ok (.bipush 8, 2) := by decide +kernel
theorem dX5_toldBy_45 : decode cX5_toldBy 45 = .ok (.if_icmp .ge 20, 3) := by decide +kernel
theorem dX5_toldBy_48 : decode cX5_toldBy 48 = .ok (.lload_n 0, 1) := by decide +kernel
theorem dX5_toldBy_49 : decode cX5_toldBy 49 = .ok (.iload_n 3, 1) := by decide +kernel
theorem dX5_toldBy_50 : decode cX5_toldBy 50 = .ok (.invokestatic 139, 3) := by decide +kernel
theorem dX5_toldBy_53 : decode cX5_toldBy 53 = .ok (.ifCond .eq 6, 3) := by decide +kernel
theorem dX5_toldBy_56 : decode cX5_toldBy 56 = .ok (.bipush (-2), 2) := by decide +kernel
theorem dX5_toldBy_58 : decode cX5_toldBy 58 = .ok (.ireturn, 1) := by decide +kernel
theorem dX5_toldBy_59 : decode cX5_toldBy 59 = .ok (.iinc 3 1, 3) := by decide +kernel
theorem dX5_toldBy_62 : decode cX5_toldBy 62 = .ok (.goto (-20), 3) := by decide +kernel
theorem dX5_toldBy_65 : decode cX5_toldBy 65 = .ok (.iload_n 2, 1) := by decide +kernel
theorem dX5_toldBy_66 : decode cX5_toldBy 66 = .ok (.ifCond .ne 8, 3) := by decide +kernel
theorem dX5_toldBy_69 : decode cX5_toldBy 69 = .ok (.bipush (-2), 2) := by decide +kernel
theorem dX5_toldBy_71 : decode cX5_toldBy 71 = .ok (.goto 4, 3) := by decide +kernel
theorem dX5_toldBy_74 : decode cX5_toldBy 74 = .ok (.iload_n 2, 1) := by decide +kernel
theorem dX5_toldBy_75 : decode cX5_toldBy 75 = .ok (.ireturn, 1) := by decide +kernel
set_option maxRecDepth 20000 in
theorem ggX5_put_X5_toldBy : GoodIn wsX5_put wsX5_toldBy := goodIn_r _ [6, 7, 8, 5, 9, 10, 11, 12, 13] (by decide +kernel) (by decide +kernel)
set_option maxRecDepth 20000 in
theorem gX5_put_X5_toldBy : GoodIn wsX5_put (va_wsS RX5 143 yX5_toldBy wsX5_toldBy) := goodIn_app (goodIn_of _ (by decide +kernel)) ggX5_put_X5_toldBy
set_option maxRecDepth 20000 in
theorem ggX5_put_X5_byteOf : GoodIn wsX5_put wsX5_byteOf := goodIn_r _ [9, 10] (by decide +kernel) (by decide +kernel)
set_option maxRecDepth 20000 in
theorem gX5_put_X5_byteOf : GoodIn wsX5_put (va_wsS RX5 139 yX5_byteOf wsX5_byteOf) := goodIn_app (goodIn_of _ (by decide +kernel)) ggX5_put_X5_byteOf
theorem dX5_put_0 : decode cX5_put 0 = .ok (.lload_n 1, 1) := by decide +kernel
theorem dX5_put_1 : decode cX5_put 1 = .ok (.invokestatic 143, 3) := by decide +kernel
theorem dX5_put_4 : decode cX5_put 4 = .ok (.istore_n 3, 1) := by decide +kernel
theorem dX5_put_5 : decode cX5_put 5 = .ok (.iload_n 3, 1) := by decide +kernel
theorem dX5_put_6 : decode cX5_put 6 = .ok (.ifCond .ge 5, 3) := by decide +kernel
theorem dX5_put_9 : decode cX5_put 9 = .ok (.iload_n 3, 1) := by decide +kernel
theorem dX5_put_10 : decode cX5_put 10 = .ok (.ireturn, 1) := by decide +kernel
theorem dX5_put_11 : decode cX5_put 11 = .ok (.aload_n 0, 1) := by decide +kernel
theorem dX5_put_12 : decode cX5_put 12 = .ok (.getfield 112, 3) := by decide +kernel
theorem dX5_put_15 : decode cX5_put 15 = .ok (.iload_n 3, 1) := by decide +kernel
theorem dX5_put_16 : decode cX5_put 16 = .ok (.iadd, 1) := by decide +kernel
theorem dX5_put_17 : decode cX5_put 17 = .ok (.bipush 80, 2) := by decide +kernel
theorem dX5_put_19 : decode cX5_put 19 = .ok (.if_icmp .le 6, 3) := by decide +kernel
theorem dX5_put_22 : decode cX5_put 22 = .ok (.bipush (-4), 2) := by decide +kernel
theorem dX5_put_24 : decode cX5_put 24 = .ok (.ireturn, 1) := by decide +kernel
theorem dX5_put_25 : decode cX5_put 25 = .ok (.iload_n 3, 1) := by decide +kernel
theorem dX5_put_26 : decode cX5_put 26 = .ok (.iconst 1, 1) := by decide +kernel
theorem dX5_put_27 : decode cX5_put 27 = .ok (.isub, 1) := by decide +kernel
theorem dX5_put_28 : decode cX5_put 28 = .ok (.istore 4, 2) := by decide +kernel
theorem dX5_put_30 : decode cX5_put 30 = .ok (.iload 4, 2) := by decide +kernel
theorem dX5_put_32 : decode cX5_put 32 = .ok (.ifCond .lt 34, 3) := by decide +kernel
theorem dX5_put_35 : decode cX5_put 35 = .ok (.aload_n 0, 1) := by decide +kernel
theorem dX5_put_36 : decode cX5_put 36 = .ok (.getfield 26, 3) := by decide +kernel
theorem dX5_put_39 : decode cX5_put 39 = .ok (.aload_n 0, 1) := by decide +kernel
theorem dX5_put_40 : decode cX5_put 40 = .ok (.getfield 112, 3) := by decide +kernel
theorem dX5_put_43 : decode cX5_put 43 = .ok (.lload_n 1, 1) := by decide +kernel
theorem dX5_put_44 : decode cX5_put 44 = .ok (.iload 4, 2) := by decide +kernel
theorem dX5_put_46 : decode cX5_put 46 = .ok (.invokestatic 139, 3) := by decide +kernel
theorem dX5_put_49 : decode cX5_put 49 = .ok (.iastore, 1) := by decide +kernel
theorem dX5_put_50 : decode cX5_put 50 = .ok (.aload_n 0, 1) := by decide +kernel
theorem dX5_put_51 : decode cX5_put 51 = .ok (.dup, 1) := by decide +kernel
theorem dX5_put_52 : decode cX5_put 52 = .ok (.getfield 112, 3) := by decide +kernel
theorem dX5_put_55 : decode cX5_put 55 = .ok (.iconst 1, 1) := by decide +kernel
theorem dX5_put_56 : decode cX5_put 56 = .ok (.iadd, 1) := by decide +kernel
theorem dX5_put_57 : decode cX5_put 57 = .ok (.putfield 112, 3) := by decide +kernel
theorem dX5_put_60 : decode cX5_put 60 = .ok (.iinc 4 (-1), 3) := by decide +kernel
theorem dX5_put_63 : decode cX5_put 63 = .ok (.goto (-33), 3) := by decide +kernel
theorem dX5_put_66 : decode cX5_put 66 = .ok (.aload_n 0, 1) := by decide +kernel
theorem dX5_put_67 : decode cX5_put 67 = .ok (.getfield 112, 3) := by decide +kernel
theorem dX5_put_70 : decode cX5_put 70 = .ok (.ireturn, 1) := by decide +kernel
theorem dX5_wipe_0 : decode cX5_wipe 0 = .ok (.aload_n 0, 1) := by decide +kernel
theorem dX5_wipe_1 : decode cX5_wipe 1 = .ok (.getfield 112, 3) := by decide +kernel
theorem dX5_wipe_4 : decode cX5_wipe 4 = .ok (.istore_n 1, 1) := by decide +kernel
theorem dX5_wipe_5 : decode cX5_wipe 5 = .ok (.aload_n 0, 1) := by decide +kernel
theorem dX5_wipe_6 : decode cX5_wipe 6 = .ok (.iconst 0, 1) := by decide +kernel
theorem dX5_wipe_7 : decode cX5_wipe 7 = .ok (.putfield 112, 3) := by decide +kernel
theorem dX5_wipe_10 : decode cX5_wipe 10 = .ok (.iload_n 1, 1) := by decide +kernel
theorem dX5_wipe_11 : decode cX5_wipe 11 = .ok (.ireturn, 1) := by decide +kernel
set_option maxRecDepth 20000 in
theorem ggX5_isAt_X5_in : GoodIn wsX5_isAt wsX5_in := goodIn_r _ [7] (by decide +kernel) (by decide +kernel)
set_option maxRecDepth 20000 in
theorem gX5_isAt_X5_in : GoodIn wsX5_isAt (va_wsS RX5 40 yX5_in wsX5_in) := goodIn_app (goodIn_of _ (by decide +kernel)) ggX5_isAt_X5_in
theorem dX5_isAt_0 : decode cX5_isAt 0 = .ok (.aload_n 0, 1) := by decide +kernel
theorem dX5_isAt_1 : decode cX5_isAt 1 = .ok (.getfield 147, 3) := by decide +kernel
theorem dX5_isAt_4 : decode cX5_isAt 4 = .ok (.aload_n 0, 1) := by decide +kernel
theorem dX5_isAt_5 : decode cX5_isAt 5 = .ok (.getfield 112, 3) := by decide +kernel
theorem dX5_isAt_8 : decode cX5_isAt 8 = .ok (.if_icmp .ge 24, 3) := by decide +kernel
theorem dX5_isAt_11 : decode cX5_isAt 11 = .ok (.aload_n 0, 1) := by decide +kernel
theorem dX5_isAt_12 : decode cX5_isAt 12 = .ok (.getfield 26, 3) := by decide +kernel
theorem dX5_isAt_15 : decode cX5_isAt 15 = .ok (.aload_n 0, 1) := by decide +kernel
theorem dX5_isAt_16 : decode cX5_isAt 16 = .ok (.getfield 147, 3) := by decide +kernel
theorem dX5_isAt_19 : decode cX5_isAt 19 = .ok (.iaload, 1) := by decide +kernel
theorem dX5_isAt_20 : decode cX5_isAt 20 = .ok (.iload_n 1, 1) := by decide +kernel
theorem dX5_isAt_21 : decode cX5_isAt 21 = .ok (.iload_n 2, 1) := by decide +kernel
theorem dX5_isAt_22 : decode cX5_isAt 22 = .ok (.invokestatic 40, 3) := by decide +kernel
theorem dX5_isAt_25 : decode cX5_isAt 25 = .ok (.ifCond .eq 7, 3) := by decide +kernel
theorem dX5_isAt_28 : decode cX5_isAt 28 = .ok (.iconst 1, 1) := by decide +kernel
theorem dX5_isAt_29 : decode cX5_isAt 29 = .ok (.goto 4, 3) := by decide +kernel
theorem dX5_isAt_32 : decode cX5_isAt 32 = .ok (.iconst 0, 1) := by decide +kernel
theorem dX5_isAt_33 : decode cX5_isAt 33 = .ok (.ireturn, 1) := by decide +kernel
set_option maxRecDepth 20000 in
theorem ggX5_isSign_X5_isAt : GoodIn wsX5_isSign wsX5_isAt := goodIn_r _ [6, 1, 7, 8, 9, 10, 5, 11, 12, 13, 14, 15, 16, 17, 18, 19, 20, 21, 22] (by decide +kernel) (by decide +kernel)
set_option maxRecDepth 20000 in
theorem gX5_isSign_X5_isAt : GoodIn wsX5_isSign (wsV RX5 150 RX5 yX5_isAt wsX5_isAt) := goodIn_app (goodIn_of _ (by decide +kernel)) ggX5_isSign_X5_isAt
theorem dX5_isSign_0 : decode cX5_isSign 0 = .ok (.aload_n 0, 1) := by decide +kernel
theorem dX5_isSign_1 : decode cX5_isSign 1 = .ok (.iload_n 1, 1) := by decide +kernel
theorem dX5_isSign_2 : decode cX5_isSign 2 = .ok (.iload_n 1, 1) := by decide +kernel
theorem dX5_isSign_3 : decode cX5_isSign 3 = .ok (.invokevirtual 150, 3) := by decide +kernel
theorem dX5_isSign_6 : decode cX5_isSign 6 = .ok (.istore_n 2, 1) := by decide +kernel
theorem dX5_isSign_7 : decode cX5_isSign 7 = .ok (.aload_n 0, 1) := by decide +kernel
theorem dX5_isSign_8 : decode cX5_isSign 8 = .ok (.dup, 1) := by decide +kernel
theorem dX5_isSign_9 : decode cX5_isSign 9 = .ok (.getfield 147, 3) := by decide +kernel
theorem dX5_isSign_12 : decode cX5_isSign 12 = .ok (.iload_n 2, 1) := by decide +kernel
theorem dX5_isSign_13 : decode cX5_isSign 13 = .ok (.ifCond .eq 7, 3) := by decide +kernel
theorem dX5_isSign_16 : decode cX5_isSign 16 = .ok (.iconst 1, 1) := by decide +kernel
theorem dX5_isSign_17 : decode cX5_isSign 17 = .ok (.goto 4, 3) := by decide +kernel
theorem dX5_isSign_20 : decode cX5_isSign 20 = .ok (.iconst 0, 1) := by decide +kernel
theorem dX5_isSign_21 : decode cX5_isSign 21 = .ok (.iadd, 1) := by decide +kernel
theorem dX5_isSign_22 : decode cX5_isSign 22 = .ok (.putfield 147, 3) := by decide +kernel
theorem dX5_isSign_25 : decode cX5_isSign 25 = .ok (.iload_n 2, 1) := by decide +kernel
theorem dX5_isSign_26 : decode cX5_isSign 26 = .ok (.ireturn, 1) := by decide +kernel
set_option maxRecDepth 20000 in
theorem ggX5_isNumber_X5_isAt : GoodIn wsX5_isNumber wsX5_isAt := goodIn_r _ [9, 2, 10, 1, 11, 12, 8, 13, 14, 15, 16, 17, 18, 19, 20, 21, 22, 23, 24] (by decide +kernel) (by decide +kernel)
set_option maxRecDepth 20000 in
theorem gX5_isNumber_X5_isAt : GoodIn wsX5_isNumber (wsV RX5 150 RX5 yX5_isAt wsX5_isAt) := goodIn_app (goodIn_of _ (by decide +kernel)) ggX5_isNumber_X5_isAt
theorem dX5_isNumber_0 : decode cX5_isNumber 0 = .ok (.aload_n 0, 1) := by decide +kernel
theorem dX5_isNumber_1 : decode cX5_isNumber 1 = .ok (.bipush 48, 2) := by decide +kernel
theorem dX5_isNumber_3 : decode cX5_isNumber 3 = .ok (.bipush 57, 2) := by decide +kernel
theorem dX5_isNumber_5 : decode cX5_isNumber 5 = .ok (.invokevirtual 150, 3) := by decide +kernel
theorem dX5_isNumber_8 : decode cX5_isNumber 8 = .ok (.ifCond .ne 5, 3) := by decide +kernel
theorem dX5_isNumber_11 : decode cX5_isNumber 11 = .ok (.iconst 0, 1) := by decide +kernel
theorem dX5_isNumber_12 : decode cX5_isNumber 12 = .ok (.ireturn, 1) := by decide +kernel
theorem dX5_isNumber_13 : decode cX5_isNumber 13 = .ok (.aload_n 0, 1) := by decide +kernel
theorem dX5_isNumber_14 : decode cX5_isNumber 14 = .ok (.getfield 26, 3) := by decide +kernel
theorem dX5_isNumber_17 : decode cX5_isNumber 17 = .ok (.aload_n 0, 1) := by decide +kernel
theorem dX5_isNumber_18 : decode cX5_isNumber 18 = .ok (.getfield 147, 3) := by decide +kernel
theorem dX5_isNumber_21 : decode cX5_isNumber 21 = .ok (.iaload, 1) := by decide +kernel
theorem dX5_isNumber_22 : decode cX5_isNumber 22 = .ok (.bipush 48, 2) := by decide +kernel
theorem dX5_isNumber_24 : decode cX5_isNumber 24 = .ok (.isub, 1) := by decide +kernel
theorem dX5_isNumber_25 : decode cX5_isNumber 25 = .ok (.istore_n 2, 1) := by decide +kernel
theorem dX5_isNumber_26 : decode cX5_isNumber 26 = .ok (.aload_n 0, 1) := by decide +kernel
theorem dX5_isNumber_27 : decode cX5_isNumber 27 = .ok (.dup, 1) := by decide +kernel
theorem dX5_isNumber_28 : decode cX5_isNumber 28 = .ok (.getfield 147, 3) := by decide +kernel
theorem dX5_isNumber_31 : decode cX5_isNumber 31 = .ok (.iconst 1, 1) := by decide +kernel
theorem dX5_isNumber_32 : decode cX5_isNumber 32 = .ok (.iadd, 1) := by decide +kernel
theorem dX5_isNumber_33 : decode cX5_isNumber 33 = .ok (.putfield 147, 3) := by decide +kernel
theorem dX5_isNumber_36 : decode cX5_isNumber 36 = .ok (.iload_n 2, 1) := by decide +kernel
theorem dX5_isNumber_37 : decode cX5_isNumber 37 = .ok (.ifCond .le 51, 3) := by decide +kernel
theorem dX5_isNumber_40 : decode cX5_isNumber 40 = .ok (.iload_n 2, 1) := by decide +kernel
theorem dX5_isNumber_41 : decode cX5_isNumber 41 = .ok (.bipush 100, 2) := by decide +kernel
theorem dX5_isNumber_43 : decode cX5_isNumber 43 = .ok (.if_icmp .ge 45, 3) := by decide +kernel
theorem dX5_isNumber_46 : decode cX5_isNumber 46 = .ok (.aload_n 0, 1) := by decide +kernel
theorem dX5_isNumber_47 : decode cX5_isNumber 47 = .ok (.bipush 48, 2) := by decide +kernel
theorem dX5_isNumber_49 : decode cX5_isNumber 49 = .ok (.bipush 57, 2) := by decide +kernel
theorem dX5_isNumber_51 : decode cX5_isNumber 51 = .ok (.invokevirtual 150, 3) := by decide +kernel
theorem dX5_isNumber_54 : decode cX5_isNumber 54 = .ok (.ifCond .eq 34, 3) := by decide +kernel
theorem dX5_isNumber_57 : decode cX5_isNumber 57 = .ok (.bipush 10, 2) := by decide +kernel
theorem dX5_isNumber_59 : decode cX5_isNumber 59 = .ok (.iload_n 2, 1) := by decide +kernel
theorem dX5_isNumber_60 : decode cX5_isNumber 60 = .ok (.imul, 1) := by decide +kernel
theorem dX5_isNumber_61 : decode cX5_isNumber 61 = .ok (.aload_n 0, 1) := by decide +kernel
theorem dX5_isNumber_62 : decode cX5_isNumber 62 = .ok (.getfield 26, 3) := by decide +kernel
theorem dX5_isNumber_65 : decode cX5_isNumber 65 = .ok (.aload_n 0, 1) := by decide +kernel
theorem dX5_isNumber_66 : decode cX5_isNumber 66 = .ok (.getfield 147, 3) := by decide +kernel
theorem dX5_isNumber_69 : decode cX5_isNumber 69 = .ok (.iaload, 1) := by decide +kernel
theorem dX5_isNumber_70 : decode cX5_isNumber 70 = .ok (.iadd, 1) := by decide +kernel
theorem dX5_isNumber_71 : decode cX5_isNumber 71 = .ok (.bipush 48, 2) := by decide +kernel
theorem dX5_isNumber_73 : decode cX5_isNumber 73 = .ok (.isub, 1) := by decide +kernel
theorem dX5_isNumber_74 : decode cX5_isNumber 74 = .ok (.istore_n 2, 1) := by decide +kernel
theorem dX5_isNumber_75 : decode cX5_isNumber 75 = .ok (.aload_n 0, 1) := by decide +kernel
theorem dX5_isNumber_76 : decode cX5_isNumber 76 = .ok (.dup, 1) := by decide +kernel
theorem dX5_isNumber_77 : decode cX5_isNumber 77 = .ok (.getfield 147, 3) := by decide +kernel
theorem dX5_isNumber_80 : decode cX5_isNumber 80 = .ok (.iconst 1, 1) := by decide +kernel
theorem dX5_isNumber_81 : decode cX5_isNumber 81 = .ok (.iadd, 1) := by decide +kernel
theorem dX5_isNumber_82 : decode cX5_isNumber 82 = .ok (.putfield 147, 3) := by decide +kernel
theorem dX5_isNumber_85 : decode cX5_isNumber 85 = .ok (.goto (-49), 3) := by decide +kernel
theorem dX5_isNumber_88 : decode cX5_isNumber 88 = .ok (.aload_n 0, 1) := by decide +kernel
theorem dX5_isNumber_89 : decode cX5_isNumber 89 = .ok (.getfield 29, 3) := by decide +kernel
theorem dX5_isNumber_92 : decode cX5_isNumber 92 = .ok (.iconst 3, 1) := by decide +kernel
theorem dX5_isNumber_93 : decode cX5_isNumber 93 = .ok (.aload_n 0, 1) := by decide +kernel
theorem dX5_isNumber_94 : decode cX5_isNumber 94 = .ok (.getfield 153, 3) := by decide +kernel
theorem dX5_isNumber_97 : decode cX5_isNumber 97 = .ok (.imul, 1) := by decide +kernel
theorem dX5_isNumber_98 : decode cX5_isNumber 98 = .ok (.iload_n 1, 1) := by decide +kernel
theorem dX5_isNumber_99 : decode cX5_isNumber 99 = .ok (.iadd, 1) := by decide +kernel
theorem dX5_isNumber_100 : decode cX5_isNumber 100 = .ok (.iload_n 2, 1) := by decide +kernel
theorem dX5_isNumber_101 : decode cX5_isNumber 101 = .ok (.iastore, 1) := by decide +kernel
theorem dX5_isNumber_102 : decode cX5_isNumber 102 = .ok (.iconst 1, 1) := by decide +kernel
theorem dX5_isNumber_103 : decode cX5_isNumber 103 = .ok (.ireturn, 1) := by decide +kernel
set_option maxRecDepth 20000 in
theorem ggX5_isOrder_X5_isNumber : GoodIn wsX5_isOrder wsX5_isNumber := goodIn_r _ [10, 3, 1, 4, 5, 11, 12, 13, 9, 14, 2, 15, 16, 17, 22, 23, 24, 25, 26, 27, 28, 29, 30, 31, 32] (by decide +kernel) (by decide +kernel)
set_option maxRecDepth 20000 in
theorem gX5_isOrder_X5_isNumber : GoodIn wsX5_isOrder (wsV RX5 156 RX5 yX5_isNumber wsX5_isNumber) := goodIn_app (goodIn_of _ (by decide +kernel)) ggX5_isOrder_X5_isNumber
set_option maxRecDepth 20000 in
theorem ggX5_isOrder_X5_isSign : GoodIn wsX5_isOrder wsX5_isSign := goodIn_r _ [21, 1, 11, 12, 13, 9, 14, 2, 3, 15, 16, 17, 22, 23, 24, 25, 26, 27, 28, 29, 30, 31, 32] (by decide +kernel) (by decide +kernel)
set_option maxRecDepth 20000 in
theorem gX5_isOrder_X5_isSign : GoodIn wsX5_isOrder (wsV RX5 159 RX5 yX5_isSign wsX5_isSign) := goodIn_app (goodIn_of _ (by decide +kernel)) ggX5_isOrder_X5_isSign
theorem dX5_isOrder_0 : decode cX5_isOrder 0 = .ok (.aload_n 0, 1) := by decide +kernel
theorem dX5_isOrder_1 : decode cX5_isOrder 1 = .ok (.getfield 147, 3) := by decide +kernel
theorem dX5_isOrder_4 : decode cX5_isOrder 4 = .ok (.aload_n 0, 1) := by decide +kernel
theorem dX5_isOrder_5 : decode cX5_isOrder 5 = .ok (.getfield 112, 3) := by decide +kernel
theorem dX5_isOrder_8 : decode cX5_isOrder 8 = .ok (.if_icmp .ge 15, 3) := by decide +kernel
theorem dX5_isOrder_11 : decode cX5_isOrder 11 = .ok (.aload_n 0, 1) := by decide +kernel
theorem dX5_isOrder_12 : decode cX5_isOrder 12 = .ok (.getfield 26, 3) := by decide +kernel
theorem dX5_isOrder_15 : decode cX5_isOrder 15 = .ok (.aload_n 0, 1) := by decide +kernel
theorem dX5_isOrder_16 : decode cX5_isOrder 16 = .ok (.getfield 147, 3) := by decide +kernel
theorem dX5_isOrder_19 : decode cX5_isOrder 19 = .ok (.iaload, 1) := by decide +kernel
theorem dX5_isOrder_20 : decode cX5_isOrder 20 = .ok (.goto 4, 3) := by decide +kernel
theorem dX5_isOrder_23 : decode cX5_isOrder 23 = .ok (.iconst 0, 1) := by decide +kernel
theorem dX5_isOrder_24 : decode cX5_isOrder 24 = .ok (.istore_n 1, 1) := by decide +kernel
theorem dX5_isOrder_25 : decode cX5_isOrder 25 = .ok (.aload_n 0, 1) := by decide +kernel
theorem dX5_isOrder_26 : decode cX5_isOrder 26 = .ok (.getfield 29, 3) := by decide +kernel
theorem dX5_isOrder_29 : decode cX5_isOrder 29 = .ok (.iconst 3, 1) := by decide +kernel
theorem dX5_isOrder_30 : decode cX5_isOrder 30 = .ok (.aload_n 0, 1) := by decide +kernel
theorem dX5_isOrder_31 : decode cX5_isOrder 31 = .ok (.getfield 153, 3) := by decide +kernel
theorem dX5_isOrder_34 : decode cX5_isOrder 34 = .ok (.imul, 1) := by decide +kernel
theorem dX5_isOrder_35 : decode cX5_isOrder 35 = .ok (.iload_n 1, 1) := by decide +kernel
theorem dX5_isOrder_36 : decode cX5_isOrder 36 = .ok (.iastore, 1) := by decide +kernel
theorem dX5_isOrder_37 : decode cX5_isOrder 37 = .ok (.iload_n 1, 1) := by decide +kernel
theorem dX5_isOrder_38 : decode cX5_isOrder 38 = .ok (.lookupswitch 115 #[(60, 58), (62, 58), (105, 58), (111, 58), (116, 58), (118, 74)], 58) := by decide +kernel
theorem dX5_isOrder_96 : decode cX5_isOrder 96 = .ok (.aload_n 0, 1) := by decide +kernel
theorem dX5_isOrder_97 : decode cX5_isOrder 97 = .ok (.dup, 1) := by decide +kernel
theorem dX5_isOrder_98 : decode cX5_isOrder 98 = .ok (.getfield 147, 3) := by decide +kernel
theorem dX5_isOrder_101 : decode cX5_isOrder 101 = .ok (.iconst 1, 1) := by decide +kernel
theorem dX5_isOrder_102 : decode cX5_isOrder 102 = .ok (.iadd, 1) := by decide +kernel
theorem dX5_isOrder_103 : decode cX5_isOrder 103 = .ok (.putfield 147, 3) := by decide +kernel
theorem dX5_isOrder_106 : decode cX5_isOrder 106 = .ok (.aload_n 0, 1) := by decide +kernel
theorem dX5_isOrder_107 : decode cX5_isOrder 107 = .ok (.iconst 1, 1) := by decide +kernel
theorem dX5_isOrder_108 : decode cX5_isOrder 108 = .ok (.invokevirtual 156, 3) := by decide +kernel
theorem dX5_isOrder_111 : decode cX5_isOrder 111 = .ok (.ireturn, 1) := by decide +kernel
theorem dX5_isOrder_112 : decode cX5_isOrder 112 = .ok (.aload_n 0, 1) := by decide +kernel
theorem dX5_isOrder_113 : decode cX5_isOrder 113 = .ok (.dup, 1) := by decide +kernel
theorem dX5_isOrder_114 : decode cX5_isOrder 114 = .ok (.getfield 147, 3) := by decide +kernel
theorem dX5_isOrder_117 : decode cX5_isOrder 117 = .ok (.iconst 1, 1) := by decide +kernel
theorem dX5_isOrder_118 : decode cX5_isOrder 118 = .ok (.iadd, 1) := by decide +kernel
theorem dX5_isOrder_119 : decode cX5_isOrder 119 = .ok (.putfield 147, 3) := by decide +kernel
theorem dX5_isOrder_122 : decode cX5_isOrder 122 = .ok (.aload_n 0, 1) := by decide +kernel
theorem dX5_isOrder_123 : decode cX5_isOrder 123 = .ok (.iconst 1, 1) := by decide +kernel
theorem dX5_isOrder_124 : decode cX5_isOrder 124 = .ok (.invokevirtual 156, 3) := by decide +kernel
theorem dX5_isOrder_127 : decode cX5_isOrder 127 = .ok (.ifCond .eq 24, 3) := by decide +kernel
theorem dX5_isOrder_130 : decode cX5_isOrder 130 = .ok (.aload_n 0, 1) := by decide +kernel
theorem dX5_isOrder_131 : decode cX5_isOrder 131 = .ok (.bipush 61, 2) := by decide +kernel
theorem dX5_isOrder_133 : decode cX5_isOrder 133 = .ok (.invokevirtual 159, 3) := by decide +kernel
theorem dX5_isOrder_136 : decode cX5_isOrder 136 = .ok (.ifCond .eq 15, 3) := by decide +kernel
theorem dX5_isOrder_139 : decode cX5_isOrder 139 = .ok (.aload_n 0, 1) := by decide +kernel
theorem dX5_isOrder_140 : decode cX5_isOrder 140 = .ok (.iconst 2, 1) := by decide +kernel
theorem dX5_isOrder_141 : decode cX5_isOrder 141 = .ok (.invokevirtual 156, 3) := by decide +kernel
theorem dX5_isOrder_144 : decode cX5_isOrder 144 = .ok (.ifCond .eq 7, 3) := by decide +kernel
theorem dX5_isOrder_147 : decode cX5_isOrder 147 = .ok (.iconst 1, 1) := by decide +kernel
theorem dX5_isOrder_148 : decode cX5_isOrder 148 = .ok (.goto 4, 3) := by decide +kernel
theorem dX5_isOrder_151 : decode cX5_isOrder 151 = .ok (.iconst 0, 1) := by decide +kernel
theorem dX5_isOrder_152 : decode cX5_isOrder 152 = .ok (.ireturn, 1) := by decide +kernel
theorem dX5_isOrder_153 : decode cX5_isOrder 153 = .ok (.iconst 0, 1) := by decide +kernel
theorem dX5_isOrder_154 : decode cX5_isOrder 154 = .ok (.ireturn, 1) := by decide +kernel
set_option maxRecDepth 20000 in
theorem ggX5_isText_X5_isOrder : GoodIn wsX5_isText wsX5_isOrder := goodIn_r _ [8, 1, 3, 9, 10, 2, 11, 12, 13, 7, 14, 15, 16, 17, 18, 19, 20, 21, 22, 23, 24, 25, 26, 27, 28, 29, 30, 31, 32, 33, 34, 35, 36] (by decide +kernel) (by decide +kernel)
set_option maxRecDepth 20000 in
theorem gX5_isText_X5_isOrder : GoodIn wsX5_isText (wsV RX5 162 RX5 yX5_isOrder wsX5_isOrder) := goodIn_app (goodIn_of _ (by decide +kernel)) ggX5_isText_X5_isOrder
set_option maxRecDepth 20000 in
theorem ggX5_isText_X5_isSign : GoodIn wsX5_isText wsX5_isSign := goodIn_r _ [25, 1, 15, 16, 17, 7, 18, 3, 9, 19, 20, 21, 26, 27, 28, 29, 30, 31, 32, 33, 34, 35, 36] (by decide +kernel) (by decide +kernel)
set_option maxRecDepth 20000 in
theorem gX5_isText_X5_isSign : GoodIn wsX5_isText (wsV RX5 159 RX5 yX5_isSign wsX5_isSign) := goodIn_app (goodIn_of _ (by decide +kernel)) ggX5_isText_X5_isSign
theorem dX5_isText_0 : decode cX5_isText 0 = .ok (.aload_n 0, 1) := by decide +kernel
theorem dX5_isText_1 : decode cX5_isText 1 = .ok (.iconst 0, 1) := by decide +kernel
theorem dX5_isText_2 : decode cX5_isText 2 = .ok (.putfield 147, 3) := by decide +kernel
theorem dX5_isText_5 : decode cX5_isText 5 = .ok (.aload_n 0, 1) := by decide +kernel
theorem dX5_isText_6 : decode cX5_isText 6 = .ok (.iconst 0, 1) := by decide +kernel
theorem dX5_isText_7 : decode cX5_isText 7 = .ok (.putfield 153, 3) := by decide +kernel
theorem dX5_isText_10 : decode cX5_isText 10 = .ok (.iconst 1, 1) := by decide +kernel
theorem dX5_isText_11 : decode cX5_isText 11 = .ok (.istore_n 1, 1) := by decide +kernel
theorem dX5_isText_12 : decode cX5_isText 12 = .ok (.iload_n 1, 1) := by decide +kernel
theorem dX5_isText_13 : decode cX5_isText 13 = .ok (.ifCond .eq 32, 3) := by decide +kernel
theorem dX5_isText_16 : decode cX5_isText 16 = .ok (.aload_n 0, 1) := by decide +kernel
theorem dX5_isText_17 : decode cX5_isText 17 = .ok (.invokevirtual 162, 3) := by decide +kernel
theorem dX5_isText_20 : decode cX5_isText 20 = .ok (.ifCond .ne 5, 3) := by decide +kernel
theorem dX5_isText_23 : decode cX5_isText 23 = .ok (.iconst 0, 1) := by decide +kernel
theorem dX5_isText_24 : decode cX5_isText 24 = .ok (.ireturn, 1) := by decide +kernel
theorem dX5_isText_25 : decode cX5_isText 25 = .ok (.aload_n 0, 1) := by decide +kernel
theorem dX5_isText_26 : decode cX5_isText 26 = .ok (.dup, 1) := by decide +kernel
theorem dX5_isText_27 : decode cX5_isText 27 = .ok (.getfield 153, 3) := by decide +kernel
theorem dX5_isText_30 : decode cX5_isText 30 = .ok (.iconst 1, 1) := by decide +kernel
theorem dX5_isText_31 : decode cX5_isText 31 = .ok (.iadd, 1) := by decide +kernel
theorem dX5_isText_32 : decode cX5_isText 32 = .ok (.putfield 153, 3) := by decide +kernel
theorem dX5_isText_35 : decode cX5_isText 35 = .ok (.aload_n 0, 1) := by decide +kernel
theorem dX5_isText_36 : decode cX5_isText 36 = .ok (.bipush 59, 2) := by decide +kernel
theorem dX5_isText_38 : decode cX5_isText 38 = .ok (.invokevirtual 159, 3) := by decide +kernel
theorem dX5_isText_41 : decode cX5_isText 41 = .ok (.istore_n 1, 1) := by decide +kernel
theorem dX5_isText_42 : decode cX5_isText 42 = .ok (.goto (-30), 3) := by decide +kernel
theorem dX5_isText_45 : decode cX5_isText 45 = .ok (.aload_n 0, 1) := by decide +kernel
theorem dX5_isText_46 : decode cX5_isText 46 = .ok (.getfield 147, 3) := by decide +kernel
theorem dX5_isText_49 : decode cX5_isText 49 = .ok (.aload_n 0, 1) := by decide +kernel
theorem dX5_isText_50 : decode cX5_isText 50 = .ok (.getfield 112, 3) := by decide +kernel
theorem dX5_isText_53 : decode cX5_isText 53 = .ok (.if_icmp .ne 7, 3) := by decide +kernel
theorem dX5_isText_56 : decode cX5_isText 56 = .ok (.iconst 1, 1) := by decide +kernel
theorem dX5_isText_57 : decode cX5_isText 57 = .ok (.goto 4, 3) := by decide +kernel
theorem dX5_isText_60 : decode cX5_isText 60 = .ok (.iconst 0, 1) := by decide +kernel
theorem dX5_isText_61 : decode cX5_isText 61 = .ok (.ireturn, 1) := by decide +kernel
set_option maxRecDepth 20000 in
theorem ggX5_fault_X5_isText : GoodIn wsX5_fault wsX5_isText := goodIn_r _ [6, 1, 7, 8, 9, 10, 11, 5, 12, 13, 14, 15, 16, 17, 18, 19, 20, 21, 22, 23, 24, 25, 26, 27, 28, 29, 30, 31, 32, 33, 34, 35, 36, 37, 38, 39, 40] (by decide +kernel) (by decide +kernel)
set_option maxRecDepth 20000 in
theorem gX5_fault_X5_isText : GoodIn wsX5_fault (wsV RX5 166 RX5 yX5_isText wsX5_isText) := goodIn_app (goodIn_of _ (by decide +kernel)) ggX5_fault_X5_isText
theorem dX5_fault_0 : decode cX5_fault 0 = .ok (.aload_n 0, 1) := by decide +kernel
theorem dX5_fault_1 : decode cX5_fault 1 = .ok (.invokevirtual 166, 3) := by decide +kernel
theorem dX5_fault_4 : decode cX5_fault 4 = .ok (.ifCond .eq 8, 3) := by decide +kernel
theorem dX5_fault_7 : decode cX5_fault 7 = .ok (.bipush (-6), 2) := by decide +kernel
theorem dX5_fault_9 : decode cX5_fault 9 = .ok (.goto 7, 3) := by decide +kernel
theorem dX5_fault_12 : decode cX5_fault 12 = .ok (.aload_n 0, 1) := by decide +kernel
theorem dX5_fault_13 : decode cX5_fault 13 = .ok (.getfield 147, 3) := by decide +kernel
theorem dX5_fault_16 : decode cX5_fault 16 = .ok (.ireturn, 1) := by decide +kernel
set_option maxRecDepth 20000 in
theorem ggX5_mayDo_X5_isFor : GoodIn wsX5_mayDo wsX5_isFor := goodIn_r _ [4, 5, 6, 3, 7] (by decide +kernel) (by decide +kernel)
set_option maxRecDepth 20000 in
theorem gX5_mayDo_X5_isFor : GoodIn wsX5_mayDo (va_wsS RX5 87 yX5_isFor wsX5_isFor) := goodIn_app (goodIn_of _ (by decide +kernel)) ggX5_mayDo_X5_isFor
set_option maxRecDepth 20000 in
theorem ggX5_mayDo_X5_mayTell : GoodIn wsX5_mayDo wsX5_mayTell := goodIn_r _ [10, 5, 6, 3, 7] (by decide +kernel) (by decide +kernel)
set_option maxRecDepth 20000 in
theorem gX5_mayDo_X5_mayTell : GoodIn wsX5_mayDo (va_wsS RX5 95 yX5_mayTell wsX5_mayTell) := goodIn_app (goodIn_of _ (by decide +kernel)) ggX5_mayDo_X5_mayTell
set_option maxRecDepth 20000 in
theorem ggX5_mayDo_X5_mayPass : GoodIn wsX5_mayDo wsX5_mayPass := goodIn_r _ [14, 15, 16, 5, 6, 3, 7, 20, 21, 22, 23, 24, 25, 26, 27, 28, 29, 30] (by decide +kernel) (by decide +kernel)
set_option maxRecDepth 20000 in
theorem gX5_mayDo_X5_mayPass : GoodIn wsX5_mayDo (wsV RX5 105 RX5 yX5_mayPass wsX5_mayPass) := goodIn_app (goodIn_of _ (by decide +kernel)) ggX5_mayDo_X5_mayPass
set_option maxRecDepth 20000 in
theorem ggX5_mayDo_X5_maySlip : GoodIn wsX5_mayDo wsX5_maySlip := goodIn_r _ [19, 5, 6, 3, 7] (by decide +kernel) (by decide +kernel)
set_option maxRecDepth 20000 in
theorem gX5_mayDo_X5_maySlip : GoodIn wsX5_mayDo (va_wsS RX5 98 yX5_maySlip wsX5_maySlip) := goodIn_app (goodIn_of _ (by decide +kernel)) ggX5_mayDo_X5_maySlip
theorem dX5_mayDo_0 : decode cX5_mayDo 0 = .ok (.iload_n 1, 1) := by decide +kernel
theorem dX5_mayDo_1 : decode cX5_mayDo 1 = .ok (.lookupswitch 80 #[(105, 43), (111, 43), (116, 74), (118, 68)], 43) := by decide +kernel
theorem dX5_mayDo_44 : decode cX5_mayDo 44 = .ok (.iload_n 1, 1) := by decide +kernel
theorem dX5_mayDo_45 : decode cX5_mayDo 45 = .ok (.bipush 105, 2) := by decide +kernel
theorem dX5_mayDo_47 : decode cX5_mayDo 47 = .ok (.if_icmp .ne 7, 3) := by decide +kernel
theorem dX5_mayDo_50 : decode cX5_mayDo 50 = .ok (.iconst 0, 1) := by decide +kernel
theorem dX5_mayDo_51 : decode cX5_mayDo 51 = .ok (.goto 4, 3) := by decide +kernel
theorem dX5_mayDo_54 : decode cX5_mayDo 54 = .ok (.iconst 1, 1) := by decide +kernel
theorem dX5_mayDo_55 : decode cX5_mayDo 55 = .ok (.iload_n 2, 1) := by decide +kernel
theorem dX5_mayDo_56 : decode cX5_mayDo 56 = .ok (.invokestatic 87, 3) := by decide +kernel
theorem dX5_mayDo_59 : decode cX5_mayDo 59 = .ok (.ifCond .eq 7, 3) := by decide +kernel
theorem dX5_mayDo_62 : decode cX5_mayDo 62 = .ok (.iconst 0, 1) := by decide +kernel
theorem dX5_mayDo_63 : decode cX5_mayDo 63 = .ok (.goto 5, 3) := by decide +kernel
theorem dX5_mayDo_66 : decode cX5_mayDo 66 = .ok (.bipush (-2), 2) := by decide +kernel
theorem dX5_mayDo_68 : decode cX5_mayDo 68 = .ok (.ireturn, 1) := by decide +kernel
theorem dX5_mayDo_69 : decode cX5_mayDo 69 = .ok (.iload_n 2, 1) := by decide +kernel
theorem dX5_mayDo_70 : decode cX5_mayDo 70 = .ok (.iload_n 3, 1) := by decide +kernel
theorem dX5_mayDo_71 : decode cX5_mayDo 71 = .ok (.invokestatic 95, 3) := by decide +kernel
theorem dX5_mayDo_74 : decode cX5_mayDo 74 = .ok (.ireturn, 1) := by decide +kernel
theorem dX5_mayDo_75 : decode cX5_mayDo 75 = .ok (.aload_n 0, 1) := by decide +kernel
theorem dX5_mayDo_76 : decode cX5_mayDo 76 = .ok (.iload_n 2, 1) := by decide +kernel
theorem dX5_mayDo_77 : decode cX5_mayDo 77 = .ok (.invokevirtual 105, 3) := by decide +kernel
theorem dX5_mayDo_80 : decode cX5_mayDo 80 = .ok (.ireturn, 1) := by decide +kernel
theorem dX5_mayDo_81 : decode cX5_mayDo 81 = .ok (.iconst 0, 1) := by decide +kernel
theorem dX5_mayDo_82 : decode cX5_mayDo 82 = .ok (.iload_n 2, 1) := by decide +kernel
theorem dX5_mayDo_83 : decode cX5_mayDo 83 = .ok (.invokestatic 98, 3) := by decide +kernel
theorem dX5_mayDo_86 : decode cX5_mayDo 86 = .ok (.ireturn, 1) := by decide +kernel
set_option maxRecDepth 20000 in
theorem ggX5_does_X5_mayDo : GoodIn wsX5_does wsX5_mayDo := goodIn_r _ [7, 8, 9, 6, 10, 11, 12, 13, 14, 15, 16, 17, 18, 19, 20, 2, 21, 22, 23, 24, 69, 70, 71, 72, 73, 74, 75, 76, 77, 78, 79] (by decide +kernel) (by decide +kernel)
set_option maxRecDepth 20000 in
theorem gX5_does_X5_mayDo : GoodIn wsX5_does (wsV RX5 169 RX5 yX5_mayDo wsX5_mayDo) := goodIn_app (goodIn_of _ (by decide +kernel)) ggX5_does_X5_mayDo
set_option maxRecDepth 20000 in
theorem ggX5_does_X5_changes : GoodIn wsX5_does wsX5_changes := goodIn_r _ [28, 2, 69, 70, 71, 72, 73, 74, 75, 76, 77, 78, 79] (by decide +kernel) (by decide +kernel)
set_option maxRecDepth 20000 in
theorem gX5_does_X5_changes : GoodIn wsX5_does (wsV RX5 91 RX5 yX5_changes wsX5_changes) := goodIn_app (goodIn_of _ (by decide +kernel)) ggX5_does_X5_changes
set_option maxRecDepth 20000 in
theorem ggX5_does_X5_passes : GoodIn wsX5_does wsX5_passes := goodIn_r _ [31, 32, 33, 6, 34, 35, 36, 37, 38, 39, 40, 41, 42, 43, 44, 45, 46, 47, 48, 49, 50, 51, 52, 53, 54, 55, 56, 57, 58, 59, 60, 61, 62, 63, 64] (by decide +kernel) (by decide +kernel)
set_option maxRecDepth 20000 in
theorem gX5_does_X5_passes : GoodIn wsX5_does (va_wsS RX5 109 yX5_passes wsX5_passes) := goodIn_app (goodIn_of _ (by decide +kernel)) ggX5_does_X5_passes
set_option maxRecDepth 20000 in
theorem ggX5_does_X5_slips : GoodIn wsX5_does wsX5_slips := goodIn_r _ [68, 2, 69, 70, 71, 72, 73, 74, 75, 76, 77, 78, 79] (by decide +kernel) (by decide +kernel)
set_option maxRecDepth 20000 in
theorem gX5_does_X5_slips : GoodIn wsX5_does (wsV RX5 101 RX5 yX5_slips wsX5_slips) := goodIn_app (goodIn_of _ (by decide +kernel)) ggX5_does_X5_slips
theorem dX5_does_0 : decode cX5_does 0 = .ok (.aload_n 0, 1) := by decide +kernel
theorem dX5_does_1 : decode cX5_does 1 = .ok (.getfield 29, 3) := by decide +kernel
theorem dX5_does_4 : decode cX5_does 4 = .ok (.iconst 3, 1) := by decide +kernel
theorem dX5_does_5 : decode cX5_does 5 = .ok (.iload_n 1, 1) := by decide +kernel
theorem dX5_does_6 : decode cX5_does 6 = .ok (.imul, 1) := by decide +kernel
theorem dX5_does_7 : decode cX5_does 7 = .ok (.iaload, 1) := by decide +kernel
theorem dX5_does_8 : decode cX5_does 8 = .ok (.istore_n 2, 1) := by decide +kernel
theorem dX5_does_9 : decode cX5_does 9 = .ok (.aload_n 0, 1) := by decide +kernel
theorem dX5_does_10 : decode cX5_does 10 = .ok (.getfield 29, 3) := by decide +kernel
theorem dX5_does_13 : decode cX5_does 13 = .ok (.iconst 3, 1) := by decide +kernel
theorem dX5_does_14 : decode cX5_does 14 = .ok (.iload_n 1, 1) := by decide +kernel
theorem dX5_does_15 : decode cX5_does 15 = .ok (.imul, 1) := by decide +kernel
theorem dX5_does_16 : decode cX5_does 16 = .ok (.iconst 1, 1) := by decide +kernel
theorem dX5_does_17 : decode cX5_does 17 = .ok (.iadd, 1) := by decide +kernel
theorem dX5_does_18 : decode cX5_does 18 = .ok (.iaload, 1) := by decide +kernel
theorem dX5_does_19 : decode cX5_does 19 = .ok (.istore_n 3, 1) := by decide +kernel
theorem dX5_does_20 : decode cX5_does 20 = .ok (.aload_n 0, 1) := by decide +kernel
theorem dX5_does_21 : decode cX5_does 21 = .ok (.getfield 29, 3) := by decide +kernel
theorem dX5_does_24 : decode cX5_does 24 = .ok (.iconst 3, 1) := by decide +kernel
theorem dX5_does_25 : decode cX5_does 25 = .ok (.iload_n 1, 1) := by decide +kernel
theorem dX5_does_26 : decode cX5_does 26 = .ok (.imul, 1) := by decide +kernel
theorem dX5_does_27 : decode cX5_does 27 = .ok (.iconst 2, 1) := by decide +kernel
theorem dX5_does_28 : decode cX5_does 28 = .ok (.iadd, 1) := by decide +kernel
theorem dX5_does_29 : decode cX5_does 29 = .ok (.iaload, 1) := by decide +kernel
theorem dX5_does_30 : decode cX5_does 30 = .ok (.istore 4, 2) := by decide +kernel
theorem dX5_does_32 : decode cX5_does 32 = .ok (.aload_n 0, 1) := by decide +kernel
theorem dX5_does_33 : decode cX5_does 33 = .ok (.iload_n 2, 1) := by decide +kernel
theorem dX5_does_34 : decode cX5_does 34 = .ok (.iload_n 3, 1) := by decide +kernel
theorem dX5_does_35 : decode cX5_does 35 = .ok (.iload 4, 2) := by decide +kernel
theorem dX5_does_37 : decode cX5_does 37 = .ok (.invokevirtual 169, 3) := by decide +kernel
theorem dX5_does_40 : decode cX5_does 40 = .ok (.ifCond .eq 5, 3) := by decide +kernel
theorem dX5_does_43 : decode cX5_does 43 = .ok (.iconst 0, 1) := by decide +kernel
theorem dX5_does_44 : decode cX5_does 44 = .ok (.ireturn, 1) := by decide +kernel
theorem dX5_does_45 : decode cX5_does 45 = .ok (.iload_n 2, 1) := by decide +kernel
theorem dX5_does_46 : decode cX5_does 46 = .ok (.lookupswitch 89 #[(105, 42), (111, 42), (116, 78), (118, 64)], 42) := by decide +kernel
theorem dX5_does_88 : decode cX5_does 88 = .ok (.aload_n 0, 1) := by decide +kernel
theorem dX5_does_89 : decode cX5_does 89 = .ok (.iconst 1, 1) := by decide +kernel
theorem dX5_does_90 : decode cX5_does 90 = .ok (.iload_n 2, 1) := by decide +kernel
theorem dX5_does_91 : decode cX5_does 91 = .ok (.bipush 105, 2) := by decide +kernel
theorem dX5_does_93 : decode cX5_does 93 = .ok (.if_icmp .ne 7, 3) := by decide +kernel
theorem dX5_does_96 : decode cX5_does 96 = .ok (.iconst 0, 1) := by decide +kernel
theorem dX5_does_97 : decode cX5_does 97 = .ok (.goto 4, 3) := by decide +kernel
theorem dX5_does_100 : decode cX5_does 100 = .ok (.iconst 1, 1) := by decide +kernel
theorem dX5_does_101 : decode cX5_does 101 = .ok (.iadd, 1) := by decide +kernel
theorem dX5_does_102 : decode cX5_does 102 = .ok (.iload_n 3, 1) := by decide +kernel
theorem dX5_does_103 : decode cX5_does 103 = .ok (.invokevirtual 91, 3) := by decide +kernel
theorem dX5_does_106 : decode cX5_does 106 = .ok (.pop, 1) := by decide +kernel
theorem dX5_does_107 : decode cX5_does 107 = .ok (.goto 45, 3) := by decide +kernel
theorem dX5_does_110 : decode cX5_does 110 = .ok (.aload_n 0, 1) := by decide +kernel
theorem dX5_does_111 : decode cX5_does 111 = .ok (.bipush 26, 2) := by decide +kernel
theorem dX5_does_113 : decode cX5_does 113 = .ok (.iload_n 3, 1) := by decide +kernel
theorem dX5_does_114 : decode cX5_does 114 = .ok (.iadd, 1) := by decide +kernel
theorem dX5_does_115 : decode cX5_does 115 = .ok (.iload 4, 2) := by decide +kernel
theorem dX5_does_117 : decode cX5_does 117 = .ok (.invokevirtual 91, 3) := by decide +kernel
theorem dX5_does_120 : decode cX5_does 120 = .ok (.pop, 1) := by decide +kernel
theorem dX5_does_121 : decode cX5_does 121 = .ok (.goto 31, 3) := by decide +kernel
theorem dX5_does_124 : decode cX5_does 124 = .ok (.aload_n 0, 1) := by decide +kernel
theorem dX5_does_125 : decode cX5_does 125 = .ok (.getfield 7, 3) := by decide +kernel
theorem dX5_does_128 : decode cX5_does 128 = .ok (.iload_n 3, 1) := by decide +kernel
theorem dX5_does_129 : decode cX5_does 129 = .ok (.invokestatic 109, 3) := by decide +kernel
theorem dX5_does_132 : decode cX5_does 132 = .ok (.goto 20, 3) := by decide +kernel
theorem dX5_does_135 : decode cX5_does 135 = .ok (.aload_n 0, 1) := by decide +kernel
theorem dX5_does_136 : decode cX5_does 136 = .ok (.iload_n 2, 1) := by decide +kernel
theorem dX5_does_137 : decode cX5_does 137 = .ok (.bipush 60, 2) := by decide +kernel
theorem dX5_does_139 : decode cX5_does 139 = .ok (.if_icmp .ne 7, 3) := by decide +kernel
theorem dX5_does_142 : decode cX5_does 142 = .ok (.iconst 0, 1) := by decide +kernel
theorem dX5_does_143 : decode cX5_does 143 = .ok (.goto 4, 3) := by decide +kernel
theorem dX5_does_146 : decode cX5_does 146 = .ok (.iconst 1, 1) := by decide +kernel
theorem dX5_does_147 : decode cX5_does 147 = .ok (.iload_n 3, 1) := by decide +kernel
theorem dX5_does_148 : decode cX5_does 148 = .ok (.invokevirtual 101, 3) := by decide +kernel
theorem dX5_does_151 : decode cX5_does 151 = .ok (.pop, 1) := by decide +kernel
theorem dX5_does_152 : decode cX5_does 152 = .ok (.iconst 1, 1) := by decide +kernel
theorem dX5_does_153 : decode cX5_does 153 = .ok (.ireturn, 1) := by decide +kernel
set_option maxRecDepth 20000 in
theorem ggX5_carryOut_X5_isText : GoodIn wsX5_carryOut wsX5_isText := goodIn_r _ [7, 8, 2, 1, 9, 10, 11, 6, 12, 13, 14, 15, 16, 17, 18, 19, 20, 21, 22, 23, 24, 25, 26, 27, 28, 29, 106, 107, 108, 109, 110, 111, 112, 113, 114, 115, 116] (by decide +kernel) (by decide +kernel)
set_option maxRecDepth 20000 in
theorem gX5_carryOut_X5_isText : GoodIn wsX5_carryOut (wsV RX5 166 RX5 yX5_isText wsX5_isText) := goodIn_app (goodIn_of _ (by decide +kernel)) ggX5_carryOut_X5_isText
set_option maxRecDepth 20000 in
theorem ggX5_carryOut_X5_records : GoodIn wsX5_carryOut wsX5_records := goodIn_r _ [33, 34, 35, 36, 37, 38, 6, 39, 106, 107, 108, 109, 110, 111, 112, 113, 114, 115, 116] (by decide +kernel) (by decide +kernel)
set_option maxRecDepth 20000 in
theorem gX5_carryOut_X5_records : GoodIn wsX5_carryOut (wsV RX5 44 RX5 yX5_records wsX5_records) := goodIn_app (goodIn_of _ (by decide +kernel)) ggX5_carryOut_X5_records
set_option maxRecDepth 20000 in
theorem ggX5_carryOut_X5_does : GoodIn wsX5_carryOut wsX5_does := goodIn_r _ [43, 14, 36, 44, 45, 46, 6, 47, 48, 49, 50, 23, 24, 25, 51, 52, 53, 54, 55, 56, 57, 58, 59, 60, 61, 62, 63, 64, 65, 66, 67, 68, 69, 70, 71, 72, 73, 74, 75, 76, 77, 78, 79, 80, 81, 82, 83, 84, 85, 86, 87, 88, 89, 90, 91, 92, 93, 94, 95, 96, 97, 98, 99, 100, 101, 102, 103, 104, 105, 106, 107, 108, 109, 110, 111, 112, 113, 114, 115, 116] (by decide +kernel) (by decide +kernel)
set_option maxRecDepth 20000 in
theorem gX5_carryOut_X5_does : GoodIn wsX5_carryOut (wsV RX5 173 RX5 yX5_does wsX5_does) := goodIn_app (goodIn_of _ (by decide +kernel)) ggX5_carryOut_X5_does
theorem dX5_carryOut_0 : decode cX5_carryOut 0 = .ok (.aload_n 0, 1) := by decide +kernel
theorem dX5_carryOut_1 : decode cX5_carryOut 1 = .ok (.invokevirtual 166, 3) := by decide +kernel
theorem dX5_carryOut_4 : decode cX5_carryOut 4 = .ok (.ifCond .ne 6, 3) := by decide +kernel
theorem dX5_carryOut_7 : decode cX5_carryOut 7 = .ok (.bipush (-3), 2) := by decide +kernel
theorem dX5_carryOut_9 : decode cX5_carryOut 9 = .ok (.ireturn, 1) := by decide +kernel
theorem dX5_carryOut_10 : decode cX5_carryOut 10 = .ok (.aload_n 0, 1) := by decide +kernel
theorem dX5_carryOut_11 : decode cX5_carryOut 11 = .ok (.invokevirtual 44, 3) := by decide +kernel
theorem dX5_carryOut_14 : decode cX5_carryOut 14 = .ok (.aload_n 0, 1) := by decide +kernel
theorem dX5_carryOut_15 : decode cX5_carryOut 15 = .ok (.iconst 0, 1) := by decide +kernel
theorem dX5_carryOut_16 : decode cX5_carryOut 16 = .ok (.putfield 112, 3) := by decide +kernel
theorem dX5_carryOut_19 : decode cX5_carryOut 19 = .ok (.iconst 0, 1) := by decide +kernel
theorem dX5_carryOut_20 : decode cX5_carryOut 20 = .ok (.istore_n 1, 1) := by decide +kernel
theorem dX5_carryOut_21 : decode cX5_carryOut 21 = .ok (.iload_n 1, 1) := by decide +kernel
theorem dX5_carryOut_22 : decode cX5_carryOut 22 = .ok (.aload_n 0, 1) := by decide +kernel
theorem dX5_carryOut_23 : decode cX5_carryOut 23 = .ok (.getfield 153, 3) := by decide +kernel
theorem dX5_carryOut_26 : decode cX5_carryOut 26 = .ok (.if_icmp .ge 17, 3) := by decide +kernel
theorem dX5_carryOut_29 : decode cX5_carryOut 29 = .ok (.aload_n 0, 1) := by decide +kernel
theorem dX5_carryOut_30 : decode cX5_carryOut 30 = .ok (.iload_n 1, 1) := by decide +kernel
theorem dX5_carryOut_31 : decode cX5_carryOut 31 = .ok (.invokevirtual 173, 3) := by decide +kernel
theorem dX5_carryOut_34 : decode cX5_carryOut 34 = .ok (.ifCond .eq 9, 3) := by decide +kernel
theorem dX5_carryOut_37 : decode cX5_carryOut 37 = .ok (.iinc 1 1, 3) := by decide +kernel
theorem dX5_carryOut_40 : decode cX5_carryOut 40 = .ok (.goto (-19), 3) := by decide +kernel
theorem dX5_carryOut_43 : decode cX5_carryOut 43 = .ok (.iload_n 1, 1) := by decide +kernel
theorem dX5_carryOut_44 : decode cX5_carryOut 44 = .ok (.ireturn, 1) := by decide +kernel
theorem dJxe99ae_isNaN_b9ae7_0 : decode cJxe99ae_isNaN_b9ae7 0 = .ok (.dload_n 0, 1) := by decide +kernel
theorem dJxe99ae_isNaN_b9ae7_1 : decode cJxe99ae_isNaN_b9ae7 1 = .ok (.dload_n 0, 1) := by decide +kernel
theorem dJxe99ae_isNaN_b9ae7_2 : decode cJxe99ae_isNaN_b9ae7 2 = .ok (.dcmp .l, 1) := by decide +kernel
theorem dJxe99ae_isNaN_b9ae7_3 : decode cJxe99ae_isNaN_b9ae7 3 = .ok (.ifCond .eq 7, 3) := by decide +kernel
theorem dJxe99ae_isNaN_b9ae7_6 : decode cJxe99ae_isNaN_b9ae7 6 = .ok (.iconst 1, 1) := by decide +kernel
theorem dJxe99ae_isNaN_b9ae7_7 : decode cJxe99ae_isNaN_b9ae7 7 = .ok (.goto 4, 3) := by decide +kernel
theorem dJxe99ae_isNaN_b9ae7_10 : decode cJxe99ae_isNaN_b9ae7 10 = .ok (.iconst 0, 1) := by decide +kernel
theorem dJxe99ae_isNaN_b9ae7_11 : decode cJxe99ae_isNaN_b9ae7 11 = .ok (.ireturn, 1) := by decide +kernel
set_option maxRecDepth 20000 in
theorem ggJxe99ae_doubleToLongBits_ccdee_Jxe99ae_isNaN_b9ae7 : GoodIn wsJxe99ae_doubleToLongBits_ccdee wsJxe99ae_isNaN_b9ae7 := goodIn_r _ [9] (by decide +kernel) (by decide +kernel)
set_option maxRecDepth 20000 in
theorem gJxe99ae_doubleToLongBits_ccdee_Jxe99ae_isNaN_b9ae7 : GoodIn wsJxe99ae_doubleToLongBits_ccdee (va_wsS RJxe99ae 122 yJxe99ae_isNaN_b9ae7 wsJxe99ae_isNaN_b9ae7) := goodIn_app (goodIn_of _ (by decide +kernel)) ggJxe99ae_doubleToLongBits_ccdee_Jxe99ae_isNaN_b9ae7
theorem dJxe99ae_doubleToLongBits_ccdee_0 : decode cJxe99ae_doubleToLongBits_ccdee 0 = .ok (.dload_n 0, 1) := by decide +kernel
theorem dJxe99ae_doubleToLongBits_ccdee_1 : decode cJxe99ae_doubleToLongBits_ccdee 1 = .ok (.invokestatic 122, 3) := by decide +kernel
theorem dJxe99ae_doubleToLongBits_ccdee_4 : decode cJxe99ae_doubleToLongBits_ccdee 4 = .ok (.ifCond .ne 8, 3) := by decide +kernel
theorem dJxe99ae_doubleToLongBits_ccdee_7 : decode cJxe99ae_doubleToLongBits_ccdee 7 = .ok (.dload_n 0, 1) := by decide +kernel
theorem dJxe99ae_doubleToLongBits_ccdee_8 : decode cJxe99ae_doubleToLongBits_ccdee 8 = .ok (.invokestatic 134, 3) := by decide +kernel
theorem dJxe99ae_doubleToLongBits_ccdee_11 : decode cJxe99ae_doubleToLongBits_ccdee 11 = .ok (.lreturn, 1) := by decide +kernel
theorem dJxe99ae_doubleToLongBits_ccdee_12 : decode cJxe99ae_doubleToLongBits_ccdee 12 = .ok (.ldc2_w 137, 3) := by decide +kernel
theorem dJxe99ae_doubleToLongBits_ccdee_15 : decode cJxe99ae_doubleToLongBits_ccdee 15 = .ok (.lreturn, 1) := by decide +kernel
theorem dJxf58ca_isNaN_12338_0 : decode cJxf58ca_isNaN_12338 0 = .ok (.fload_n 0, 1) := by decide +kernel
theorem dJxf58ca_isNaN_12338_1 : decode cJxf58ca_isNaN_12338 1 = .ok (.fload_n 0, 1) := by decide +kernel
theorem dJxf58ca_isNaN_12338_2 : decode cJxf58ca_isNaN_12338 2 = .ok (.fcmp .l, 1) := by decide +kernel
theorem dJxf58ca_isNaN_12338_3 : decode cJxf58ca_isNaN_12338 3 = .ok (.ifCond .eq 7, 3) := by decide +kernel
theorem dJxf58ca_isNaN_12338_6 : decode cJxf58ca_isNaN_12338 6 = .ok (.iconst 1, 1) := by decide +kernel
theorem dJxf58ca_isNaN_12338_7 : decode cJxf58ca_isNaN_12338 7 = .ok (.goto 4, 3) := by decide +kernel
theorem dJxf58ca_isNaN_12338_10 : decode cJxf58ca_isNaN_12338 10 = .ok (.iconst 0, 1) := by decide +kernel
theorem dJxf58ca_isNaN_12338_11 : decode cJxf58ca_isNaN_12338 11 = .ok (.ireturn, 1) := by decide +kernel
set_option maxRecDepth 20000 in
theorem ggJxf58ca_floatToIntBits_5c35a_Jxf58ca_isNaN_12338 : GoodIn wsJxf58ca_floatToIntBits_5c35a wsJxf58ca_isNaN_12338 := goodIn_r _ [9] (by decide +kernel) (by decide +kernel)
set_option maxRecDepth 20000 in
theorem gJxf58ca_floatToIntBits_5c35a_Jxf58ca_isNaN_12338 : GoodIn wsJxf58ca_floatToIntBits_5c35a (va_wsS RJxf58ca 59 yJxf58ca_isNaN_12338 wsJxf58ca_isNaN_12338) := goodIn_app (goodIn_of _ (by decide +kernel)) ggJxf58ca_floatToIntBits_5c35a_Jxf58ca_isNaN_12338
theorem dJxf58ca_floatToIntBits_5c35a_0 : decode cJxf58ca_floatToIntBits_5c35a 0 = .ok (.fload_n 0, 1) := by decide +kernel
theorem dJxf58ca_floatToIntBits_5c35a_1 : decode cJxf58ca_floatToIntBits_5c35a 1 = .ok (.invokestatic 59, 3) := by decide +kernel
theorem dJxf58ca_floatToIntBits_5c35a_4 : decode cJxf58ca_floatToIntBits_5c35a 4 = .ok (.ifCond .ne 8, 3) := by decide +kernel
theorem dJxf58ca_floatToIntBits_5c35a_7 : decode cJxf58ca_floatToIntBits_5c35a 7 = .ok (.fload_n 0, 1) := by decide +kernel
theorem dJxf58ca_floatToIntBits_5c35a_8 : decode cJxf58ca_floatToIntBits_5c35a 8 = .ok (.invokestatic 74, 3) := by decide +kernel
theorem dJxf58ca_floatToIntBits_5c35a_11 : decode cJxf58ca_floatToIntBits_5c35a 11 = .ok (.ireturn, 1) := by decide +kernel
theorem dJxf58ca_floatToIntBits_5c35a_12 : decode cJxf58ca_floatToIntBits_5c35a 12 = .ok (.ldc 77, 2) := by decide +kernel
theorem dJxf58ca_floatToIntBits_5c35a_14 : decode cJxf58ca_floatToIntBits_5c35a 14 = .ok (.ireturn, 1) := by decide +kernel
theorem dJ9_max_7cf53_0 : decode cJ9_max_7cf53 0 = .ok (.iload_n 0, 1) := by decide +kernel
theorem dJ9_max_7cf53_1 : decode cJ9_max_7cf53 1 = .ok (.iload_n 1, 1) := by decide +kernel
theorem dJ9_max_7cf53_2 : decode cJ9_max_7cf53 2 = .ok (.if_icmp .lt 7, 3) := by decide +kernel
theorem dJ9_max_7cf53_5 : decode cJ9_max_7cf53 5 = .ok (.iload_n 0, 1) := by decide +kernel
theorem dJ9_max_7cf53_6 : decode cJ9_max_7cf53 6 = .ok (.goto 4, 3) := by decide +kernel
theorem dJ9_max_7cf53_9 : decode cJ9_max_7cf53 9 = .ok (.iload_n 1, 1) := by decide +kernel
theorem dJ9_max_7cf53_10 : decode cJ9_max_7cf53 10 = .ok (.ireturn, 1) := by decide +kernel
theorem dJ9_min_7cf53_0 : decode cJ9_min_7cf53 0 = .ok (.iload_n 0, 1) := by decide +kernel
theorem dJ9_min_7cf53_1 : decode cJ9_min_7cf53 1 = .ok (.iload_n 1, 1) := by decide +kernel
theorem dJ9_min_7cf53_2 : decode cJ9_min_7cf53 2 = .ok (.if_icmp .gt 7, 3) := by decide +kernel
theorem dJ9_min_7cf53_5 : decode cJ9_min_7cf53 5 = .ok (.iload_n 0, 1) := by decide +kernel
theorem dJ9_min_7cf53_6 : decode cJ9_min_7cf53 6 = .ok (.goto 4, 3) := by decide +kernel
theorem dJ9_min_7cf53_9 : decode cJ9_min_7cf53 9 = .ok (.iload_n 1, 1) := by decide +kernel
theorem dJ9_min_7cf53_10 : decode cJ9_min_7cf53 10 = .ok (.ireturn, 1) := by decide +kernel
